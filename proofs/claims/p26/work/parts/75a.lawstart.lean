/-! THE LAW, FROM ITS ENTRY -/
def qz_ar (a0 a1 a2 a3 a4 a5 a6 a7 a8 : Nat) : Nat → Nat := fun i => match i with
  | 0 => a0
  | 1 => a1
  | 2 => a2
  | 3 => a3
  | 4 => a4
  | 5 => a5
  | 6 => a6
  | 7 => a7
  | _ => a8
theorem lz_q0 : Cond.classLink RL 58 RX6 ∈ lw_tbl ∧ Cond.initialized RX6 ∈ lw_tbl ∧ Cond.methodLink RL 138 yX6_init ∈ lw_tbl ∧ Cond.instanceMethod yX6_init ∈ lw_tbl := by decide +kernel
set_option maxHeartbeats 4000000 in
set_option maxRecDepth 100000 in
theorem whole_start {p : Program} {e : Env} {s : State} {m : MethodId} {below : List Frame} {meth : Method} {c : Code} (l : Launch) (hflags : l.flags = flags0) {b L : Nat} {xs : Nat → Int32} (hL : L ≤ 260) (C0 : lw_At p s m meth c b L xs) : W p l e room_1 s m #[Value.ref b] below meth c s.heap [] 0 0 (lw_Z below #[Value.ref b] s) (entryFrame m ([Value.ref b] : List Value).toArray 23) := by
  obtain ⟨D, Y, hl0, hG, hB, hNC⟩ := lz_ctx hflags C0
  obtain ⟨hx, hb, hr, hml, hown, hts, hX, hbl, hlocks, hgv⟩ := id C0
  have hown : s.vm.findClass RL = some m.cls := hown
  have hts' : ∀ w ∈ wsL_law, w.before #[Value.ref b] s = true := fun w h => hts w (wsL_law_in w h)
  have hA : ∀ q : Nat, s.heap.size ≤ q → (fun q : Nat => s.heap.size ≤ q) q := fun _ h => h
  have hS : va_S (fun q : Nat => s.heap.size ≤ q) s.heap s.heap [] := va_S.rf
  have hP : va_P D vwCl [] s.heap := fun k q h => by simp at h
  have hD : va_D (fun q : Nat => s.heap.size ≤ q) [] := ⟨fun i j p q h => by simp at h, fun k q h => by simp at h⟩
  have hl := lv_entry ([.ref b]) (n := 23) (Nat.le_of_ble_eq_true rfl)
  rw [lg_entry_eq]
  generalize (lg_sl ([.ref b]) ++ List.replicate (23 - (lg_sl ([.ref b])).length) Slot.unset).toArray = ls at hl ⊢
  have hl : lv_has ls 23 [(0, .ref b)] := hl
  refine va_new (ci := 6) (fs := [.null, .null, .null, .null, .null]) (C := RX6) (T := TX6) (N := 5) hx hb hts in_wsX60 tyX6 tyX6_ok hown (hts _ lz_q0.1) (hts _ lz_w6) (hts _ lz_q0.2.1) hG.1 hP hD hS hA rfl (fun j hj => by have h9 : j = 0 ∨ j = 1 ∨ j = 2 ∨ j = 3 ∨ j = 4 := (by omega); rcases h9 with rfl | rfl | rfl | rfl | rfl <;> rfl) (Nat.le_of_ble_eq_true rfl) (Nat.le_of_ble_eq_true rfl) dL_law_0 (fun q1 H hP hD hS => ?_)
  have hP : va_P D vwCl [(q1, .inr (6, [.null, .null, .null, .null, .null]))] H := hP
  have hD : va_D (fun q : Nat => s.heap.size ≤ q) [(q1, .inr (6, [.null, .null, .null, .null, .null]))] := hD
  refine lv_dup hx hb dL_law_3 rfl ?_
  refine cq_new1 (R := room_1) (args := #[Value.ref b]) (y := yX6_init) (bytes := cX6_init) (cc := code) (maxL := 1) (nL := 23) (n := 0) (index := 138) (ws := wsX6_init) (rm := cq_rx 3 57 4425 66) (Ts := wsL_law) (own := RL) (b := q1) (As := []) (rest := [.ref q1]) (st0 := [.ref q1, .ref q1]) (D := D) (Y := Y) (W0 := [(q1, .inr (6, [.null, .null, .null, .null, .null]))]) (wl := [(q1, .inr (6, [.null, .null, .null, .null, .null]))]) (wr := []) (ok := fun _ => True) (W1 := fun a => lz_K Y q1 (a 0) (a 1) (a 2) (a 3) (a 4) i_X5 i_X3 i_X2 i_X0 i_X0) (mc := 57) (ms := 4425) [0] [] ⟨hx, hb, hml, hown, hts'⟩ (ct_X6_init l D Y q1 H.size) (cwI 0 hts' gL_law_X6_init rfl rfl rfl (hts _ lz_q0.2.1) (hts _ lz_q0.2.2.1) (hts _ lz_q0.2.2.2) rfl (by decide +kernel) ⟨Nat.le_of_ble_eq_true rfl, Nat.le_of_ble_eq_true rfl⟩) hG hP hD hS hA rfl rfl rfl (by decide +kernel) (by decide +kernel) rfl hl.1 rfl (Nat.le_of_ble_eq_true rfl) dL_law_4 ⟨Nat.le_of_ble_eq_true rfl, Nat.le_of_ble_eq_true rfl⟩ (fun a1 H locs _ hP hD hS => ?_)
  have hP : va_P D vwCl (lz_K Y q1 (a1 0) (a1 1) (a1 2) (a1 3) (a1 4) i_X5 i_X3 i_X2 i_X0 i_X0) H := hP
  have hD : va_D (fun q : Nat => s.heap.size ≤ q) (lz_K Y q1 (a1 0) (a1 1) (a1 2) (a1 3) (a1 4) i_X5 i_X3 i_X2 i_X0 i_X0) := hD
  refine lv_astore_n (lv' := [(1, .ref q1), (0, .ref b)]) hx hb dL_law_7 rfl hl (by decide) rfl (fun ls hl => ?_)
  refine lv_bipush (v := 40) hx hb dL_law_8 (by decide) ?_
  refine cq_newJ (R := room_1) (x := 40) (cells := 0 + 1 + 57) (slots := 0 + 5 + 4425) (N' := 40) hx hb (hts _ lz_wa2) hG hP hD hS hA (by decide) (by decide) (Nat.le_of_ble_eq_true rfl) (Nat.le_of_ble_eq_true rfl) (Nat.le_of_ble_eq_true rfl) dL_law_10 (fun r0 H hP hD hS => ?_)
  refine lv_astore_n (lv' := [(2, .ref r0), (1, .ref q1), (0, .ref b)]) hx hb dL_law_12 rfl hl (by decide) rfl (fun ls hl => ?_)
  refine lv_bipush (v := 40) hx hb dL_law_13 (by decide) ?_
  refine cq_newI (R := room_1) (x := 40) (cells := 0 + 1 + 57 + 1) (slots := 0 + 5 + 4425 + 40) (N' := 40) hx hb (hts _ lz_wa0) hG hP hD hS hA (by decide) (by decide) (Nat.le_of_ble_eq_true rfl) (Nat.le_of_ble_eq_true rfl) (Nat.le_of_ble_eq_true rfl) dL_law_15 (fun r1 H hP hD hS => ?_)
  refine lv_astore_n (lv' := [(3, .ref r1), (2, .ref r0), (1, .ref q1), (0, .ref b)]) hx hb dL_law_17 rfl hl (by decide) rfl (fun ls hl => ?_)
  refine lv_bipush (v := 64) hx hb dL_law_18 (by decide) ?_
  refine cq_newI (R := room_1) (x := 64) (cells := 0 + 1 + 57 + 1 + 1) (slots := 0 + 5 + 4425 + 40 + 40) (N' := 64) hx hb (hts _ lz_wa0) hG hP hD hS hA (by decide) (by decide) (Nat.le_of_ble_eq_true rfl) (Nat.le_of_ble_eq_true rfl) (Nat.le_of_ble_eq_true rfl) dL_law_20 (fun r2 H hP hD hS => ?_)
  refine lv_astore (lv' := [(4, .ref r2), (3, .ref r1), (2, .ref r0), (1, .ref q1), (0, .ref b)]) hx hb dL_law_22 hl (by decide) rfl (fun ls hl => ?_)
  refine lv_bipush (v := 40) hx hb dL_law_24 (by decide) ?_
  refine cq_newJ (R := room_1) (x := 40) (cells := 0 + 1 + 57 + 1 + 1 + 1) (slots := 0 + 5 + 4425 + 40 + 40 + 64) (N' := 40) hx hb (hts _ lz_wa2) hG hP hD hS hA (by decide) (by decide) (Nat.le_of_ble_eq_true rfl) (Nat.le_of_ble_eq_true rfl) (Nat.le_of_ble_eq_true rfl) dL_law_26 (fun r3 H hP hD hS => ?_)
  refine lv_astore (lv' := [(5, .ref r3), (4, .ref r2), (3, .ref r1), (2, .ref r0), (1, .ref q1), (0, .ref b)]) hx hb dL_law_28 hl (by decide) rfl (fun ls hl => ?_)
  refine lv_bipush (v := 40) hx hb dL_law_30 (by decide) ?_
  refine cq_newI (R := room_1) (x := 40) (cells := 0 + 1 + 57 + 1 + 1 + 1 + 1) (slots := 0 + 5 + 4425 + 40 + 40 + 64 + 40) (N' := 40) hx hb (hts _ lz_wa0) hG hP hD hS hA (by decide) (by decide) (Nat.le_of_ble_eq_true rfl) (Nat.le_of_ble_eq_true rfl) (Nat.le_of_ble_eq_true rfl) dL_law_32 (fun r4 H hP hD hS => ?_)
  refine lv_astore (lv' := [(6, .ref r4), (5, .ref r3), (4, .ref r2), (3, .ref r1), (2, .ref r0), (1, .ref q1), (0, .ref b)]) hx hb dL_law_34 hl (by decide) rfl (fun ls hl => ?_)
  refine lv_bipush (v := 40) hx hb dL_law_36 (by decide) ?_
  refine cq_newI (R := room_1) (x := 40) (cells := 0 + 1 + 57 + 1 + 1 + 1 + 1 + 1) (slots := 0 + 5 + 4425 + 40 + 40 + 64 + 40 + 40) (N' := 40) hx hb (hts _ lz_wa0) hG hP hD hS hA (by decide) (by decide) (Nat.le_of_ble_eq_true rfl) (Nat.le_of_ble_eq_true rfl) (Nat.le_of_ble_eq_true rfl) dL_law_38 (fun r5 H hP hD hS => ?_)
  refine lv_astore (lv' := [(7, .ref r5), (6, .ref r4), (5, .ref r3), (4, .ref r2), (3, .ref r1), (2, .ref r0), (1, .ref q1), (0, .ref b)]) hx hb dL_law_40 hl (by decide) rfl (fun ls hl => ?_)
  refine lv_iconst (v := 4) hx hb dL_law_42 (by decide) ?_
  refine cq_newI (R := room_1) (x := 4) (cells := 0 + 1 + 57 + 1 + 1 + 1 + 1 + 1 + 1) (slots := 0 + 5 + 4425 + 40 + 40 + 64 + 40 + 40 + 40) (N' := 4) hx hb (hts _ lz_wa0) hG hP hD hS hA (by decide) (by decide) (Nat.le_of_ble_eq_true rfl) (Nat.le_of_ble_eq_true rfl) (Nat.le_of_ble_eq_true rfl) dL_law_43 (fun r6 H hP hD hS => ?_)
  refine lv_astore (lv' := [(8, .ref r6), (7, .ref r5), (6, .ref r4), (5, .ref r3), (4, .ref r2), (3, .ref r1), (2, .ref r0), (1, .ref q1), (0, .ref b)]) hx hb dL_law_45 hl (by decide) rfl (fun ls hl => ?_)
  refine lv_iconst (v := 1) hx hb dL_law_47 (by decide) ?_
  refine cq_newI (R := room_1) (x := 1) (cells := 0 + 1 + 57 + 1 + 1 + 1 + 1 + 1 + 1 + 1) (slots := 0 + 5 + 4425 + 40 + 40 + 64 + 40 + 40 + 40 + 4) (N' := 1) hx hb (hts _ lz_wa0) hG hP hD hS hA (by decide) (by decide) (Nat.le_of_ble_eq_true rfl) (Nat.le_of_ble_eq_true rfl) (Nat.le_of_ble_eq_true rfl) dL_law_48 (fun r7 H hP hD hS => ?_)
  refine lv_astore (lv' := [(9, .ref r7), (8, .ref r6), (7, .ref r5), (6, .ref r4), (5, .ref r3), (4, .ref r2), (3, .ref r1), (2, .ref r0), (1, .ref q1), (0, .ref b)]) hx hb dL_law_50 hl (by decide) rfl (fun ls hl => ?_)
  refine lv_bipush (v := 12) hx hb dL_law_52 (by decide) ?_
  refine cq_newI (R := room_1) (x := 12) (cells := 0 + 1 + 57 + 1 + 1 + 1 + 1 + 1 + 1 + 1 + 1) (slots := 0 + 5 + 4425 + 40 + 40 + 64 + 40 + 40 + 40 + 4 + 1) (N' := 12) hx hb (hts _ lz_wa0) hG hP hD hS hA (by decide) (by decide) (Nat.le_of_ble_eq_true rfl) (Nat.le_of_ble_eq_true rfl) (Nat.le_of_ble_eq_true rfl) dL_law_54 (fun r8 H hP hD hS => ?_)
  refine lv_astore (lv' := [(10, .ref r8), (9, .ref r7), (8, .ref r6), (7, .ref r5), (6, .ref r4), (5, .ref r3), (4, .ref r2), (3, .ref r1), (2, .ref r0), (1, .ref q1), (0, .ref b)]) hx hb dL_law_56 hl (by decide) rfl (fun ls hl => ?_)
  obtain ⟨hPK, hPA, hap⟩ := qz_nine (D := D) (WK := lz_K Y q1 (a1 0) (a1 1) (a1 2) (a1 3) (a1 4) i_X5 i_X3 i_X2 i_X0 i_X0) lz_eK hP hD
  have X : qz_X p l s m meth c b L xs D Y q1 (a1 0) (a1 1) (a1 2) (a1 3) (a1 4) (qz_ar r0 r1 r2 r6 r8 r3 r4 r5 r7) := ⟨C0, hl0, hG, hB, hNC, hap⟩
  have hPA : va_P D vwCl (qz_A Y (qz_ar r0 r1 r2 r6 r8 r3 r4 r5 r7) (fun _ => 0) (fun _ => 0) (fun _ => 0) (fun _ => 0) (fun _ => 0) (fun _ => 0) (fun _ => 0) (fun _ => 0) (fun _ => 0)) H := hPA
  have hl : lv_has ls 23 [(10, .ref ((qz_ar r0 r1 r2 r6 r8 r3 r4 r5 r7) 4)), (9, .ref ((qz_ar r0 r1 r2 r6 r8 r3 r4 r5 r7) 8)), (8, .ref ((qz_ar r0 r1 r2 r6 r8 r3 r4 r5 r7) 3)), (7, .ref ((qz_ar r0 r1 r2 r6 r8 r3 r4 r5 r7) 7)), (6, .ref ((qz_ar r0 r1 r2 r6 r8 r3 r4 r5 r7) 6)), (5, .ref ((qz_ar r0 r1 r2 r6 r8 r3 r4 r5 r7) 5)), (4, .ref ((qz_ar r0 r1 r2 r6 r8 r3 r4 r5 r7) 2)), (3, .ref ((qz_ar r0 r1 r2 r6 r8 r3 r4 r5 r7) 1)), (2, .ref ((qz_ar r0 r1 r2 r6 r8 r3 r4 r5 r7) 0)), (1, .ref q1), (0, .ref b)] := hl
  exact qz_begin (cells := 0 + 1 + 57 + 1 + 1 + 1 + 1 + 1 + 1 + 1 + 1 + 1) (slots := 0 + 5 + 4425 + 40 + 40 + 64 + 40 + 40 + 40 + 4 + 1 + 12) (ar := (qz_ar r0 r1 r2 r6 r8 r3 r4 r5 r7)) X hL (Nat.le_of_ble_eq_true rfl) (Nat.le_of_ble_eq_true rfl) hPA hPK hS hl
