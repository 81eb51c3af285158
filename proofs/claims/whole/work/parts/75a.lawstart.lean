/-! THE LAW, FROM ITS ENTRY -/
theorem lz_q0 : Cond.classLink RL 8 RX6 ∈ lw_tbl ∧ Cond.initialized RX6 ∈ lw_tbl ∧ Cond.methodLink RL 73 yX6_init ∈ lw_tbl ∧ Cond.instanceMethod yX6_init ∈ lw_tbl := by decide +kernel
theorem lz_q1 : Cond.classLink RL 74 RX7 ∈ lw_tbl ∧ Cond.initialized RX7 ∈ lw_tbl ∧ Cond.methodLink RL 76 yX7_init ∈ lw_tbl ∧ Cond.instanceMethod yX7_init ∈ lw_tbl := by decide +kernel
set_option maxHeartbeats 4000000 in
set_option maxRecDepth 100000 in
theorem whole_start {p : Program} {e : Env} {s : State} {m : MethodId} {below : List Frame} {meth : Method} {c : Code} (l : Launch) (hflags : l.flags = flags0) {b L : Nat} {xs : Nat → Int32} (hL : L ≤ 2048) (C0 : lw_At p s m meth c b L xs) : W p l e room_1 s m #[Value.ref b] below meth c s.heap [] 0 0 (lw_Z below #[Value.ref b] s) (entryFrame m ([Value.ref b] : List Value).toArray 7) := by
  obtain ⟨D, Y, hl0, hG, hB, hNC⟩ := lz_ctx hflags C0
  obtain ⟨hx, hb, hr, hml, hown, hts, hX, hbl, hlocks, hgv⟩ := id C0
  have hown : s.vm.findClass RL = some m.cls := hown
  have hts' : ∀ w ∈ wsL_law, w.before #[Value.ref b] s = true := fun w h => hts w (wsL_law_in w h)
  have hA : ∀ q : Nat, s.heap.size ≤ q → (fun q : Nat => s.heap.size ≤ q) q := fun _ h => h
  have hS : va_S (fun q : Nat => s.heap.size ≤ q) s.heap s.heap [] := va_S.rf
  have hP : va_P D vwCl [] s.heap := fun k q h => by simp at h
  have hD : va_D (fun q : Nat => s.heap.size ≤ q) [] := ⟨fun i j p q h => by simp at h, fun k q h => by simp at h⟩
  have hl := lv_entry ([.ref b]) (n := 7) (Nat.le_of_ble_eq_true rfl)
  rw [lg_entry_eq]
  generalize (lg_sl ([.ref b]) ++ List.replicate (7 - (lg_sl ([.ref b])).length) Slot.unset).toArray = ls at hl ⊢
  have hl : lv_has ls 7 [(0, .ref b)] := hl
  refine va_new (ci := 6) (fs := [.null, .null, .null, .null, .null]) (C := RX6) (T := TX6) (N := 5) hx hb hts in_wsX60 tyX6 tyX6_ok hown (hts _ lz_q0.1) (hts _ lz_w6) (hts _ lz_q0.2.1) hG.1 hP hD hS hA rfl (fun j hj => by have h9 : j = 0 ∨ j = 1 ∨ j = 2 ∨ j = 3 ∨ j = 4 := (by omega); rcases h9 with rfl | rfl | rfl | rfl | rfl <;> rfl) (Nat.le_of_ble_eq_true rfl) (Nat.le_of_ble_eq_true rfl) dL_law_0 (fun q1 H hP hD hS => ?_)
  have hP : va_P D vwCl [(q1, .inr (6, [.null, .null, .null, .null, .null]))] H := hP
  have hD : va_D (fun q : Nat => s.heap.size ≤ q) [(q1, .inr (6, [.null, .null, .null, .null, .null]))] := hD
  refine lv_dup hx hb dL_law_3 rfl ?_
  refine cq_new1 (R := room_1) (args := #[Value.ref b]) (y := yX6_init) (bytes := cX6_init) (cc := code) (maxL := 1) (nL := 7) (n := 0) (index := 73) (ws := wsX6_init) (rm := cq_rx 3 57 4425 66) (Ts := wsL_law) (own := RL) (b := q1) (As := []) (rest := [.ref q1]) (st0 := [.ref q1, .ref q1]) (D := D) (Y := Y) (W0 := [(q1, .inr (6, [.null, .null, .null, .null, .null]))]) (wl := [(q1, .inr (6, [.null, .null, .null, .null, .null]))]) (wr := []) (ok := fun _ => True) (W1 := fun a => lz_K Y q1 (a 0) (a 1) (a 2) (a 3) (a 4) i_X5 i_X3 i_X2 i_X0 i_X0) (mc := 57) (ms := 4425) [0] [] ⟨hx, hb, hml, hown, hts'⟩ (ct_X6_init l D Y q1 H.size) (cwI 0 hts' gL_law_X6_init rfl rfl rfl (hts _ lz_q0.2.1) (hts _ lz_q0.2.2.1) (hts _ lz_q0.2.2.2) rfl (by decide +kernel) ⟨Nat.le_of_ble_eq_true rfl, Nat.le_of_ble_eq_true rfl⟩) hG hP hD hS hA rfl rfl rfl (by decide +kernel) (by decide +kernel) rfl hl.1 rfl (Nat.le_of_ble_eq_true rfl) dL_law_4 ⟨Nat.le_of_ble_eq_true rfl, Nat.le_of_ble_eq_true rfl⟩ (fun a1 H locs _ hP hD hS => ?_)
  have hP : va_P D vwCl (lz_K Y q1 (a1 0) (a1 1) (a1 2) (a1 3) (a1 4) i_X5 i_X3 i_X2 i_X0 i_X0) H := hP
  have hD : va_D (fun q : Nat => s.heap.size ≤ q) (lz_K Y q1 (a1 0) (a1 1) (a1 2) (a1 3) (a1 4) i_X5 i_X3 i_X2 i_X0 i_X0) := hD
  refine lv_astore_n (lv' := [(1, .ref q1), (0, .ref b)]) hx hb dL_law_7 rfl hl (by decide) rfl (fun ls hl => ?_)
  refine va_new (ci := 7) (fs := [.null, .null, .null, .null, .null, .int 0, .null, .int 0, .null, .null, .null, .null, .null, .int 0, .int 0, .null, .null, .null, .null, .null, .null, .null, .null, .null, .int 0]) (C := RX7) (T := TX7) (N := 25) hx hb hts in_wsX70 tyX7 tyX7_ok hown (hts _ lz_q1.1) (hts _ lz_w7) (hts _ lz_q1.2.1) hG.1 hP hD hS hA rfl (fun j hj => by have h9 : j = 0 ∨ j = 1 ∨ j = 2 ∨ j = 3 ∨ j = 4 ∨ j = 5 ∨ j = 6 ∨ j = 7 ∨ j = 8 ∨ j = 9 ∨ j = 10 ∨ j = 11 ∨ j = 12 ∨ j = 13 ∨ j = 14 ∨ j = 15 ∨ j = 16 ∨ j = 17 ∨ j = 18 ∨ j = 19 ∨ j = 20 ∨ j = 21 ∨ j = 22 ∨ j = 23 ∨ j = 24 := (by omega); rcases h9 with rfl | rfl | rfl | rfl | rfl | rfl | rfl | rfl | rfl | rfl | rfl | rfl | rfl | rfl | rfl | rfl | rfl | rfl | rfl | rfl | rfl | rfl | rfl | rfl | rfl <;> rfl) (Nat.le_of_ble_eq_true rfl) (Nat.le_of_ble_eq_true rfl) dL_law_8 (fun q2 H hP hD hS => ?_)
  refine lv_dup hx hb dL_law_11 rfl ?_
  refine cq_new1 (R := room_1) (args := #[Value.ref b]) (y := yX7_init) (bytes := cX7_init) (cc := code) (maxL := 2) (nL := 7) (n := 0) (index := 76) (ws := wsX7_init) (rm := cq_rx 1 20 2729 21) (Ts := wsL_law) (own := RL) (b := q2) (As := []) (rest := [.ref q2]) (st0 := [.ref q2, .ref q2]) (D := D) (Y := Y) (W0 := [(q2, .inr (7, [.null, .null, .null, .null, .null, .int 0, .null, .int 0, .null, .null, .null, .null, .null, .int 0, .int 0, .null, .null, .null, .null, .null, .null, .null, .null, .null, .int 0]))]) (wl := lz_K Y q1 (a1 0) (a1 1) (a1 2) (a1 3) (a1 4) i_X5 i_X3 i_X2 i_X0 i_X0 ++ [(q2, .inr (7, [.null, .null, .null, .null, .null, .int 0, .null, .int 0, .null, .null, .null, .null, .null, .int 0, .int 0, .null, .null, .null, .null, .null, .null, .null, .null, .null, .int 0]))]) (wr := lz_K Y q1 (a1 0) (a1 1) (a1 2) (a1 3) (a1 4) i_X5 i_X3 i_X2 i_X0 i_X0) (ok := fun a => a 0 0 = q2) (W1 := fun a => cl_mdl Y (a 0) i_X7) (mc := 20) (ms := 2729) [58] [0, 1, 2, 3, 4, 5, 6, 7, 8, 9, 10, 11, 12, 13, 14, 15, 16, 17, 18, 19, 20, 21, 22, 23, 24, 25, 26, 27, 28, 29, 30, 31, 32, 33, 34, 35, 36, 37, 38, 39, 40, 41, 42, 43, 44, 45, 46, 47, 48, 49, 50, 51, 52, 53, 54, 55, 56, 57] ⟨hx, hb, hml, hown, hts'⟩ (ct_X7_init l D Y q2 H.size) (cwI 0 hts' gL_law_X7_init rfl rfl rfl (hts _ lz_q1.2.1) (hts _ lz_q1.2.2.1) (hts _ lz_q1.2.2.2) rfl (by decide +kernel) ⟨Nat.le_of_ble_eq_true rfl, Nat.le_of_ble_eq_true rfl⟩) hG hP hD hS hA rfl rfl rfl (by decide +kernel) (by decide +kernel) rfl hl.1 rfl (Nat.le_of_ble_eq_true rfl) dL_law_12 ⟨Nat.le_of_ble_eq_true rfl, Nat.le_of_ble_eq_true rfl⟩ (fun a2 H locs hok hP9 hD9 hS9 => ?_)
  subst hok
  have hP := hP9
  have hD := hD9
  have hS := hS9
  refine lv_astore_n (lv' := [(2, .ref (a2 0 0)), (1, .ref q1), (0, .ref b)]) hx hb dL_law_15 rfl hl (by decide) rfl (fun ls hl => ?_)
  refine lv_iconst (v := 1) hx hb dL_law_16 (by decide) ?_
  refine cq_newJ (R := room_1) (x := 1) (cells := 0 + 1 + 57 + 1 + 20) (slots := 0 + 5 + 4425 + 25 + 2729) (N' := 1) hx hb (hts _ lz_wa2) hG hP hD hS hA (by decide) (by decide) (Nat.le_of_ble_eq_true rfl) (Nat.le_of_ble_eq_true rfl) (Nat.le_of_ble_eq_true rfl) dL_law_17 (fun bo H hP hD hS => ?_)
  refine lv_astore_n (lv' := [(3, .ref bo), (2, .ref (a2 0 0)), (1, .ref q1), (0, .ref b)]) hx hb dL_law_19 rfl hl (by decide) rfl (fun ls hl => ?_)
  refine lv_iconst (v := nI (4 * 0)) hx hb dL_law_20 (by decide) ?_
  refine lv_istore (lv' := [(4, .int (nI (4 * 0))), (3, .ref bo), (2, .ref (a2 0 0)), (1, .ref q1), (0, .ref b)]) hx hb dL_law_21 hl (by decide) rfl (fun ls hl => ?_)
  have hap := lz_ap.of hD
  have ead : ((lz_K Y q1 (a1 0) (a1 1) (a1 2) (a1 3) (a1 4) i_X5 i_X3 i_X2 i_X0 i_X0 ++ cl_mdl Y (a2 0) i_X7) ++ cl_out Y bo (fun _ => 0)).map (·.1) = (lz_aK q1 (a1 0) (a1 1) (a1 2) (a1 3) (a1 4) ++ lz_aM (a2 0)) ++ [bo] := by
    rw [List.map_append, List.map_append, lz_eK, lz_eM]; rfl
  have hap : lz_ap (fun q : Nat => s.heap.size ≤ q) ((lz_aK q1 (a1 0) (a1 1) (a1 2) (a1 3) (a1 4) ++ lz_aM (a2 0)) ++ [bo]) := by
    rw [← ead]; exact hap
  obtain ⟨apKM, apO, d1⟩ := hap.app
  obtain ⟨apK, apM, d2⟩ := apKM.app
  have X : lz_X p l s m meth c b L xs D Y q1 (a1 0) (a1 1) (a1 2) (a1 3) (a1 4) bo (a2 0) := ⟨C0, hl0, hG, hB, hNC, apK.join apO (fun x hx h => d1 x hx (List.mem_append_left _ h)), apM, fun x hx h => (List.mem_append.mp h).elim (d2 x hx) (fun h2 => d1 x h2 (List.mem_append_right _ hx))⟩
  obtain ⟨hPKM, hPO⟩ := lz_apP hP
  obtain ⟨hPK, hPM⟩ := lz_apP hPKM
  have hPC := lz_paP hPK hPO
  have hPC : va_P D vwCl (lz_C Y q1 (a1 0) (a1 1) (a1 2) (a1 3) (a1 4) bo i_X5 i_X3 i_X2 i_X0 i_X0 (fun _ => 0)) H := by
    rw [lz_CK]; exact hPC
  exact lz_loop X hL (L + 2) 0 (by omega) (by omega) 0 0 0 i_X5 i_X3 i_X2 i_X0 i_X0 i_X7 (fun _ => 0) H locs ls Rel.start hPC hPM hS (lv_sub hl [4, 3, 2, 1, 0] rfl)
