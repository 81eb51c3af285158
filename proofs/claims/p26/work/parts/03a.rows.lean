/-- what the models are made of -/
def jmax (x y : Int32) : Int32 := if x < y then y else x
theorem cq_z {x : Int32} {N k : Nat} (hx : x = nI N) (h : N ≤ k) (hk : k < 2147483648) : x ≤ nI k := by rw [hx]; exact nI_le h (by omega)
theorem cq_s {x : Int32} {N k : Nat} (hx : x = nI N) (h : k < N) (hN : N < 2147483648) : ¬ x ≤ nI k := by rw [hx]; exact nI_ge h (by omega)
theorem cq_vin {i : Int32} {n : Nat} (hn : n < 2147483648) (h1 : ¬ i < 0) (h2 : ¬ nI n ≤ i) : vp_in i n := by
  obtain ⟨j, hj, rfl⟩ := nI_of h1
  refine vp_in_nI ?_ (by omega)
  rcases Nat.lt_or_ge j n with h | h
  · exact h
  · exact absurd (nI_le h hj) h2
abbrev FI : Type := Nat → Int32
abbrev cl_row (Y : cq_Y) (h b n : Nat) (f : FI) : va_W := [(h, .inr (4, [.ref b])), (b, .inl (Y.1, n, .inl f))]
abbrev cl_grd (Y : cq_Y) (h b : Nat) (r c : Int32) (n : Nat) (f : FI) : va_W := [(h, .inr (1, [.int r, .int c, .ref b])), (b, .inl (Y.1, n, .inl f))]
abbrev cl_arr (Y : cq_Y) (b n : Nat) (f : FI) : va_W := [(b, .inl (Y.1, n, .inl f))]
abbrev cl_out (Y : cq_Y) (b : Nat) (f : Nat → Int64) : va_W := [(b, .inl (Y.2.2, 1, .inr (.inl f)))]
abbrev cl_ldr (h b1 b2 b3 b4 b5 : Nat) : va_W := [(h, .inr (6, [.ref b1, .ref b2, .ref b3, .ref b4, .ref b5]))]
abbrev CatS : Type := FI × FI × FI × FI × FI × FI × FI
abbrev cl_cat (Y : cq_Y) (a : Nat → Nat) (c : CatS) : va_W := [(a 0, .inr (0, [.ref (a 1), .ref (a 3), .ref (a 5), .ref (a 7), .ref (a 9), .ref (a 11), .ref (a 13)])), (a 1, .inr (4, [.ref (a 2)])), (a 2, .inl (Y.1, 80, .inl c.1)), (a 3, .inr (1, [.int 80, .int 3, .ref (a 4)])), (a 4, .inl (Y.1, 240, .inl c.2.1)), (a 5, .inr (1, [.int 80, .int 4, .ref (a 6)])), (a 6, .inl (Y.1, 320, .inl c.2.2.1)), (a 7, .inr (1, [.int 80, .int 4, .ref (a 8)])), (a 8, .inl (Y.1, 320, .inl c.2.2.2.1)), (a 9, .inr (1, [.int 80, .int 4, .ref (a 10)])), (a 10, .inl (Y.1, 320, .inl c.2.2.2.2.1)), (a 11, .inr (4, [.ref (a 12)])), (a 12, .inl (Y.1, 80, .inl c.2.2.2.2.2.1)), (a 13, .inr (4, [.ref (a 14)])), (a 14, .inl (Y.1, 80, .inl c.2.2.2.2.2.2))]
abbrev SetS : Type := FI × FI × FI
abbrev cl_set (Y : cq_Y) (a : Nat → Nat) (c : SetS) : va_W := [(a 0, .inr (5, [.ref (a 1), .ref (a 3), .ref (a 5)])), (a 1, .inr (4, [.ref (a 2)])), (a 2, .inl (Y.1, 5, .inl c.1)), (a 3, .inr (4, [.ref (a 4)])), (a 4, .inl (Y.1, 4, .inl c.2.1)), (a 5, .inr (4, [.ref (a 6)])), (a 6, .inl (Y.1, 3, .inl c.2.2))]
abbrev LodS : Type := FI × FI × FI × FI × FI × Int32 × Int32
abbrev cl_lod (Y : cq_Y) (a : Nat → Nat) (c : LodS) : va_W := [(a 0, .inr (3, [.ref (a 1), .ref (a 3), .ref (a 5), .ref (a 7), .ref (a 9), .int c.2.2.2.2.2.1, .int c.2.2.2.2.2.2])), (a 1, .inr (1, [.int 81, .int 3, .ref (a 2)])), (a 2, .inl (Y.1, 243, .inl c.1)), (a 3, .inr (1, [.int 81, .int 4, .ref (a 4)])), (a 4, .inl (Y.1, 324, .inl c.2.1)), (a 5, .inr (4, [.ref (a 6)])), (a 6, .inl (Y.1, 80, .inl c.2.2.1)), (a 7, .inr (4, [.ref (a 8)])), (a 8, .inl (Y.1, 80, .inl c.2.2.2.1)), (a 9, .inr (4, [.ref (a 10)])), (a 10, .inl (Y.1, 10, .inl c.2.2.2.2.1))]
abbrev HisS : Type := FI × FI × FI × FI × Int32 × Int32
abbrev cl_his (Y : cq_Y) (a : Nat → Nat) (c : HisS) : va_W := [(a 0, .inr (2, [.ref (a 1), .ref (a 3), .ref (a 5), .ref (a 7), .int c.2.2.2.2.1, .int c.2.2.2.2.2])), (a 1, .inr (4, [.ref (a 2)])), (a 2, .inl (Y.1, 180, .inl c.1)), (a 3, .inr (4, [.ref (a 4)])), (a 4, .inl (Y.1, 180, .inl c.2.1)), (a 5, .inr (4, [.ref (a 6)])), (a 6, .inl (Y.1, 180, .inl c.2.2.1)), (a 7, .inr (4, [.ref (a 8)])), (a 8, .inl (Y.1, 180, .inl c.2.2.2.1))]
abbrev MdlS : Type := FI × FI × FI × FI × FI × Int32 × FI × Int32 × FI × FI × FI × FI × FI × Int32 × Int32 × FI × FI × FI × FI × FI × FI × FI × FI × FI × Int32
abbrev cl_mdl (Y : cq_Y) (a : Nat → Nat) (c : MdlS) : va_W := [(a 0, .inr (7, [.ref (a 1), .ref (a 2), .ref (a 3), .ref (a 4), .ref (a 5), .int c.2.2.2.2.2.1, .ref (a 6), .int c.2.2.2.2.2.2.2.1, .ref (a 7), .ref (a 8), .ref (a 9), .ref (a 10), .ref (a 11), .int c.2.2.2.2.2.2.2.2.2.2.2.2.2.1, .int c.2.2.2.2.2.2.2.2.2.2.2.2.2.2.1, .ref (a 12), .ref (a 13), .ref (a 14), .ref (a 15), .ref (a 16), .ref (a 17), .ref (a 18), .ref (a 19), .ref (a 20), .int c.2.2.2.2.2.2.2.2.2.2.2.2.2.2.2.2.2.2.2.2.2.2.2.2])), (a 1, .inl (Y.1, 5, .inl c.1)), (a 2, .inl (Y.1, 4, .inl c.2.1)), (a 3, .inl (Y.1, 3, .inl c.2.2.1)), (a 4, .inl (Y.1, 3, .inl c.2.2.2.1)), (a 5, .inl (Y.1, 4, .inl c.2.2.2.2.1)), (a 6, .inl (Y.2.1, 10, .inl c.2.2.2.2.2.2.1)), (a 7, .inl (Y.1, 80, .inl c.2.2.2.2.2.2.2.2.1)), (a 8, .inl (Y.1, 80, .inl c.2.2.2.2.2.2.2.2.2.1)), (a 9, .inl (Y.1, 240, .inl c.2.2.2.2.2.2.2.2.2.2.1)), (a 10, .inl (Y.1, 320, .inl c.2.2.2.2.2.2.2.2.2.2.2.1)), (a 11, .inl (Y.1, 80, .inl c.2.2.2.2.2.2.2.2.2.2.2.2.1)), (a 12, .inl (Y.1, 180, .inl c.2.2.2.2.2.2.2.2.2.2.2.2.2.2.2.1)), (a 13, .inl (Y.1, 180, .inl c.2.2.2.2.2.2.2.2.2.2.2.2.2.2.2.2.1)), (a 14, .inl (Y.1, 180, .inl c.2.2.2.2.2.2.2.2.2.2.2.2.2.2.2.2.2.1)), (a 15, .inl (Y.2.1, 80, .inl c.2.2.2.2.2.2.2.2.2.2.2.2.2.2.2.2.2.2.1)), (a 16, .inl (Y.1, 240, .inl c.2.2.2.2.2.2.2.2.2.2.2.2.2.2.2.2.2.2.2.1)), (a 17, .inl (Y.1, 320, .inl c.2.2.2.2.2.2.2.2.2.2.2.2.2.2.2.2.2.2.2.2.1)), (a 18, .inl (Y.1, 320, .inl c.2.2.2.2.2.2.2.2.2.2.2.2.2.2.2.2.2.2.2.2.2.1)), (a 19, .inl (Y.2.1, 320, .inl c.2.2.2.2.2.2.2.2.2.2.2.2.2.2.2.2.2.2.2.2.2.2.1)), (a 20, .inl (Y.1, 80, .inl c.2.2.2.2.2.2.2.2.2.2.2.2.2.2.2.2.2.2.2.2.2.2.2.1))]

def m_J7_fill_53178_lp5 (n : Nat) (f : FI) (v : Int32) : Nat → Nat → FI → FI
  | 0, k5, s0_5 => s0_5
  | n5 + 1, k5, s0_5 => m_J7_fill_53178_lp5 n f v n5 (k5 + 1) (upd s0_5 (nI k5).toNatClampNeg v)
def m_J7_fill_53178 (n : Nat) (f : FI) (v : Int32) : FI := (let fin_1 := m_J7_fill_53178_lp5 n f v n 0 f; fin_1)
set_option maxHeartbeats 4000000 in
set_option maxRecDepth 100000 in
theorem ct_J7_fill_53178 (l : Launch) (D : va_G) (Y : cq_Y) (b n : Nat) (f : FI) (v : Int32) (hn : n < 2147483648) : cq_MW l yJ7_fill_53178 wsJ7_fill_53178 (cq_rm 0 0) D Y (cl_arr Y b n f) [.ref b, .int v] (none) (cl_arr Y b n (m_J7_fill_53178 n f v)) := by
  refine cq_body (cc := cJ7_fill_53178) (maxL := 4) (ret := none) (by decide) rfl (Nat.le_of_ble_eq_true rfl) ?_
  intro p e s m below meth c hE hP hG hD ls hl
  obtain ⟨hx, hb, hr, hml, hts, hown, hnm, hlocks⟩ := hE
  have hown : s.vm.findClass RJ7 = some m.cls := hown
  have hS : va_S (cq_in (cl_arr Y b n f)) s.heap s.heap [] := va_S.rf
  have hl : lv_has ls 4 [(0, .ref b), (1, .int v)] := hl
  refine lv_iconst (v := 0) hx hb dJ7_fill_53178_0 (by decide) ?_
  refine lv_istore_n (lv' := [(2, .int 0), (0, .ref b), (1, .int v)]) hx hb dJ7_fill_53178_1 rfl hl (by decide) rfl (fun ls hl => ?_)
  refine lv_aload_n hx hb dJ7_fill_53178_2 rfl (lv_at hl 1 rfl) ?_
  refine va_alen (v := nI n) hx hb hG.1 hP 0 0 rfl (ty := .int) rfl rfl dJ7_fill_53178_3 ?_
  refine lv_istore_n (lv' := [(3, .int (nI n)), (2, .int 0), (0, .ref b), (1, .int v)]) hx hb dJ7_fill_53178_4 rfl hl (by decide) rfl (fun ls hl => ?_)
  obtain ⟨fin_1, efin_1⟩ : ∃ z, z = m_J7_fill_53178_lp5 n f v n 0 f := ⟨_, rfl⟩
  have lp5 : ∀ (n5 k5 : Nat) (s0_5 : FI) (H : Heap) (locs : List Loc) (ls : Array Slot), k5 + n5 = n → m_J7_fill_53178_lp5 n f v n5 k5 s0_5 = fin_1 → va_P D vwCl (cl_arr Y b n s0_5) H → va_D (cq_in (cl_arr Y b n f)) (cl_arr Y b n s0_5) → va_S (cq_in (cl_arr Y b n f)) s.heap H locs → lv_has ls 4 [(3, .int (nI n)), (2, .int (nI k5)), (0, .ref b), (1, .int v)] → W p l e (cq_rm 0 0) s m ([.ref b, .int v] : List Value).toArray below meth c H locs 0 0 (MQ below (cq_W D (none) (cl_arr Y b n f) (cl_arr Y b n (m_J7_fill_53178 n f v))) ([.ref b, .int v] : List Value).toArray s 0 0 (cq_in (cl_arr Y b n f))) (F0 m 5 ls []) := by
    intro n5; induction n5 with
    | zero =>
      intro k5 s0_5 H locs ls hkn hres5 hP hD hS hl
      have hz : nI n ≤ nI k5 := cq_z (N := n) rfl (by omega) (by omega)
      have e9 : fin_1 = s0_5 := hres5.symm
      subst e9
      refine lv_iload_n hx hb dJ7_fill_53178_5 rfl (lv_at hl 1 rfl) ?_
      refine lv_iload_n hx hb dJ7_fill_53178_6 rfl (lv_at hl 0 rfl) ?_
      refine lv_icmp_ge (tgt := 20) hx hb dJ7_fill_53178_7 (by decide) (fun c_2 => ?_) (fun c_2 => ?_)
      · exact cq_wV (wl := cl_arr Y b n fin_1) hx hb hr hlocks hP hS rfl (by subst efin_1; simp only [m_J7_fill_53178, ↓reduceIte, if_true, if_false]) dJ7_fill_53178_20
      · exact absurd hz c_2
    | succ n5 ih5 =>
      intro k5 s0_5 H locs ls hkn hres5 hP hD hS hl
      have hz : ¬ (nI n ≤ nI k5) := cq_s (N := n) rfl (by omega) (by omega)
      refine lv_iload_n hx hb dJ7_fill_53178_5 rfl (lv_at hl 1 rfl) ?_
      refine lv_iload_n hx hb dJ7_fill_53178_6 rfl (lv_at hl 0 rfl) ?_
      refine lv_icmp_ge (tgt := 20) hx hb dJ7_fill_53178_7 (by decide) (fun c_3 => ?_) (fun c_3 => ?_)
      · exact absurd c_3 hz
      · refine lv_aload_n hx hb dJ7_fill_53178_10 rfl (lv_at hl 2 rfl) ?_
        refine lv_iload_n hx hb dJ7_fill_53178_11 rfl (lv_at hl 1 rfl) ?_
        refine lv_iload_n hx hb dJ7_fill_53178_12 rfl (lv_at hl 3 rfl) ?_
        refine va_iast hx hb hG.1 hP hD hS 0 0 rfl rfl (vp_in_nI (by omega) hn) dJ7_fill_53178_13 (fun H locs hP hD hS => ?_)
        have hP : va_P D vwCl (cl_arr Y b n (upd s0_5 (nI k5).toNatClampNeg v)) H := hP
        have hD : va_D (cq_in (cl_arr Y b n f)) (cl_arr Y b n (upd s0_5 (nI k5).toNatClampNeg v)) := hD
        refine lv_iinc (v := nI (k5 + 1)) (lv' := [(2, .int (nI (k5 + 1))), (3, .int (nI n)), (0, .ref b), (1, .int v)]) hx hb dJ7_fill_53178_14 hl (k := 1) rfl (nI_1 k5) (by decide) rfl (fun ls hl => ?_)
        refine lv_goto (tgt := 5) hx hb dJ7_fill_53178_17 (by decide) ?_
        exact ih5 (k5 + 1) (upd s0_5 (nI k5).toNatClampNeg v) _ _ _ (by omega) (Eq.trans (by simp only [m_J7_fill_53178_lp5, ↓reduceIte, if_true, if_false]) hres5) hP hD hS (lv_sub hl [1, 0, 2, 3] rfl)
  exact lp5 n 0 f _ _ _ (Nat.zero_add _) efin_1.symm hP hD hS (lv_sub hl [0, 1, 2, 3] rfl)

def m_X4_get (n : Nat) (f : FI) (i : Int32) : Int32 := (if i < 0 then (-1) else (if nI n ≤ i then (-1) else f i.toNatClampNeg))
set_option maxHeartbeats 4000000 in
set_option maxRecDepth 100000 in
theorem ct_X4_get (l : Launch) (D : va_G) (Y : cq_Y) (h b n : Nat) (f : FI) (i : Int32) (hn : n < 2147483648) : cq_MR l yX4_get wsX4_get (cq_rm 0 0) D Y (cl_row Y h b n f) [.ref h, .int i] (some (.int (m_X4_get n f i))) := by
  refine cq_body (cc := cX4_get) (maxL := 2) (ret := (some .int)) (by decide) rfl (Nat.le_of_ble_eq_true rfl) ?_
  intro p e s m below meth c hE hP hG hD ls hl
  obtain ⟨hx, hb, hr, hml, hts, hown, hnm, hlocks⟩ := hE
  have hown : s.vm.findClass RX4 = some m.cls := hown
  have hl : lv_has ls 2 [(0, .ref h), (1, .int i)] := hl
  refine lv_iload_n hx hb dX4_get_0 rfl (lv_at hl 1 rfl) ?_
  refine lv_if_lt (tgt := 22) hx hb dX4_get_1 (by decide) (fun c_1 => ?_) (fun c_1 => ?_)
  · refine lv_iconst (v := (-1)) hx hb dX4_get_22 (by decide) ?_
    exact cq_rI hx hb hr hlocks (vp_nar_int _) (by simp only [m_X4_get, eq_true c_1, ↓reduceIte, if_true, if_false]) dX4_get_23
  · refine lv_iload_n hx hb dX4_get_4 rfl (lv_at hl 1 rfl) ?_
    refine lv_aload_n hx hb dX4_get_5 rfl (lv_at hl 0 rfl) ?_
    refine va_get (D := D) (ci := 4) (v := .ref b) (C := RX4) (T := TX4) (N := 1) hx hb hts (fun _ h => List.mem_cons_of_mem _ (List.mem_append_right _ h)) hown hG.1 hP 0 rfl rfl 0 (by decide) (hts (.fieldLink RX4 15 "CatalogueLoader$Row" "cells" "[I") (List.mem_of_getElem? (i := 1) rfl)) (fun _ h9 => h9) rfl dX4_get_6 ?_
    refine va_alen (v := nI n) hx hb hG.1 hP 1 0 rfl (ty := .int) rfl rfl dX4_get_9 ?_
    refine lv_icmp_ge (tgt := 22) hx hb dX4_get_10 (by decide) (fun c_2 => ?_) (fun c_2 => ?_)
    · refine lv_iconst (v := (-1)) hx hb dX4_get_22 (by decide) ?_
      exact cq_rI hx hb hr hlocks (vp_nar_int _) (by simp only [m_X4_get, eq_false c_1, eq_true c_2, ↓reduceIte, if_true, if_false]) dX4_get_23
    · refine lv_aload_n hx hb dX4_get_13 rfl (lv_at hl 0 rfl) ?_
      refine va_get (D := D) (ci := 4) (v := .ref b) (C := RX4) (T := TX4) (N := 1) hx hb hts (fun _ h => List.mem_cons_of_mem _ (List.mem_append_right _ h)) hown hG.1 hP 0 rfl rfl 0 (by decide) (hts (.fieldLink RX4 15 "CatalogueLoader$Row" "cells" "[I") (List.mem_of_getElem? (i := 1) rfl)) (fun _ h9 => h9) rfl dX4_get_14 ?_
      refine lv_iload_n hx hb dX4_get_17 rfl (lv_at hl 1 rfl) ?_
      refine va_iald hx hb hG.1 hP 1 0 rfl rfl (cq_vin (by first | decide | assumption | omega) c_1 c_2) dX4_get_18 ?_
      refine lv_goto (tgt := 23) hx hb dX4_get_19 (by decide) ?_
      exact cq_rI hx hb hr hlocks (vp_nar_int _) (by simp only [m_X4_get, eq_false c_1, eq_false c_2, ↓reduceIte, if_true, if_false]) dX4_get_23

def m_X4_set (n : Nat) (f : FI) (i : Int32) (v : Int32) : FI := (if i < 0 then f else (if nI n ≤ i then f else upd f i.toNatClampNeg v))
set_option maxHeartbeats 4000000 in
set_option maxRecDepth 100000 in
theorem ct_X4_set (l : Launch) (D : va_G) (Y : cq_Y) (h b n : Nat) (f : FI) (i : Int32) (v : Int32) (hn : n < 2147483648) : cq_MW l yX4_set wsX4_set (cq_rm 0 0) D Y (cl_row Y h b n f) [.ref h, .int i, .int v] (none) (cl_row Y h b n (m_X4_set n f i v)) := by
  refine cq_body (cc := cX4_set) (maxL := 3) (ret := none) (by decide) rfl (Nat.le_of_ble_eq_true rfl) ?_
  intro p e s m below meth c hE hP hG hD ls hl
  obtain ⟨hx, hb, hr, hml, hts, hown, hnm, hlocks⟩ := hE
  have hown : s.vm.findClass RX4 = some m.cls := hown
  have hS : va_S (cq_in (cl_row Y h b n f)) s.heap s.heap [] := va_S.rf
  have hl : lv_has ls 3 [(0, .ref h), (1, .int i), (2, .int v)] := hl
  refine lv_iload_n hx hb dX4_set_0 rfl (lv_at hl 1 rfl) ?_
  refine lv_if_lt (tgt := 20) hx hb dX4_set_1 (by decide) (fun c_1 => ?_) (fun c_1 => ?_)
  · exact cq_wV (wl := cl_row Y h b n f) hx hb hr hlocks hP hS rfl (by simp only [m_X4_set, eq_true c_1, ↓reduceIte, if_true, if_false]) dX4_set_20
  · refine lv_iload_n hx hb dX4_set_4 rfl (lv_at hl 1 rfl) ?_
    refine lv_aload_n hx hb dX4_set_5 rfl (lv_at hl 0 rfl) ?_
    refine va_get (D := D) (ci := 4) (v := .ref b) (C := RX4) (T := TX4) (N := 1) hx hb hts (fun _ h => List.mem_cons_of_mem _ (List.mem_append_right _ h)) hown hG.1 hP 0 rfl rfl 0 (by decide) (hts (.fieldLink RX4 15 "CatalogueLoader$Row" "cells" "[I") (List.mem_of_getElem? (i := 1) rfl)) (fun _ h9 => h9) rfl dX4_set_6 ?_
    refine va_alen (v := nI n) hx hb hG.1 hP 1 0 rfl (ty := .int) rfl rfl dX4_set_9 ?_
    refine lv_icmp_ge (tgt := 20) hx hb dX4_set_10 (by decide) (fun c_2 => ?_) (fun c_2 => ?_)
    · exact cq_wV (wl := cl_row Y h b n f) hx hb hr hlocks hP hS rfl (by simp only [m_X4_set, eq_false c_1, eq_true c_2, ↓reduceIte, if_true, if_false]) dX4_set_20
    · refine lv_aload_n hx hb dX4_set_13 rfl (lv_at hl 0 rfl) ?_
      refine va_get (D := D) (ci := 4) (v := .ref b) (C := RX4) (T := TX4) (N := 1) hx hb hts (fun _ h => List.mem_cons_of_mem _ (List.mem_append_right _ h)) hown hG.1 hP 0 rfl rfl 0 (by decide) (hts (.fieldLink RX4 15 "CatalogueLoader$Row" "cells" "[I") (List.mem_of_getElem? (i := 1) rfl)) (fun _ h9 => h9) rfl dX4_set_14 ?_
      refine lv_iload_n hx hb dX4_set_17 rfl (lv_at hl 1 rfl) ?_
      refine lv_iload_n hx hb dX4_set_18 rfl (lv_at hl 2 rfl) ?_
      refine va_iast hx hb hG.1 hP hD hS 1 0 rfl rfl (cq_vin (by first | decide | assumption | omega) c_1 c_2) dX4_set_19 (fun H locs hP hD hS => ?_)
      have hP : va_P D vwCl (cl_row Y h b n (upd f i.toNatClampNeg v)) H := hP
      have hD : va_D (cq_in (cl_row Y h b n f)) (cl_row Y h b n (upd f i.toNatClampNeg v)) := hD
      exact cq_wV (wl := cl_row Y h b n (upd f i.toNatClampNeg v)) hx hb hr hlocks hP hS rfl (by simp only [m_X4_set, eq_false c_1, eq_false c_2, ↓reduceIte, if_true, if_false]) dX4_set_20

def m_X4_fill (n : Nat) (f : FI) (v : Int32) : FI := m_J7_fill_53178 n f v
set_option maxHeartbeats 4000000 in
set_option maxRecDepth 100000 in
theorem ct_X4_fill (l : Launch) (D : va_G) (Y : cq_Y) (h b n : Nat) (f : FI) (v : Int32) (hn : n < 2147483648) : cq_MW l yX4_fill wsX4_fill (cq_rm 1 23) D Y (cl_row Y h b n f) [.ref h, .int v] (none) (cl_row Y h b n (m_X4_fill n f v)) := by
  refine cq_body (cc := cX4_fill) (maxL := 2) (ret := none) (by decide) rfl (Nat.le_of_ble_eq_true rfl) ?_
  intro p e s m below meth c hE hP hG hD ls hl
  obtain ⟨hx, hb, hr, hml, hts, hown, hnm, hlocks⟩ := hE
  have hown : s.vm.findClass RX4 = some m.cls := hown
  have hS : va_S (cq_in (cl_row Y h b n f)) s.heap s.heap [] := va_S.rf
  have hl : lv_has ls 2 [(0, .ref h), (1, .int v)] := hl
  refine lv_aload_n hx hb dX4_fill_0 rfl (lv_at hl 0 rfl) ?_
  refine va_get (D := D) (ci := 4) (v := .ref b) (C := RX4) (T := TX4) (N := 1) hx hb hts (fun _ h => List.mem_cons_of_mem _ (List.mem_append_right _ h)) hown hG.1 hP 0 rfl rfl 0 (by decide) (hts (.fieldLink RX4 15 "CatalogueLoader$Row" "cells" "[I") (List.mem_of_getElem? (i := 1) rfl)) (fun _ h9 => h9) rfl dX4_fill_1 ?_
  refine lv_iload_n hx hb dX4_fill_4 rfl (lv_at hl 1 rfl) ?_
  refine cq_WS (R := (cq_rm 1 23)) (args := ([.ref h, .int v] : List Value).toArray) (y := yJ7_fill_53178) (bytes := cJ7_fill_53178) (cc := cX4_fill) (maxL := 4) (nL := 2) (n := 2) (index := 21) (ret := none) (ws := wsJ7_fill_53178) (rm := cq_rm 0 0) (Ts := wsX4_fill) (own := RX4) (D := D) (Y := Y) (W0 := cl_arr Y b n f) (wl := cl_row Y h b n f) (v := none) (st0 := [.int v, .ref b]) (As := [.ref b, .int v]) (rest := []) (W1 := cl_arr Y b n (m_J7_fill_53178 n f v)) (cl_row Y h b n (m_J7_fill_53178 n f v)) [0] ⟨hx, hb, hml, hown, hts⟩ (ct_J7_fill_53178 l D Y b n f v hn) (va_cwS 2 hts gX4_fill_J7_fill_53178 rfl rfl rfl (by decide +kernel) ⟨Nat.le_of_ble_eq_true rfl, Nat.le_of_ble_eq_true rfl⟩) hG hP hD hS [1] rfl (by decide +kernel) ⟨rfl, ⟨[(h, .inr (4, [.ref b]))], rfl, rfl⟩, 2, rfl, by decide +kernel⟩ ⟨[b], rfl, rfl⟩ rfl hl.1 rfl (Nat.le_of_ble_eq_true rfl) dX4_fill_5 ⟨Nat.zero_le _, Nat.zero_le _⟩ (fun H locs hP hD hS => ?_)
  change W _ _ _ _ _ _ _ _ _ _ _ _ _ _ _ (F0 m 8 _ [])
  exact cq_wV (wl := cl_row Y h b n (m_J7_fill_53178 n f v)) hx hb hr hlocks hP hS rfl (by simp only [m_X4_fill, ↓reduceIte, if_true, if_false]) dX4_fill_8

def m_X1_get (gr : Int32) (gc : Int32) (n : Nat) (f : FI) (i : Int32) (j : Int32) : Int32 := (if i < 0 then (-1) else (if gr ≤ i then (-1) else (if j < 0 then (-1) else (if j < gc then (let x_5 := (i * gc) + j; (if x_5 < 0 then (-1) else (if nI n ≤ x_5 then (-1) else f x_5.toNatClampNeg))) else (-1)))))
set_option maxHeartbeats 4000000 in
set_option maxRecDepth 100000 in
theorem ct_X1_get (l : Launch) (D : va_G) (Y : cq_Y) (h b : Nat) (gr gc : Int32) (n : Nat) (f : FI) (i : Int32) (j : Int32) (hn : n < 2147483648) : cq_MR l yX1_get wsX1_get (cq_rm 0 0) D Y (cl_grd Y h b gr gc n f) [.ref h, .int i, .int j] (some (.int (m_X1_get gr gc n f i j))) := by
  refine cq_body (cc := cX1_get) (maxL := 4) (ret := (some .int)) (by decide) rfl (Nat.le_of_ble_eq_true rfl) ?_
  intro p e s m below meth c hE hP hG hD ls hl
  obtain ⟨hx, hb, hr, hml, hts, hown, hnm, hlocks⟩ := hE
  have hown : s.vm.findClass RX1 = some m.cls := hown
  have hl : lv_has ls 4 [(0, .ref h), (1, .int i), (2, .int j)] := hl
  refine lv_iload_n hx hb dX1_get_0 rfl (lv_at hl 1 rfl) ?_
  refine lv_if_lt (tgt := 24) hx hb dX1_get_1 (by decide) (fun c_1 => ?_) (fun c_1 => ?_)
  · refine lv_iconst (v := (-1)) hx hb dX1_get_24 (by decide) ?_
    exact cq_rI hx hb hr hlocks (vp_nar_int _) (by simp only [m_X1_get, eq_true c_1, ↓reduceIte, if_true, if_false]) dX1_get_25
  · refine lv_iload_n hx hb dX1_get_4 rfl (lv_at hl 1 rfl) ?_
    refine lv_aload_n hx hb dX1_get_5 rfl (lv_at hl 0 rfl) ?_
    refine va_get (D := D) (ci := 1) (v := .int gr) (C := RX1) (T := TX1) (N := 3) hx hb hts (fun _ h => List.mem_cons_of_mem _ (List.mem_append_right _ h)) hown hG.1 hP 0 rfl rfl 0 (by decide) (hts (.fieldLink RX1 9 "CatalogueLoader$Grid" "lines" "I") (List.mem_of_getElem? (i := 1) rfl)) (fun _ h9 => h9) rfl dX1_get_6 ?_
    refine lv_icmp_ge (tgt := 24) hx hb dX1_get_9 (by decide) (fun c_2 => ?_) (fun c_2 => ?_)
    · refine lv_iconst (v := (-1)) hx hb dX1_get_24 (by decide) ?_
      exact cq_rI hx hb hr hlocks (vp_nar_int _) (by simp only [m_X1_get, eq_false c_1, eq_true c_2, ↓reduceIte, if_true, if_false]) dX1_get_25
    · refine lv_iload_n hx hb dX1_get_12 rfl (lv_at hl 2 rfl) ?_
      refine lv_if_lt (tgt := 24) hx hb dX1_get_13 (by decide) (fun c_3 => ?_) (fun c_3 => ?_)
      · refine lv_iconst (v := (-1)) hx hb dX1_get_24 (by decide) ?_
        exact cq_rI hx hb hr hlocks (vp_nar_int _) (by simp only [m_X1_get, eq_false c_1, eq_false c_2, eq_true c_3, ↓reduceIte, if_true, if_false]) dX1_get_25
      · refine lv_iload_n hx hb dX1_get_16 rfl (lv_at hl 2 rfl) ?_
        refine lv_aload_n hx hb dX1_get_17 rfl (lv_at hl 0 rfl) ?_
        refine va_get (D := D) (ci := 1) (v := .int gc) (C := RX1) (T := TX1) (N := 3) hx hb hts (fun _ h => List.mem_cons_of_mem _ (List.mem_append_right _ h)) hown hG.1 hP 0 rfl rfl 1 (by decide) (hts (.fieldLink RX1 15 "CatalogueLoader$Grid" "columns" "I") (List.mem_of_getElem? (i := 2) rfl)) (fun _ h9 => h9) rfl dX1_get_18 ?_
        refine lv_icmp_lt (tgt := 26) hx hb dX1_get_21 (by decide) (fun c_4 => ?_) (fun c_4 => ?_)
        · refine lv_iload_n hx hb dX1_get_26 rfl (lv_at hl 1 rfl) ?_
          refine lv_aload_n hx hb dX1_get_27 rfl (lv_at hl 0 rfl) ?_
          refine va_get (D := D) (ci := 1) (v := .int gc) (C := RX1) (T := TX1) (N := 3) hx hb hts (fun _ h => List.mem_cons_of_mem _ (List.mem_append_right _ h)) hown hG.1 hP 0 rfl rfl 1 (by decide) (hts (.fieldLink RX1 15 "CatalogueLoader$Grid" "columns" "I") (List.mem_of_getElem? (i := 2) rfl)) (fun _ h9 => h9) rfl dX1_get_28 ?_
          refine lv_imul hx hb dX1_get_31 ?_
          refine lv_iload_n hx hb dX1_get_32 rfl (lv_at hl 2 rfl) ?_
          refine lv_iadd hx hb dX1_get_33 ?_
          refine lv_topi (fun x_5 ex_5 => ?_)
          refine lv_istore_n (lv' := [(3, .int x_5), (0, .ref h), (1, .int i), (2, .int j)]) hx hb dX1_get_34 rfl hl (by decide) rfl (fun ls hl => ?_)
          refine lv_iload_n hx hb dX1_get_35 rfl (lv_at hl 0 rfl) ?_
          refine lv_if_lt (tgt := 57) hx hb dX1_get_36 (by decide) (fun c_6 => ?_) (fun c_6 => ?_)
          · refine lv_iconst (v := (-1)) hx hb dX1_get_57 (by decide) ?_
            exact cq_rI hx hb hr hlocks (vp_nar_int _) (by subst ex_5; simp only [m_X1_get, eq_false c_1, eq_false c_2, eq_false c_3, eq_true c_4, eq_true c_6, ↓reduceIte, if_true, if_false]) dX1_get_58
          · refine lv_iload_n hx hb dX1_get_39 rfl (lv_at hl 0 rfl) ?_
            refine lv_aload_n hx hb dX1_get_40 rfl (lv_at hl 1 rfl) ?_
            refine va_get (D := D) (ci := 1) (v := .ref b) (C := RX1) (T := TX1) (N := 3) hx hb hts (fun _ h => List.mem_cons_of_mem _ (List.mem_append_right _ h)) hown hG.1 hP 0 rfl rfl 2 (by decide) (hts (.fieldLink RX1 24 "CatalogueLoader$Grid" "cells" "[I") (List.mem_of_getElem? (i := 3) rfl)) (fun _ h9 => h9) rfl dX1_get_41 ?_
            refine va_alen (v := nI n) hx hb hG.1 hP 1 0 rfl (ty := .int) rfl rfl dX1_get_44 ?_
            refine lv_icmp_ge (tgt := 57) hx hb dX1_get_45 (by decide) (fun c_7 => ?_) (fun c_7 => ?_)
            · refine lv_iconst (v := (-1)) hx hb dX1_get_57 (by decide) ?_
              exact cq_rI hx hb hr hlocks (vp_nar_int _) (by subst ex_5; simp only [m_X1_get, eq_false c_1, eq_false c_2, eq_false c_3, eq_true c_4, eq_false c_6, eq_true c_7, ↓reduceIte, if_true, if_false]) dX1_get_58
            · refine lv_aload_n hx hb dX1_get_48 rfl (lv_at hl 1 rfl) ?_
              refine va_get (D := D) (ci := 1) (v := .ref b) (C := RX1) (T := TX1) (N := 3) hx hb hts (fun _ h => List.mem_cons_of_mem _ (List.mem_append_right _ h)) hown hG.1 hP 0 rfl rfl 2 (by decide) (hts (.fieldLink RX1 24 "CatalogueLoader$Grid" "cells" "[I") (List.mem_of_getElem? (i := 3) rfl)) (fun _ h9 => h9) rfl dX1_get_49 ?_
              refine lv_iload_n hx hb dX1_get_52 rfl (lv_at hl 0 rfl) ?_
              refine va_iald hx hb hG.1 hP 1 0 rfl rfl (cq_vin (by first | decide | assumption | omega) c_6 c_7) dX1_get_53 ?_
              refine lv_goto (tgt := 58) hx hb dX1_get_54 (by decide) ?_
              exact cq_rI hx hb hr hlocks (vp_nar_int _) (by subst ex_5; simp only [m_X1_get, eq_false c_1, eq_false c_2, eq_false c_3, eq_true c_4, eq_false c_6, eq_false c_7, ↓reduceIte, if_true, if_false]) dX1_get_58
        · refine lv_iconst (v := (-1)) hx hb dX1_get_24 (by decide) ?_
          exact cq_rI hx hb hr hlocks (vp_nar_int _) (by simp only [m_X1_get, eq_false c_1, eq_false c_2, eq_false c_3, eq_false c_4, ↓reduceIte, if_true, if_false]) dX1_get_25

def m_X1_set (gr : Int32) (gc : Int32) (n : Nat) (f : FI) (i : Int32) (j : Int32) (v : Int32) : FI := (if i < 0 then f else (if gr ≤ i then f else (if j < 0 then f else (if j < gc then (let x_5 := (i * gc) + j; (if x_5 < 0 then f else (if nI n ≤ x_5 then f else upd f x_5.toNatClampNeg v))) else f))))
set_option maxHeartbeats 4000000 in
set_option maxRecDepth 100000 in
theorem ct_X1_set (l : Launch) (D : va_G) (Y : cq_Y) (h b : Nat) (gr gc : Int32) (n : Nat) (f : FI) (i : Int32) (j : Int32) (v : Int32) (hn : n < 2147483648) : cq_MW l yX1_set wsX1_set (cq_rm 0 0) D Y (cl_grd Y h b gr gc n f) [.ref h, .int i, .int j, .int v] (none) (cl_grd Y h b gr gc n (m_X1_set gr gc n f i j v)) := by
  refine cq_body (cc := cX1_set) (maxL := 5) (ret := none) (by decide) rfl (Nat.le_of_ble_eq_true rfl) ?_
  intro p e s m below meth c hE hP hG hD ls hl
  obtain ⟨hx, hb, hr, hml, hts, hown, hnm, hlocks⟩ := hE
  have hown : s.vm.findClass RX1 = some m.cls := hown
  have hS : va_S (cq_in (cl_grd Y h b gr gc n f)) s.heap s.heap [] := va_S.rf
  have hl : lv_has ls 5 [(0, .ref h), (1, .int i), (2, .int j), (3, .int v)] := hl
  refine lv_iload_n hx hb dX1_set_0 rfl (lv_at hl 1 rfl) ?_
  refine lv_if_lt (tgt := 24) hx hb dX1_set_1 (by decide) (fun c_1 => ?_) (fun c_1 => ?_)
  · exact cq_wV (wl := cl_grd Y h b gr gc n f) hx hb hr hlocks hP hS rfl (by simp only [m_X1_set, eq_true c_1, ↓reduceIte, if_true, if_false]) dX1_set_24
  · refine lv_iload_n hx hb dX1_set_4 rfl (lv_at hl 1 rfl) ?_
    refine lv_aload_n hx hb dX1_set_5 rfl (lv_at hl 0 rfl) ?_
    refine va_get (D := D) (ci := 1) (v := .int gr) (C := RX1) (T := TX1) (N := 3) hx hb hts (fun _ h => List.mem_cons_of_mem _ (List.mem_append_right _ h)) hown hG.1 hP 0 rfl rfl 0 (by decide) (hts (.fieldLink RX1 9 "CatalogueLoader$Grid" "lines" "I") (List.mem_of_getElem? (i := 1) rfl)) (fun _ h9 => h9) rfl dX1_set_6 ?_
    refine lv_icmp_ge (tgt := 24) hx hb dX1_set_9 (by decide) (fun c_2 => ?_) (fun c_2 => ?_)
    · exact cq_wV (wl := cl_grd Y h b gr gc n f) hx hb hr hlocks hP hS rfl (by simp only [m_X1_set, eq_false c_1, eq_true c_2, ↓reduceIte, if_true, if_false]) dX1_set_24
    · refine lv_iload_n hx hb dX1_set_12 rfl (lv_at hl 2 rfl) ?_
      refine lv_if_lt (tgt := 24) hx hb dX1_set_13 (by decide) (fun c_3 => ?_) (fun c_3 => ?_)
      · exact cq_wV (wl := cl_grd Y h b gr gc n f) hx hb hr hlocks hP hS rfl (by simp only [m_X1_set, eq_false c_1, eq_false c_2, eq_true c_3, ↓reduceIte, if_true, if_false]) dX1_set_24
      · refine lv_iload_n hx hb dX1_set_16 rfl (lv_at hl 2 rfl) ?_
        refine lv_aload_n hx hb dX1_set_17 rfl (lv_at hl 0 rfl) ?_
        refine va_get (D := D) (ci := 1) (v := .int gc) (C := RX1) (T := TX1) (N := 3) hx hb hts (fun _ h => List.mem_cons_of_mem _ (List.mem_append_right _ h)) hown hG.1 hP 0 rfl rfl 1 (by decide) (hts (.fieldLink RX1 15 "CatalogueLoader$Grid" "columns" "I") (List.mem_of_getElem? (i := 2) rfl)) (fun _ h9 => h9) rfl dX1_set_18 ?_
        refine lv_icmp_lt (tgt := 25) hx hb dX1_set_21 (by decide) (fun c_4 => ?_) (fun c_4 => ?_)
        · refine lv_iload_n hx hb dX1_set_25 rfl (lv_at hl 1 rfl) ?_
          refine lv_aload_n hx hb dX1_set_26 rfl (lv_at hl 0 rfl) ?_
          refine va_get (D := D) (ci := 1) (v := .int gc) (C := RX1) (T := TX1) (N := 3) hx hb hts (fun _ h => List.mem_cons_of_mem _ (List.mem_append_right _ h)) hown hG.1 hP 0 rfl rfl 1 (by decide) (hts (.fieldLink RX1 15 "CatalogueLoader$Grid" "columns" "I") (List.mem_of_getElem? (i := 2) rfl)) (fun _ h9 => h9) rfl dX1_set_27 ?_
          refine lv_imul hx hb dX1_set_30 ?_
          refine lv_iload_n hx hb dX1_set_31 rfl (lv_at hl 2 rfl) ?_
          refine lv_iadd hx hb dX1_set_32 ?_
          refine lv_topi (fun x_5 ex_5 => ?_)
          refine lv_istore (lv' := [(4, .int x_5), (0, .ref h), (1, .int i), (2, .int j), (3, .int v)]) hx hb dX1_set_33 hl (by decide) rfl (fun ls hl => ?_)
          refine lv_iload hx hb dX1_set_35 (lv_at hl 0 rfl) ?_
          refine lv_if_lt (tgt := 58) hx hb dX1_set_37 (by decide) (fun c_6 => ?_) (fun c_6 => ?_)
          · exact cq_wV (wl := cl_grd Y h b gr gc n f) hx hb hr hlocks hP hS rfl (by subst ex_5; simp only [m_X1_set, eq_false c_1, eq_false c_2, eq_false c_3, eq_true c_4, eq_true c_6, ↓reduceIte, if_true, if_false]) dX1_set_58
          · refine lv_iload hx hb dX1_set_40 (lv_at hl 0 rfl) ?_
            refine lv_aload_n hx hb dX1_set_42 rfl (lv_at hl 1 rfl) ?_
            refine va_get (D := D) (ci := 1) (v := .ref b) (C := RX1) (T := TX1) (N := 3) hx hb hts (fun _ h => List.mem_cons_of_mem _ (List.mem_append_right _ h)) hown hG.1 hP 0 rfl rfl 2 (by decide) (hts (.fieldLink RX1 24 "CatalogueLoader$Grid" "cells" "[I") (List.mem_of_getElem? (i := 3) rfl)) (fun _ h9 => h9) rfl dX1_set_43 ?_
            refine va_alen (v := nI n) hx hb hG.1 hP 1 0 rfl (ty := .int) rfl rfl dX1_set_46 ?_
            refine lv_icmp_ge (tgt := 58) hx hb dX1_set_47 (by decide) (fun c_7 => ?_) (fun c_7 => ?_)
            · exact cq_wV (wl := cl_grd Y h b gr gc n f) hx hb hr hlocks hP hS rfl (by subst ex_5; simp only [m_X1_set, eq_false c_1, eq_false c_2, eq_false c_3, eq_true c_4, eq_false c_6, eq_true c_7, ↓reduceIte, if_true, if_false]) dX1_set_58
            · refine lv_aload_n hx hb dX1_set_50 rfl (lv_at hl 1 rfl) ?_
              refine va_get (D := D) (ci := 1) (v := .ref b) (C := RX1) (T := TX1) (N := 3) hx hb hts (fun _ h => List.mem_cons_of_mem _ (List.mem_append_right _ h)) hown hG.1 hP 0 rfl rfl 2 (by decide) (hts (.fieldLink RX1 24 "CatalogueLoader$Grid" "cells" "[I") (List.mem_of_getElem? (i := 3) rfl)) (fun _ h9 => h9) rfl dX1_set_51 ?_
              refine lv_iload hx hb dX1_set_54 (lv_at hl 0 rfl) ?_
              refine lv_iload_n hx hb dX1_set_56 rfl (lv_at hl 4 rfl) ?_
              refine va_iast hx hb hG.1 hP hD hS 1 0 rfl rfl (cq_vin (by first | decide | assumption | omega) c_6 c_7) dX1_set_57 (fun H locs hP hD hS => ?_)
              have hP : va_P D vwCl (cl_grd Y h b gr gc n (upd f x_5.toNatClampNeg v)) H := hP
              have hD : va_D (cq_in (cl_grd Y h b gr gc n f)) (cl_grd Y h b gr gc n (upd f x_5.toNatClampNeg v)) := hD
              exact cq_wV (wl := cl_grd Y h b gr gc n (upd f x_5.toNatClampNeg v)) hx hb hr hlocks hP hS rfl (by subst ex_5; simp only [m_X1_set, eq_false c_1, eq_false c_2, eq_false c_3, eq_true c_4, eq_false c_6, eq_false c_7, ↓reduceIte, if_true, if_false]) dX1_set_58
        · exact cq_wV (wl := cl_grd Y h b gr gc n f) hx hb hr hlocks hP hS rfl (by simp only [m_X1_set, eq_false c_1, eq_false c_2, eq_false c_3, eq_false c_4, ↓reduceIte, if_true, if_false]) dX1_set_24

def m_X1_fill (gr : Int32) (gc : Int32) (n : Nat) (f : FI) (v : Int32) : FI := m_J7_fill_53178 n f v
set_option maxHeartbeats 4000000 in
set_option maxRecDepth 100000 in
theorem ct_X1_fill (l : Launch) (D : va_G) (Y : cq_Y) (h b : Nat) (gr gc : Int32) (n : Nat) (f : FI) (v : Int32) (hn : n < 2147483648) : cq_MW l yX1_fill wsX1_fill (cq_rm 1 23) D Y (cl_grd Y h b gr gc n f) [.ref h, .int v] (none) (cl_grd Y h b gr gc n (m_X1_fill gr gc n f v)) := by
  refine cq_body (cc := cX1_fill) (maxL := 2) (ret := none) (by decide) rfl (Nat.le_of_ble_eq_true rfl) ?_
  intro p e s m below meth c hE hP hG hD ls hl
  obtain ⟨hx, hb, hr, hml, hts, hown, hnm, hlocks⟩ := hE
  have hown : s.vm.findClass RX1 = some m.cls := hown
  have hS : va_S (cq_in (cl_grd Y h b gr gc n f)) s.heap s.heap [] := va_S.rf
  have hl : lv_has ls 2 [(0, .ref h), (1, .int v)] := hl
  refine lv_aload_n hx hb dX1_fill_0 rfl (lv_at hl 0 rfl) ?_
  refine va_get (D := D) (ci := 1) (v := .ref b) (C := RX1) (T := TX1) (N := 3) hx hb hts (fun _ h => List.mem_cons_of_mem _ (List.mem_append_right _ h)) hown hG.1 hP 0 rfl rfl 2 (by decide) (hts (.fieldLink RX1 24 "CatalogueLoader$Grid" "cells" "[I") (List.mem_of_getElem? (i := 1) rfl)) (fun _ h9 => h9) rfl dX1_fill_1 ?_
  refine lv_iload_n hx hb dX1_fill_4 rfl (lv_at hl 1 rfl) ?_
  refine cq_WS (R := (cq_rm 1 23)) (args := ([.ref h, .int v] : List Value).toArray) (y := yJ7_fill_53178) (bytes := cJ7_fill_53178) (cc := cX1_fill) (maxL := 4) (nL := 2) (n := 2) (index := 28) (ret := none) (ws := wsJ7_fill_53178) (rm := cq_rm 0 0) (Ts := wsX1_fill) (own := RX1) (D := D) (Y := Y) (W0 := cl_arr Y b n f) (wl := cl_grd Y h b gr gc n f) (v := none) (st0 := [.int v, .ref b]) (As := [.ref b, .int v]) (rest := []) (W1 := cl_arr Y b n (m_J7_fill_53178 n f v)) (cl_grd Y h b gr gc n (m_J7_fill_53178 n f v)) [0] ⟨hx, hb, hml, hown, hts⟩ (ct_J7_fill_53178 l D Y b n f v hn) (va_cwS 2 hts gX1_fill_J7_fill_53178 rfl rfl rfl (by decide +kernel) ⟨Nat.le_of_ble_eq_true rfl, Nat.le_of_ble_eq_true rfl⟩) hG hP hD hS [1] rfl (by decide +kernel) ⟨rfl, ⟨[(h, .inr (1, [.int gr, .int gc, .ref b]))], rfl, rfl⟩, 2, rfl, by decide +kernel⟩ ⟨[b], rfl, rfl⟩ rfl hl.1 rfl (Nat.le_of_ble_eq_true rfl) dX1_fill_5 ⟨Nat.zero_le _, Nat.zero_le _⟩ (fun H locs hP hD hS => ?_)
  change W _ _ _ _ _ _ _ _ _ _ _ _ _ _ _ (F0 m 8 _ [])
  exact cq_wV (wl := cl_grd Y h b gr gc n (m_J7_fill_53178 n f v)) hx hb hr hlocks hP hS rfl (by simp only [m_X1_fill, ↓reduceIte, if_true, if_false]) dX1_fill_8
