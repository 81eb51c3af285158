
def m_X7_match_lp32 (mu : MdlS) (load : Int32) (k2 : Nat) (x_6 : Int32) : Nat → Nat → Int32 → Int32 → Option (Int32 × Int32)
  | 0, k32, x5_32, x4_32 => some (x5_32, x4_32)
  | n32 + 1, k32, x5_32, x4_32 => (if x_6 = (-1) then some (x5_32, x4_32) else (if inb (nI k32) 80 = true then (if mu.2.2.2.2.2.2.2.2.2.2.2.2.2.2.2.2.2.2.1 (nI k32).toNatClampNeg = 0 then m_X7_match_lp32 mu load k2 x_6 n32 (k32 + 1) x5_32 x4_32 else (if inb ((3 * (nI k32)) + (mu.2.2.1 (nI k2).toNatClampNeg)) 240 = true then (if mu.2.2.2.2.2.2.2.2.2.2.2.2.2.2.2.2.2.2.2.1 ((3 * (nI k32)) + (mu.2.2.1 (nI k2).toNatClampNeg)).toNatClampNeg = x_6 then m_X7_match_lp32 mu load k2 x_6 n32 (k32 + 1) (nI k32) (x4_32 + 1) else m_X7_match_lp32 mu load k2 x_6 n32 (k32 + 1) x5_32 x4_32) else none)) else none))
def m_X7_match_lp2 (mu : MdlS) (load : Int32) : Nat → Nat → Option (Int32)
  | 0, k2 => some (-1)
  | n2 + 1, k2 => (if inb (nI k2) 3 = true then (if inb ((3 * load) + (mu.2.2.1 (nI k2).toNatClampNeg)) 240 = true then (let x_6 := mu.2.2.2.2.2.2.2.2.2.2.1 ((3 * load) + (mu.2.2.1 (nI k2).toNatClampNeg)).toNatClampNeg; (m_X7_match_lp32 mu load k2 x_6 80 0 (-1) 0).bind (fun fin_7 => (if fin_7.2 ≤ 0 then m_X7_match_lp2 mu load n2 (k2 + 1)  else (if fin_7.2 = 1 then some fin_7.1 else some (-2))))) else none) else none)
def m_X7_match (mu : MdlS) (load : Int32) : Option (Int32) := m_X7_match_lp2 mu load 3 0 
set_option maxHeartbeats 4000000 in
set_option maxRecDepth 100000 in
theorem ct_X7_match (l : Launch) (D : va_G) (Y : cq_Y) (amu : Nat → Nat) (mu : MdlS) (load : Int32) (r : Int32) (hm : m_X7_match mu load = some r) : cq_MR l yX7_match wsX7_match (cq_rm 0 0) D Y (cl_mdl Y amu mu) [.ref (amu 0), .int load] (some (.int r)) := by
  refine cq_body (cc := cX7_match) (maxL := 7) (ret := (some .int)) (by decide) rfl (Nat.le_of_ble_eq_true rfl) ?_
  intro p e s m below meth c hE hP hG hD ls hl
  obtain ⟨hx, hb, hr, hml, hts, hown, hnm, hlocks⟩ := hE
  have hown : s.vm.findClass RX7 = some m.cls := hown
  have hl : lv_has ls 7 [(0, .ref (amu 0)), (1, .int load)] := hl
  refine lv_iconst (v := 0) hx hb dX7_match_0 (by decide) ?_
  refine lv_istore_n (lv' := [(2, .int 0), (0, .ref (amu 0)), (1, .int load)]) hx hb dX7_match_1 rfl hl (by decide) rfl (fun ls hl => ?_)
  have lp2 : ∀ (n2 k2 : Nat) (ls : Array Slot), k2 + n2 = 3 → m_X7_match_lp2 mu load n2 k2  = some r → lv_has ls 7 [(2, .int (nI k2)), (0, .ref (amu 0)), (1, .int load)] → W p l e (cq_rm 0 0) s m ([.ref (amu 0), .int load] : List Value).toArray below meth c s.heap [] 0 0 (MQ below (cq_R (some (.int r))) ([.ref (amu 0), .int load] : List Value).toArray s 0 0 (fun _ => False)) (F0 m 2 ls []) := by
    intro n2; induction n2 with
    | zero =>
      intro k2  ls hkn hres2 hl
      have hz : 3 ≤ nI k2 := cq_z (N := 3) rfl (by omega) (by omega)
      refine lv_iload_n hx hb dX7_match_2 rfl (lv_at hl 0 rfl) ?_
      refine lv_iconst (v := 3) hx hb dX7_match_3 (by decide) ?_
      refine lv_icmp_ge (tgt := 112) hx hb dX7_match_4 (by decide) (fun c_2 => ?_) (fun c_2 => ?_)
      · refine lv_iconst (v := (-1)) hx hb dX7_match_112 (by decide) ?_
        have h9 : some (-1) = some r := by have h8 := hres2; simp only [m_X7_match_lp2, ↓reduceIte, if_true, if_false] at h8; exact h8
        have h10 := Option.some.inj h9
        subst h10
        exact cq_rI hx hb hr hlocks (vp_nar_int _) rfl dX7_match_113
      · exact absurd hz c_2
    | succ n2 ih2 =>
      intro k2  ls hkn hres2 hl
      have hz : ¬ (3 ≤ nI k2) := cq_s (N := 3) rfl (by omega) (by omega)
      refine lv_iload_n hx hb dX7_match_2 rfl (lv_at hl 0 rfl) ?_
      refine lv_iconst (v := 3) hx hb dX7_match_3 (by decide) ?_
      refine lv_icmp_ge (tgt := 112) hx hb dX7_match_4 (by decide) (fun c_3 => ?_) (fun c_3 => ?_)
      · exact absurd c_3 hz
      · refine lv_aload_n hx hb dX7_match_7 rfl (lv_at hl 1 rfl) ?_
        refine va_get (D := D) (ci := 7) (v := .ref (amu 9)) (C := RX7) (T := TX7) (N := 25) hx hb hts (fun _ h => List.mem_cons_of_mem _ (List.mem_append_right _ h)) hown hG.1 hP 0 rfl rfl 10 (by decide) (hts (.fieldLink RX7 35 "CatalogueLoaderModel" "loadKeys" "[I") (List.mem_of_getElem? (i := 1) rfl)) (fun _ h9 => h9) rfl dX7_match_8 ?_
        refine lv_iconst (v := 3) hx hb dX7_match_11 (by decide) ?_
        refine lv_iload_n hx hb dX7_match_12 rfl (lv_at hl 2 rfl) ?_
        refine lv_imul hx hb dX7_match_13 ?_
        refine lv_aload_n hx hb dX7_match_14 rfl (lv_at hl 1 rfl) ?_
        refine va_get (D := D) (ci := 7) (v := .ref (amu 3)) (C := RX7) (T := TX7) (N := 25) hx hb hts (fun _ h => List.mem_cons_of_mem _ (List.mem_append_right _ h)) hown hG.1 hP 0 rfl rfl 2 (by decide) (hts (.fieldLink RX7 16 "CatalogueLoaderModel" "order" "[I") (List.mem_of_getElem? (i := 2) rfl)) (fun _ h9 => h9) rfl dX7_match_15 ?_
        refine lv_iload_n hx hb dX7_match_18 rfl (lv_at hl 0 rfl) ?_
        have h_4 : inb (nI k2) 3 = true := by by_cases h9 : inb (nI k2) 3 = true; exact h9; exfalso; simp only [m_X7_match_lp2, eq_false h9, ↓reduceIte, if_true, if_false] at hres2; cases hres2
        refine va_iald hx hb hG.1 hP 3 0 rfl rfl (inb_in h_4) dX7_match_19 ?_
        refine lv_iadd hx hb dX7_match_20 ?_
        have h_5 : inb ((3 * load) + (mu.2.2.1 (nI k2).toNatClampNeg)) 240 = true := by by_cases h9 : inb ((3 * load) + (mu.2.2.1 (nI k2).toNatClampNeg)) 240 = true; exact h9; exfalso; simp only [m_X7_match_lp2, eq_true h_4, eq_false h9, ↓reduceIte, if_true, if_false] at hres2; cases hres2
        refine va_iald hx hb hG.1 hP 9 0 rfl rfl (inb_in h_5) dX7_match_21 ?_
        refine lv_topi (fun x_6 ex_6 => ?_)
        refine lv_istore_n (lv' := [(3, .int x_6), (2, .int (nI k2)), (0, .ref (amu 0)), (1, .int load)]) hx hb dX7_match_22 rfl hl (by decide) rfl (fun ls hl => ?_)
        refine lv_iconst (v := 0) hx hb dX7_match_23 (by decide) ?_
        refine lv_istore (lv' := [(4, .int 0), (3, .int x_6), (2, .int (nI k2)), (0, .ref (amu 0)), (1, .int load)]) hx hb dX7_match_24 hl (by decide) rfl (fun ls hl => ?_)
        refine lv_iconst (v := (-1)) hx hb dX7_match_26 (by decide) ?_
        refine lv_istore (lv' := [(5, .int (-1)), (4, .int 0), (3, .int x_6), (2, .int (nI k2)), (0, .ref (amu 0)), (1, .int load)]) hx hb dX7_match_27 hl (by decide) rfl (fun ls hl => ?_)
        refine lv_iconst (v := 0) hx hb dX7_match_29 (by decide) ?_
        refine lv_istore (lv' := [(6, .int 0), (5, .int (-1)), (4, .int 0), (3, .int x_6), (2, .int (nI k2)), (0, .ref (amu 0)), (1, .int load)]) hx hb dX7_match_30 hl (by decide) rfl (fun ls hl => ?_)
        obtain ⟨fin_7, qfin_7⟩ : ∃ z, m_X7_match_lp32 mu load k2 x_6 80 0 (-1) 0 = some z := by cases h9 : m_X7_match_lp32 mu load k2 x_6 80 0 (-1) 0 with | some z => exact ⟨z, rfl⟩ | none => exfalso; subst ex_6; simp only [m_X7_match_lp2, eq_true h_4, eq_true h_5, h9, Option.bind_none, ↓reduceIte, if_true, if_false] at hres2; cases hres2
        have kt32 : ∀ (ls : Array Slot), lv_has ls 7 [(5, .int fin_7.1), (4, .int fin_7.2), (3, .int x_6), (2, .int (nI k2)), (0, .ref (amu 0)), (1, .int load)] → W p l e (cq_rm 0 0) s m ([.ref (amu 0), .int load] : List Value).toArray below meth c s.heap [] 0 0 (MQ below (cq_R (some (.int r))) ([.ref (amu 0), .int load] : List Value).toArray s 0 0 (fun _ => False)) (F0 m 87 ls []) := by
          intro ls hl
          refine lv_iload hx hb dX7_match_87 (lv_at hl 1 rfl) ?_
          refine lv_if_le (tgt := 106) hx hb dX7_match_89 (by decide) (fun c_8 => ?_) (fun c_8 => ?_)
          · refine lv_iinc (v := nI (k2 + 1)) (lv' := [(2, .int (nI (k2 + 1))), (5, .int fin_7.1), (4, .int fin_7.2), (3, .int x_6), (0, .ref (amu 0)), (1, .int load)]) hx hb dX7_match_106 hl (k := 3) rfl (nI_1 k2) (by decide) rfl (fun ls hl => ?_)
            refine lv_goto (tgt := 2) hx hb dX7_match_109 (by decide) ?_
            exact ih2 (k2 + 1)  _ (by omega) (Eq.trans (by subst ex_6; simp only [m_X7_match_lp2, eq_true h_4, eq_true h_5, eq_true c_8, qfin_7, Option.bind_some, ↓reduceIte, if_true, if_false]) hres2) (lv_sub hl [0, 4, 5] rfl)
          · refine lv_iload hx hb dX7_match_92 (lv_at hl 1 rfl) ?_
            refine lv_iconst (v := 1) hx hb dX7_match_94 (by decide) ?_
            refine lv_icmp_ne (tgt := 103) hx hb dX7_match_95 (by decide) (fun c_9 => ?_) (fun c_9 => ?_)
            · refine lv_bipush (v := (-2)) hx hb dX7_match_103 (by decide) ?_
              have h9 : some (-2) = some r := by have h8 := hres2; subst ex_6; simp only [m_X7_match_lp2, eq_true h_4, eq_true h_5, eq_false c_8, eq_false c_9, qfin_7, Option.bind_some, ↓reduceIte, if_true, if_false] at h8; exact h8
              have h10 := Option.some.inj h9
              subst h10
              exact cq_rI hx hb hr hlocks (vp_nar_int _) rfl dX7_match_105
            · refine lv_iload hx hb dX7_match_98 (lv_at hl 0 rfl) ?_
              refine lv_goto (tgt := 105) hx hb dX7_match_100 (by decide) ?_
              have h9 : some fin_7.1 = some r := by have h8 := hres2; subst ex_6; simp only [m_X7_match_lp2, eq_true h_4, eq_true h_5, eq_false c_8, eq_true c_9, qfin_7, Option.bind_some, ↓reduceIte, if_true, if_false] at h8; exact h8
              have h10 := Option.some.inj h9
              subst h10
              exact cq_rI hx hb hr hlocks (vp_nar_int _) rfl dX7_match_105
        have lp32 : ∀ (n32 k32 : Nat) (x5_32 : Int32) (x4_32 : Int32) (ls : Array Slot), k32 + n32 = 80 → m_X7_match_lp32 mu load k2 x_6 n32 k32 x5_32 x4_32 = some fin_7 → lv_has ls 7 [(6, .int (nI k32)), (5, .int x5_32), (4, .int x4_32), (3, .int x_6), (2, .int (nI k2)), (0, .ref (amu 0)), (1, .int load)] → W p l e (cq_rm 0 0) s m ([.ref (amu 0), .int load] : List Value).toArray below meth c s.heap [] 0 0 (MQ below (cq_R (some (.int r))) ([.ref (amu 0), .int load] : List Value).toArray s 0 0 (fun _ => False)) (F0 m 32 ls []) := by
          intro n32; induction n32 with
          | zero =>
            intro k32 x5_32 x4_32 ls hkn hres32 hl
            have hz : 80 ≤ nI k32 := cq_z (N := 80) rfl (by omega) (by omega)
            have e9 : x5_32 = fin_7.1 := by rw [← (Option.some.inj hres32)]
            subst e9
            have e9 : x4_32 = fin_7.2 := by rw [← (Option.some.inj hres32)]
            subst e9
            refine lv_iload hx hb dX7_match_32 (lv_at hl 0 rfl) ?_
            refine lv_bipush (v := 80) hx hb dX7_match_34 (by decide) ?_
            refine lv_icmp_ge (tgt := 87) hx hb dX7_match_36 (by decide) (fun c_10 => ?_) (fun c_10 => ?_)
            · exact kt32 _ (lv_sub hl [1, 2, 3, 4, 5, 6] rfl)
            · exact absurd hz c_10
          | succ n32 ih32 =>
            intro k32 x5_32 x4_32 ls hkn hres32 hl
            have hz : ¬ (80 ≤ nI k32) := cq_s (N := 80) rfl (by omega) (by omega)
            refine lv_iload hx hb dX7_match_32 (lv_at hl 0 rfl) ?_
            refine lv_bipush (v := 80) hx hb dX7_match_34 (by decide) ?_
            refine lv_icmp_ge (tgt := 87) hx hb dX7_match_36 (by decide) (fun c_11 => ?_) (fun c_11 => ?_)
            · exact absurd c_11 hz
            · refine lv_iload_n hx hb dX7_match_39 rfl (lv_at hl 3 rfl) ?_
              refine lv_iconst (v := (-1)) hx hb dX7_match_40 (by decide) ?_
              refine lv_icmp_eq (tgt := 87) hx hb dX7_match_41 (by decide) (fun c_12 => ?_) (fun c_12 => ?_)
              · have h9 : some (x5_32, x4_32) = some fin_7 := by have h8 := hres32; subst ex_6; simp only [m_X7_match_lp32, eq_true h_4, eq_true h_5, eq_true c_12, ↓reduceIte, if_true, if_false] at h8; exact h8
                have e9 : x5_32 = fin_7.1 := by rw [← (Option.some.inj h9)]
                subst e9
                have e9 : x4_32 = fin_7.2 := by rw [← (Option.some.inj h9)]
                subst e9
                exact kt32 _ (lv_sub hl [1, 2, 3, 4, 5, 6] rfl)
              · refine lv_aload_n hx hb dX7_match_44 rfl (lv_at hl 5 rfl) ?_
                refine va_get (D := D) (ci := 7) (v := .ref (amu 15)) (C := RX7) (T := TX7) (N := 25) hx hb hts (fun _ h => List.mem_cons_of_mem _ (List.mem_append_right _ h)) hown hG.1 hP 0 rfl rfl 18 (by decide) (hts (.fieldLink RX7 53 "CatalogueLoaderModel" "isIn" "[Z") (List.mem_of_getElem? (i := 3) rfl)) (fun _ h9 => h9) rfl dX7_match_45 ?_
                refine lv_iload hx hb dX7_match_48 (lv_at hl 0 rfl) ?_
                have h_13 : inb (nI k32) 80 = true := by by_cases h9 : inb (nI k32) 80 = true; exact h9; exfalso; subst ex_6; simp only [m_X7_match_lp32, eq_true h_4, eq_true h_5, eq_false c_12, eq_false h9, ↓reduceIte, if_true, if_false] at hres32; cases hres32
                refine va_zald hx hb hG.1 hP 15 1 rfl rfl (inb_in h_13) dX7_match_50 ?_
                refine lv_if_eq (tgt := 81) hx hb dX7_match_51 (by decide) (fun c_14 => ?_) (fun c_14 => ?_)
                · refine lv_iinc (v := nI (k32 + 1)) (lv' := [(6, .int (nI (k32 + 1))), (5, .int x5_32), (4, .int x4_32), (3, .int x_6), (2, .int (nI k2)), (0, .ref (amu 0)), (1, .int load)]) hx hb dX7_match_81 hl (k := 0) rfl (nI_1 k32) (by decide) rfl (fun ls hl => ?_)
                  refine lv_goto (tgt := 32) hx hb dX7_match_84 (by decide) ?_
                  exact ih32 (k32 + 1) x5_32 x4_32 _ (by omega) (Eq.trans (by subst ex_6; simp only [m_X7_match_lp32, eq_true h_4, eq_true h_5, eq_false c_12, eq_true h_13, eq_true c_14, ↓reduceIte, if_true, if_false]) hres32) (lv_sub hl [0, 1, 2, 3, 4, 5, 6] rfl)
                · refine lv_aload_n hx hb dX7_match_54 rfl (lv_at hl 5 rfl) ?_
                  refine va_get (D := D) (ci := 7) (v := .ref (amu 16)) (C := RX7) (T := TX7) (N := 25) hx hb hts (fun _ h => List.mem_cons_of_mem _ (List.mem_append_right _ h)) hown hG.1 hP 0 rfl rfl 19 (by decide) (hts (.fieldLink RX7 56 "CatalogueLoaderModel" "keys" "[I") (List.mem_of_getElem? (i := 4) rfl)) (fun _ h9 => h9) rfl dX7_match_55 ?_
                  refine lv_iconst (v := 3) hx hb dX7_match_58 (by decide) ?_
                  refine lv_iload hx hb dX7_match_59 (lv_at hl 0 rfl) ?_
                  refine lv_imul hx hb dX7_match_61 ?_
                  refine lv_aload_n hx hb dX7_match_62 rfl (lv_at hl 5 rfl) ?_
                  refine va_get (D := D) (ci := 7) (v := .ref (amu 3)) (C := RX7) (T := TX7) (N := 25) hx hb hts (fun _ h => List.mem_cons_of_mem _ (List.mem_append_right _ h)) hown hG.1 hP 0 rfl rfl 2 (by decide) (hts (.fieldLink RX7 16 "CatalogueLoaderModel" "order" "[I") (List.mem_of_getElem? (i := 2) rfl)) (fun _ h9 => h9) rfl dX7_match_63 ?_
                  refine lv_iload_n hx hb dX7_match_66 rfl (lv_at hl 4 rfl) ?_
                  refine va_iald hx hb hG.1 hP 3 0 rfl rfl (inb_in h_4) dX7_match_67 ?_
                  refine lv_iadd hx hb dX7_match_68 ?_
                  have h_15 : inb ((3 * (nI k32)) + (mu.2.2.1 (nI k2).toNatClampNeg)) 240 = true := by by_cases h9 : inb ((3 * (nI k32)) + (mu.2.2.1 (nI k2).toNatClampNeg)) 240 = true; exact h9; exfalso; subst ex_6; simp only [m_X7_match_lp32, eq_true h_4, eq_true h_5, eq_false c_12, eq_true h_13, eq_false c_14, eq_false h9, ↓reduceIte, if_true, if_false] at hres32; cases hres32
                  refine va_iald hx hb hG.1 hP 16 0 rfl rfl (inb_in h_15) dX7_match_69 ?_
                  refine lv_iload_n hx hb dX7_match_70 rfl (lv_at hl 3 rfl) ?_
                  refine lv_icmp_ne (tgt := 81) hx hb dX7_match_71 (by decide) (fun c_16 => ?_) (fun c_16 => ?_)
                  · refine lv_iinc (v := nI (k32 + 1)) (lv' := [(6, .int (nI (k32 + 1))), (5, .int x5_32), (4, .int x4_32), (3, .int x_6), (2, .int (nI k2)), (0, .ref (amu 0)), (1, .int load)]) hx hb dX7_match_81 hl (k := 0) rfl (nI_1 k32) (by decide) rfl (fun ls hl => ?_)
                    refine lv_goto (tgt := 32) hx hb dX7_match_84 (by decide) ?_
                    exact ih32 (k32 + 1) x5_32 x4_32 _ (by omega) (Eq.trans (by subst ex_6; simp only [m_X7_match_lp32, eq_true h_4, eq_true h_5, eq_false c_12, eq_true h_13, eq_false c_14, eq_true h_15, eq_false c_16, ↓reduceIte, if_true, if_false]) hres32) (lv_sub hl [0, 1, 2, 3, 4, 5, 6] rfl)
                  · refine lv_iinc (v := x4_32 + 1) (lv' := [(4, .int (x4_32 + 1)), (6, .int (nI k32)), (5, .int x5_32), (3, .int x_6), (2, .int (nI k2)), (0, .ref (amu 0)), (1, .int load)]) hx hb dX7_match_74 hl (k := 2) rfl rfl (by decide) rfl (fun ls hl => ?_)
                    refine lv_iload hx hb dX7_match_77 (lv_at hl 1 rfl) ?_
                    refine lv_istore (lv' := [(5, .int (nI k32)), (4, .int (x4_32 + 1)), (6, .int (nI k32)), (3, .int x_6), (2, .int (nI k2)), (0, .ref (amu 0)), (1, .int load)]) hx hb dX7_match_79 hl (by decide) rfl (fun ls hl => ?_)
                    refine lv_iinc (v := nI (k32 + 1)) (lv' := [(6, .int (nI (k32 + 1))), (5, .int (nI k32)), (4, .int (x4_32 + 1)), (3, .int x_6), (2, .int (nI k2)), (0, .ref (amu 0)), (1, .int load)]) hx hb dX7_match_81 hl (k := 2) rfl (nI_1 k32) (by decide) rfl (fun ls hl => ?_)
                    refine lv_goto (tgt := 32) hx hb dX7_match_84 (by decide) ?_
                    exact ih32 (k32 + 1) (nI k32) (x4_32 + 1) _ (by omega) (Eq.trans (by subst ex_6; simp only [m_X7_match_lp32, eq_true h_4, eq_true h_5, eq_false c_12, eq_true h_13, eq_false c_14, eq_true h_15, eq_true c_16, ↓reduceIte, if_true, if_false]) hres32) (lv_sub hl [0, 1, 2, 3, 4, 5, 6] rfl)
        exact lp32 80 0 (-1) 0 _ (Nat.zero_add _) qfin_7 (lv_sub hl [0, 1, 2, 3, 4, 5, 6] rfl)
  exact lp2 3 0  _ (Nat.zero_add _) (by have h8 := hm; simp only [m_X7_match, ↓reduceIte, if_true, if_false] at h8; exact h8) (lv_sub hl [0, 1, 2] rfl)

def m_X7_doLoad (mu : MdlS) (load : Int32) : Option (MdlS) := (if inb load 80 = true then (if inb (mu.2.2.2.2.2.2.2.2.1 load.toNatClampNeg) 10 = true then (if mu.2.2.2.2.2.2.1 (mu.2.2.2.2.2.2.2.2.1 load.toNatClampNeg).toNatClampNeg = 0 then (m_X7_match mu load).bind (fun r_4 => (if r_4 = (-1) then (m_X7_makeRecord mu load).bind (fun r_8 => some (r_8.1, r_8.2.1, r_8.2.2.1, r_8.2.2.2.1, r_8.2.2.2.2.1, r_8.2.2.2.2.2.1, r_8.2.2.2.2.2.2.1, r_8.2.2.2.2.2.2.2.1, r_8.2.2.2.2.2.2.2.2.1, r_8.2.2.2.2.2.2.2.2.2.1, r_8.2.2.2.2.2.2.2.2.2.2.1, r_8.2.2.2.2.2.2.2.2.2.2.2.1, upd r_8.2.2.2.2.2.2.2.2.2.2.2.2.1 load.toNatClampNeg load, r_8.2.2.2.2.2.2.2.2.2.2.2.2.2.1, r_8.2.2.2.2.2.2.2.2.2.2.2.2.2.2.1, r_8.2.2.2.2.2.2.2.2.2.2.2.2.2.2.2.1, r_8.2.2.2.2.2.2.2.2.2.2.2.2.2.2.2.2.1, r_8.2.2.2.2.2.2.2.2.2.2.2.2.2.2.2.2.2.1, r_8.2.2.2.2.2.2.2.2.2.2.2.2.2.2.2.2.2.2.1, r_8.2.2.2.2.2.2.2.2.2.2.2.2.2.2.2.2.2.2.2.1, r_8.2.2.2.2.2.2.2.2.2.2.2.2.2.2.2.2.2.2.2.2.1, r_8.2.2.2.2.2.2.2.2.2.2.2.2.2.2.2.2.2.2.2.2.2.1, r_8.2.2.2.2.2.2.2.2.2.2.2.2.2.2.2.2.2.2.2.2.2.2.1, r_8.2.2.2.2.2.2.2.2.2.2.2.2.2.2.2.2.2.2.2.2.2.2.2.1, r_8.2.2.2.2.2.2.2.2.2.2.2.2.2.2.2.2.2.2.2.2.2.2.2.2)) else (if r_4 = (-2) then some (mu.1, mu.2.1, mu.2.2.1, mu.2.2.2.1, mu.2.2.2.2.1, mu.2.2.2.2.2.1, mu.2.2.2.2.2.2.1, mu.2.2.2.2.2.2.2.1, mu.2.2.2.2.2.2.2.2.1, mu.2.2.2.2.2.2.2.2.2.1, mu.2.2.2.2.2.2.2.2.2.2.1, mu.2.2.2.2.2.2.2.2.2.2.2.1, upd mu.2.2.2.2.2.2.2.2.2.2.2.2.1 load.toNatClampNeg r_4, mu.2.2.2.2.2.2.2.2.2.2.2.2.2.1, mu.2.2.2.2.2.2.2.2.2.2.2.2.2.2.1, mu.2.2.2.2.2.2.2.2.2.2.2.2.2.2.2.1, mu.2.2.2.2.2.2.2.2.2.2.2.2.2.2.2.2.1, mu.2.2.2.2.2.2.2.2.2.2.2.2.2.2.2.2.2.1, mu.2.2.2.2.2.2.2.2.2.2.2.2.2.2.2.2.2.2.1, mu.2.2.2.2.2.2.2.2.2.2.2.2.2.2.2.2.2.2.2.1, mu.2.2.2.2.2.2.2.2.2.2.2.2.2.2.2.2.2.2.2.2.1, mu.2.2.2.2.2.2.2.2.2.2.2.2.2.2.2.2.2.2.2.2.2.1, mu.2.2.2.2.2.2.2.2.2.2.2.2.2.2.2.2.2.2.2.2.2.2.1, mu.2.2.2.2.2.2.2.2.2.2.2.2.2.2.2.2.2.2.2.2.2.2.2.1, mu.2.2.2.2.2.2.2.2.2.2.2.2.2.2.2.2.2.2.2.2.2.2.2.2) else (m_X7_layOver (mu.1, mu.2.1, mu.2.2.1, mu.2.2.2.1, mu.2.2.2.2.1, mu.2.2.2.2.2.1, mu.2.2.2.2.2.2.1, mu.2.2.2.2.2.2.2.1, mu.2.2.2.2.2.2.2.2.1, mu.2.2.2.2.2.2.2.2.2.1, mu.2.2.2.2.2.2.2.2.2.2.1, mu.2.2.2.2.2.2.2.2.2.2.2.1, upd mu.2.2.2.2.2.2.2.2.2.2.2.2.1 load.toNatClampNeg r_4, mu.2.2.2.2.2.2.2.2.2.2.2.2.2.1, mu.2.2.2.2.2.2.2.2.2.2.2.2.2.2.1, mu.2.2.2.2.2.2.2.2.2.2.2.2.2.2.2.1, mu.2.2.2.2.2.2.2.2.2.2.2.2.2.2.2.2.1, mu.2.2.2.2.2.2.2.2.2.2.2.2.2.2.2.2.2.1, mu.2.2.2.2.2.2.2.2.2.2.2.2.2.2.2.2.2.2.1, mu.2.2.2.2.2.2.2.2.2.2.2.2.2.2.2.2.2.2.2.1, mu.2.2.2.2.2.2.2.2.2.2.2.2.2.2.2.2.2.2.2.2.1, mu.2.2.2.2.2.2.2.2.2.2.2.2.2.2.2.2.2.2.2.2.2.1, mu.2.2.2.2.2.2.2.2.2.2.2.2.2.2.2.2.2.2.2.2.2.2.1, mu.2.2.2.2.2.2.2.2.2.2.2.2.2.2.2.2.2.2.2.2.2.2.2.1, mu.2.2.2.2.2.2.2.2.2.2.2.2.2.2.2.2.2.2.2.2.2.2.2.2) load r_4).bind (fun r_7 => some r_7)))) else some (mu.1, mu.2.1, mu.2.2.1, mu.2.2.2.1, mu.2.2.2.2.1, mu.2.2.2.2.2.1, mu.2.2.2.2.2.2.1, mu.2.2.2.2.2.2.2.1, mu.2.2.2.2.2.2.2.2.1, mu.2.2.2.2.2.2.2.2.2.1, mu.2.2.2.2.2.2.2.2.2.2.1, mu.2.2.2.2.2.2.2.2.2.2.2.1, upd mu.2.2.2.2.2.2.2.2.2.2.2.2.1 load.toNatClampNeg (-1), mu.2.2.2.2.2.2.2.2.2.2.2.2.2.1, mu.2.2.2.2.2.2.2.2.2.2.2.2.2.2.1, mu.2.2.2.2.2.2.2.2.2.2.2.2.2.2.2.1, mu.2.2.2.2.2.2.2.2.2.2.2.2.2.2.2.2.1, mu.2.2.2.2.2.2.2.2.2.2.2.2.2.2.2.2.2.1, mu.2.2.2.2.2.2.2.2.2.2.2.2.2.2.2.2.2.2.1, mu.2.2.2.2.2.2.2.2.2.2.2.2.2.2.2.2.2.2.2.1, mu.2.2.2.2.2.2.2.2.2.2.2.2.2.2.2.2.2.2.2.2.1, mu.2.2.2.2.2.2.2.2.2.2.2.2.2.2.2.2.2.2.2.2.2.1, mu.2.2.2.2.2.2.2.2.2.2.2.2.2.2.2.2.2.2.2.2.2.2.1, mu.2.2.2.2.2.2.2.2.2.2.2.2.2.2.2.2.2.2.2.2.2.2.2.1, mu.2.2.2.2.2.2.2.2.2.2.2.2.2.2.2.2.2.2.2.2.2.2.2.2)) else none) else none)
set_option maxHeartbeats 4000000 in
set_option maxRecDepth 100000 in
theorem ct_X7_doLoad (l : Launch) (D : va_G) (Y : cq_Y) (amu : Nat → Nat) (mu : MdlS) (load : Int32) (r : MdlS) (hm : m_X7_doLoad mu load = some r) : cq_MW l yX7_doLoad wsX7_doLoad (cq_rm 1 26) D Y (cl_mdl Y amu mu) [.ref (amu 0), .int load] (none) (cl_mdl Y amu r) := by
  refine cq_body (cc := cX7_doLoad) (maxL := 3) (ret := none) (by decide) rfl (Nat.le_of_ble_eq_true rfl) ?_
  intro p e s m below meth c hE hP hG hD ls hl
  obtain ⟨hx, hb, hr, hml, hts, hown, hnm, hlocks⟩ := hE
  have hown : s.vm.findClass RX7 = some m.cls := hown
  have hS : va_S (cq_in (cl_mdl Y amu mu)) s.heap s.heap [] := va_S.rf
  have hl : lv_has ls 3 [(0, .ref (amu 0)), (1, .int load)] := hl
  refine lv_aload_n hx hb dX7_doLoad_0 rfl (lv_at hl 0 rfl) ?_
  refine va_get (D := D) (ci := 7) (v := .ref (amu 6)) (C := RX7) (T := TX7) (N := 25) hx hb hts (fun _ h => List.mem_cons_of_mem _ (List.mem_append_right _ h)) hown hG.1 hP 0 rfl rfl 6 (by decide) (hts (.fieldLink RX7 25 "CatalogueLoaderModel" "isOut" "[Z") (List.mem_of_getElem? (i := 1) rfl)) (fun _ h9 => h9) rfl dX7_doLoad_1 ?_
  refine lv_aload_n hx hb dX7_doLoad_4 rfl (lv_at hl 0 rfl) ?_
  refine va_get (D := D) (ci := 7) (v := .ref (amu 7)) (C := RX7) (T := TX7) (N := 25) hx hb hts (fun _ h => List.mem_cons_of_mem _ (List.mem_append_right _ h)) hown hG.1 hP 0 rfl rfl 8 (by decide) (hts (.fieldLink RX7 29 "CatalogueLoaderModel" "loadBatch" "[I") (List.mem_of_getElem? (i := 2) rfl)) (fun _ h9 => h9) rfl dX7_doLoad_5 ?_
  refine lv_iload_n hx hb dX7_doLoad_8 rfl (lv_at hl 1 rfl) ?_
  have h_1 : inb load 80 = true := by by_cases h9 : inb load 80 = true; exact h9; exfalso; simp only [m_X7_doLoad, eq_false h9, ↓reduceIte, if_true, if_false] at hm; cases hm
  refine va_iald hx hb hG.1 hP 7 0 rfl rfl (inb_in h_1) dX7_doLoad_9 ?_
  have h_2 : inb (mu.2.2.2.2.2.2.2.2.1 load.toNatClampNeg) 10 = true := by by_cases h9 : inb (mu.2.2.2.2.2.2.2.2.1 load.toNatClampNeg) 10 = true; exact h9; exfalso; simp only [m_X7_doLoad, eq_true h_1, eq_false h9, ↓reduceIte, if_true, if_false] at hm; cases hm
  refine va_zald hx hb hG.1 hP 6 1 rfl rfl (inb_in h_2) dX7_doLoad_10 ?_
  refine lv_if_eq (tgt := 22) hx hb dX7_doLoad_11 (by decide) (fun c_3 => ?_) (fun c_3 => ?_)
  · refine lv_aload_n hx hb dX7_doLoad_22 rfl (lv_at hl 0 rfl) ?_
    refine lv_iload_n hx hb dX7_doLoad_23 rfl (lv_at hl 1 rfl) ?_
    obtain ⟨r_4, qr_4⟩ : ∃ z, m_X7_match mu load = some z := by cases h9 : m_X7_match mu load with | some z => exact ⟨z, rfl⟩ | none => exfalso; simp only [m_X7_doLoad, eq_true h_1, eq_true h_2, eq_true c_3, h9, Option.bind_none, ↓reduceIte, if_true, if_false] at hm; cases hm
    refine cq_RV (R := (cq_rm 1 26)) (args := ([.ref (amu 0), .int load] : List Value).toArray) (y := yX7_match) (bytes := cX7_match) (cc := cX7_doLoad) (maxL := 7) (nL := 3) (n := 1) (index := 85) (ret := (some .int)) (ws := wsX7_match) (rm := cq_rm 0 0) (Ts := wsX7_doLoad) (own := RX7) (D := D) (Y := Y) (W0 := cl_mdl Y amu mu) (wl := cl_mdl Y amu mu) (v := some (.int r_4)) (st0 := [.int load, .ref (amu 0)]) (As := [.int load]) (rest := []) (C := RX7) (b := amu 0) ⟨hx, hb, hml, hown, hts⟩ (ct_X7_match l D Y amu mu load r_4 qr_4) (cwV 1 hts gX7_doLoad_X7_match rfl rfl rfl (by decide +kernel) ⟨Nat.le_of_ble_eq_true rfl, Nat.le_of_ble_eq_true rfl⟩) hG hP hD [0, 1, 2, 3, 4, 5, 6, 7, 8, 9, 10, 11, 12, 13, 14, 15, 16, 17, 18, 19, 20] rfl (by decide +kernel) 0 7 (qc := (RX7, TX7, 25)) (fs := [.ref (amu 1), .ref (amu 2), .ref (amu 3), .ref (amu 4), .ref (amu 5), .int mu.2.2.2.2.2.1, .ref (amu 6), .int mu.2.2.2.2.2.2.2.1, .ref (amu 7), .ref (amu 8), .ref (amu 9), .ref (amu 10), .ref (amu 11), .int mu.2.2.2.2.2.2.2.2.2.2.2.2.2.1, .int mu.2.2.2.2.2.2.2.2.2.2.2.2.2.2.1, .ref (amu 12), .ref (amu 13), .ref (amu 14), .ref (amu 15), .ref (amu 16), .ref (amu 17), .ref (amu 18), .ref (amu 19), .ref (amu 20), .int mu.2.2.2.2.2.2.2.2.2.2.2.2.2.2.2.2.2.2.2.2.2.2.2.2]) rfl rfl rfl rfl hl.1 rfl (Nat.le_of_ble_eq_true rfl) dX7_doLoad_24 ⟨Nat.zero_le _, Nat.zero_le _⟩ ?_
    change W _ _ _ _ _ _ _ _ _ _ _ _ _ _ _ (F0 m 27 _ (.int r_4 :: []))
    refine lv_istore_n (lv' := [(2, .int r_4), (0, .ref (amu 0)), (1, .int load)]) hx hb dX7_doLoad_27 rfl hl (by decide) rfl (fun ls hl => ?_)
    refine lv_iload_n hx hb dX7_doLoad_28 rfl (lv_at hl 0 rfl) ?_
    refine lv_iconst (v := (-1)) hx hb dX7_doLoad_29 (by decide) ?_
    refine lv_icmp_ne (tgt := 48) hx hb dX7_doLoad_30 (by decide) (fun c_5 => ?_) (fun c_5 => ?_)
    · refine lv_aload_n hx hb dX7_doLoad_48 rfl (lv_at hl 1 rfl) ?_
      refine va_get (D := D) (ci := 7) (v := .ref (amu 11)) (C := RX7) (T := TX7) (N := 25) hx hb hts (fun _ h => List.mem_cons_of_mem _ (List.mem_append_right _ h)) hown hG.1 hP 0 rfl rfl 12 (by decide) (hts (.fieldLink RX7 41 "CatalogueLoaderModel" "hits" "[I") (List.mem_of_getElem? (i := 3) rfl)) (fun _ h9 => h9) rfl dX7_doLoad_49 ?_
      refine lv_iload_n hx hb dX7_doLoad_52 rfl (lv_at hl 2 rfl) ?_
      refine lv_iload_n hx hb dX7_doLoad_53 rfl (lv_at hl 0 rfl) ?_
      refine va_iast hx hb hG.1 hP hD hS 11 0 rfl rfl (inb_in h_1) dX7_doLoad_54 (fun H locs hP hD hS => ?_)
      have hP : va_P D vwCl (cl_mdl Y amu (mu.1, mu.2.1, mu.2.2.1, mu.2.2.2.1, mu.2.2.2.2.1, mu.2.2.2.2.2.1, mu.2.2.2.2.2.2.1, mu.2.2.2.2.2.2.2.1, mu.2.2.2.2.2.2.2.2.1, mu.2.2.2.2.2.2.2.2.2.1, mu.2.2.2.2.2.2.2.2.2.2.1, mu.2.2.2.2.2.2.2.2.2.2.2.1, upd mu.2.2.2.2.2.2.2.2.2.2.2.2.1 load.toNatClampNeg r_4, mu.2.2.2.2.2.2.2.2.2.2.2.2.2.1, mu.2.2.2.2.2.2.2.2.2.2.2.2.2.2.1, mu.2.2.2.2.2.2.2.2.2.2.2.2.2.2.2.1, mu.2.2.2.2.2.2.2.2.2.2.2.2.2.2.2.2.1, mu.2.2.2.2.2.2.2.2.2.2.2.2.2.2.2.2.2.1, mu.2.2.2.2.2.2.2.2.2.2.2.2.2.2.2.2.2.2.1, mu.2.2.2.2.2.2.2.2.2.2.2.2.2.2.2.2.2.2.2.1, mu.2.2.2.2.2.2.2.2.2.2.2.2.2.2.2.2.2.2.2.2.1, mu.2.2.2.2.2.2.2.2.2.2.2.2.2.2.2.2.2.2.2.2.2.1, mu.2.2.2.2.2.2.2.2.2.2.2.2.2.2.2.2.2.2.2.2.2.2.1, mu.2.2.2.2.2.2.2.2.2.2.2.2.2.2.2.2.2.2.2.2.2.2.2.1, mu.2.2.2.2.2.2.2.2.2.2.2.2.2.2.2.2.2.2.2.2.2.2.2.2)) H := hP
      have hD : va_D (cq_in (cl_mdl Y amu mu)) (cl_mdl Y amu (mu.1, mu.2.1, mu.2.2.1, mu.2.2.2.1, mu.2.2.2.2.1, mu.2.2.2.2.2.1, mu.2.2.2.2.2.2.1, mu.2.2.2.2.2.2.2.1, mu.2.2.2.2.2.2.2.2.1, mu.2.2.2.2.2.2.2.2.2.1, mu.2.2.2.2.2.2.2.2.2.2.1, mu.2.2.2.2.2.2.2.2.2.2.2.1, upd mu.2.2.2.2.2.2.2.2.2.2.2.2.1 load.toNatClampNeg r_4, mu.2.2.2.2.2.2.2.2.2.2.2.2.2.1, mu.2.2.2.2.2.2.2.2.2.2.2.2.2.2.1, mu.2.2.2.2.2.2.2.2.2.2.2.2.2.2.2.1, mu.2.2.2.2.2.2.2.2.2.2.2.2.2.2.2.2.1, mu.2.2.2.2.2.2.2.2.2.2.2.2.2.2.2.2.2.1, mu.2.2.2.2.2.2.2.2.2.2.2.2.2.2.2.2.2.2.1, mu.2.2.2.2.2.2.2.2.2.2.2.2.2.2.2.2.2.2.2.1, mu.2.2.2.2.2.2.2.2.2.2.2.2.2.2.2.2.2.2.2.2.1, mu.2.2.2.2.2.2.2.2.2.2.2.2.2.2.2.2.2.2.2.2.2.1, mu.2.2.2.2.2.2.2.2.2.2.2.2.2.2.2.2.2.2.2.2.2.2.1, mu.2.2.2.2.2.2.2.2.2.2.2.2.2.2.2.2.2.2.2.2.2.2.2.1, mu.2.2.2.2.2.2.2.2.2.2.2.2.2.2.2.2.2.2.2.2.2.2.2.2)) := hD
      refine lv_iload_n hx hb dX7_doLoad_55 rfl (lv_at hl 0 rfl) ?_
      refine lv_bipush (v := (-2)) hx hb dX7_doLoad_56 (by decide) ?_
      refine lv_icmp_eq (tgt := 67) hx hb dX7_doLoad_58 (by decide) (fun c_6 => ?_) (fun c_6 => ?_)
      · have h9 : some (mu.1, mu.2.1, mu.2.2.1, mu.2.2.2.1, mu.2.2.2.2.1, mu.2.2.2.2.2.1, mu.2.2.2.2.2.2.1, mu.2.2.2.2.2.2.2.1, mu.2.2.2.2.2.2.2.2.1, mu.2.2.2.2.2.2.2.2.2.1, mu.2.2.2.2.2.2.2.2.2.2.1, mu.2.2.2.2.2.2.2.2.2.2.2.1, upd mu.2.2.2.2.2.2.2.2.2.2.2.2.1 load.toNatClampNeg r_4, mu.2.2.2.2.2.2.2.2.2.2.2.2.2.1, mu.2.2.2.2.2.2.2.2.2.2.2.2.2.2.1, mu.2.2.2.2.2.2.2.2.2.2.2.2.2.2.2.1, mu.2.2.2.2.2.2.2.2.2.2.2.2.2.2.2.2.1, mu.2.2.2.2.2.2.2.2.2.2.2.2.2.2.2.2.2.1, mu.2.2.2.2.2.2.2.2.2.2.2.2.2.2.2.2.2.2.1, mu.2.2.2.2.2.2.2.2.2.2.2.2.2.2.2.2.2.2.2.1, mu.2.2.2.2.2.2.2.2.2.2.2.2.2.2.2.2.2.2.2.2.1, mu.2.2.2.2.2.2.2.2.2.2.2.2.2.2.2.2.2.2.2.2.2.1, mu.2.2.2.2.2.2.2.2.2.2.2.2.2.2.2.2.2.2.2.2.2.2.1, mu.2.2.2.2.2.2.2.2.2.2.2.2.2.2.2.2.2.2.2.2.2.2.2.1, mu.2.2.2.2.2.2.2.2.2.2.2.2.2.2.2.2.2.2.2.2.2.2.2.2) = some r := by have h8 := hm; simp only [m_X7_doLoad, eq_true h_1, eq_true h_2, eq_true c_3, eq_false c_5, eq_true c_6, qr_4, Option.bind_some, ↓reduceIte, if_true, if_false] at h8; exact h8
        have h10 := Option.some.inj h9
        subst h10
        exact cq_wV (wl := cl_mdl Y amu (mu.1, mu.2.1, mu.2.2.1, mu.2.2.2.1, mu.2.2.2.2.1, mu.2.2.2.2.2.1, mu.2.2.2.2.2.2.1, mu.2.2.2.2.2.2.2.1, mu.2.2.2.2.2.2.2.2.1, mu.2.2.2.2.2.2.2.2.2.1, mu.2.2.2.2.2.2.2.2.2.2.1, mu.2.2.2.2.2.2.2.2.2.2.2.1, upd mu.2.2.2.2.2.2.2.2.2.2.2.2.1 load.toNatClampNeg r_4, mu.2.2.2.2.2.2.2.2.2.2.2.2.2.1, mu.2.2.2.2.2.2.2.2.2.2.2.2.2.2.1, mu.2.2.2.2.2.2.2.2.2.2.2.2.2.2.2.1, mu.2.2.2.2.2.2.2.2.2.2.2.2.2.2.2.2.1, mu.2.2.2.2.2.2.2.2.2.2.2.2.2.2.2.2.2.1, mu.2.2.2.2.2.2.2.2.2.2.2.2.2.2.2.2.2.2.1, mu.2.2.2.2.2.2.2.2.2.2.2.2.2.2.2.2.2.2.2.1, mu.2.2.2.2.2.2.2.2.2.2.2.2.2.2.2.2.2.2.2.2.1, mu.2.2.2.2.2.2.2.2.2.2.2.2.2.2.2.2.2.2.2.2.2.1, mu.2.2.2.2.2.2.2.2.2.2.2.2.2.2.2.2.2.2.2.2.2.2.1, mu.2.2.2.2.2.2.2.2.2.2.2.2.2.2.2.2.2.2.2.2.2.2.2.1, mu.2.2.2.2.2.2.2.2.2.2.2.2.2.2.2.2.2.2.2.2.2.2.2.2)) hx hb hr hlocks hP hS rfl rfl dX7_doLoad_67
      · refine lv_aload_n hx hb dX7_doLoad_61 rfl (lv_at hl 1 rfl) ?_
        refine lv_iload_n hx hb dX7_doLoad_62 rfl (lv_at hl 2 rfl) ?_
        refine lv_iload_n hx hb dX7_doLoad_63 rfl (lv_at hl 0 rfl) ?_
        obtain ⟨r_7, qr_7⟩ : ∃ z, m_X7_layOver (mu.1, mu.2.1, mu.2.2.1, mu.2.2.2.1, mu.2.2.2.2.1, mu.2.2.2.2.2.1, mu.2.2.2.2.2.2.1, mu.2.2.2.2.2.2.2.1, mu.2.2.2.2.2.2.2.2.1, mu.2.2.2.2.2.2.2.2.2.1, mu.2.2.2.2.2.2.2.2.2.2.1, mu.2.2.2.2.2.2.2.2.2.2.2.1, upd mu.2.2.2.2.2.2.2.2.2.2.2.2.1 load.toNatClampNeg r_4, mu.2.2.2.2.2.2.2.2.2.2.2.2.2.1, mu.2.2.2.2.2.2.2.2.2.2.2.2.2.2.1, mu.2.2.2.2.2.2.2.2.2.2.2.2.2.2.2.1, mu.2.2.2.2.2.2.2.2.2.2.2.2.2.2.2.2.1, mu.2.2.2.2.2.2.2.2.2.2.2.2.2.2.2.2.2.1, mu.2.2.2.2.2.2.2.2.2.2.2.2.2.2.2.2.2.2.1, mu.2.2.2.2.2.2.2.2.2.2.2.2.2.2.2.2.2.2.2.1, mu.2.2.2.2.2.2.2.2.2.2.2.2.2.2.2.2.2.2.2.2.1, mu.2.2.2.2.2.2.2.2.2.2.2.2.2.2.2.2.2.2.2.2.2.1, mu.2.2.2.2.2.2.2.2.2.2.2.2.2.2.2.2.2.2.2.2.2.2.1, mu.2.2.2.2.2.2.2.2.2.2.2.2.2.2.2.2.2.2.2.2.2.2.2.1, mu.2.2.2.2.2.2.2.2.2.2.2.2.2.2.2.2.2.2.2.2.2.2.2.2) load r_4 = some z := by cases h9 : m_X7_layOver (mu.1, mu.2.1, mu.2.2.1, mu.2.2.2.1, mu.2.2.2.2.1, mu.2.2.2.2.2.1, mu.2.2.2.2.2.2.1, mu.2.2.2.2.2.2.2.1, mu.2.2.2.2.2.2.2.2.1, mu.2.2.2.2.2.2.2.2.2.1, mu.2.2.2.2.2.2.2.2.2.2.1, mu.2.2.2.2.2.2.2.2.2.2.2.1, upd mu.2.2.2.2.2.2.2.2.2.2.2.2.1 load.toNatClampNeg r_4, mu.2.2.2.2.2.2.2.2.2.2.2.2.2.1, mu.2.2.2.2.2.2.2.2.2.2.2.2.2.2.1, mu.2.2.2.2.2.2.2.2.2.2.2.2.2.2.2.1, mu.2.2.2.2.2.2.2.2.2.2.2.2.2.2.2.2.1, mu.2.2.2.2.2.2.2.2.2.2.2.2.2.2.2.2.2.1, mu.2.2.2.2.2.2.2.2.2.2.2.2.2.2.2.2.2.2.1, mu.2.2.2.2.2.2.2.2.2.2.2.2.2.2.2.2.2.2.2.1, mu.2.2.2.2.2.2.2.2.2.2.2.2.2.2.2.2.2.2.2.2.1, mu.2.2.2.2.2.2.2.2.2.2.2.2.2.2.2.2.2.2.2.2.2.1, mu.2.2.2.2.2.2.2.2.2.2.2.2.2.2.2.2.2.2.2.2.2.2.1, mu.2.2.2.2.2.2.2.2.2.2.2.2.2.2.2.2.2.2.2.2.2.2.2.1, mu.2.2.2.2.2.2.2.2.2.2.2.2.2.2.2.2.2.2.2.2.2.2.2.2) load r_4 with | some z => exact ⟨z, rfl⟩ | none => exfalso; simp only [m_X7_doLoad, eq_true h_1, eq_true h_2, eq_true c_3, eq_false c_5, eq_false c_6, h9, Option.bind_none, qr_4, Option.bind_some, ↓reduceIte, if_true, if_false] at hm; cases hm
        refine cq_WV (R := (cq_rm 1 26)) (args := ([.ref (amu 0), .int load] : List Value).toArray) (y := yX7_layOver) (bytes := cX7_layOver) (cc := cX7_doLoad) (maxL := 7) (nL := 3) (n := 2) (index := 93) (ret := none) (ws := wsX7_layOver) (rm := cq_rm 0 0) (Ts := wsX7_doLoad) (own := RX7) (D := D) (Y := Y) (W0 := cl_mdl Y amu (mu.1, mu.2.1, mu.2.2.1, mu.2.2.2.1, mu.2.2.2.2.1, mu.2.2.2.2.2.1, mu.2.2.2.2.2.2.1, mu.2.2.2.2.2.2.2.1, mu.2.2.2.2.2.2.2.2.1, mu.2.2.2.2.2.2.2.2.2.1, mu.2.2.2.2.2.2.2.2.2.2.1, mu.2.2.2.2.2.2.2.2.2.2.2.1, upd mu.2.2.2.2.2.2.2.2.2.2.2.2.1 load.toNatClampNeg r_4, mu.2.2.2.2.2.2.2.2.2.2.2.2.2.1, mu.2.2.2.2.2.2.2.2.2.2.2.2.2.2.1, mu.2.2.2.2.2.2.2.2.2.2.2.2.2.2.2.1, mu.2.2.2.2.2.2.2.2.2.2.2.2.2.2.2.2.1, mu.2.2.2.2.2.2.2.2.2.2.2.2.2.2.2.2.2.1, mu.2.2.2.2.2.2.2.2.2.2.2.2.2.2.2.2.2.2.1, mu.2.2.2.2.2.2.2.2.2.2.2.2.2.2.2.2.2.2.2.1, mu.2.2.2.2.2.2.2.2.2.2.2.2.2.2.2.2.2.2.2.2.1, mu.2.2.2.2.2.2.2.2.2.2.2.2.2.2.2.2.2.2.2.2.2.1, mu.2.2.2.2.2.2.2.2.2.2.2.2.2.2.2.2.2.2.2.2.2.2.1, mu.2.2.2.2.2.2.2.2.2.2.2.2.2.2.2.2.2.2.2.2.2.2.2.1, mu.2.2.2.2.2.2.2.2.2.2.2.2.2.2.2.2.2.2.2.2.2.2.2.2)) (wl := cl_mdl Y amu (mu.1, mu.2.1, mu.2.2.1, mu.2.2.2.1, mu.2.2.2.2.1, mu.2.2.2.2.2.1, mu.2.2.2.2.2.2.1, mu.2.2.2.2.2.2.2.1, mu.2.2.2.2.2.2.2.2.1, mu.2.2.2.2.2.2.2.2.2.1, mu.2.2.2.2.2.2.2.2.2.2.1, mu.2.2.2.2.2.2.2.2.2.2.2.1, upd mu.2.2.2.2.2.2.2.2.2.2.2.2.1 load.toNatClampNeg r_4, mu.2.2.2.2.2.2.2.2.2.2.2.2.2.1, mu.2.2.2.2.2.2.2.2.2.2.2.2.2.2.1, mu.2.2.2.2.2.2.2.2.2.2.2.2.2.2.2.1, mu.2.2.2.2.2.2.2.2.2.2.2.2.2.2.2.2.1, mu.2.2.2.2.2.2.2.2.2.2.2.2.2.2.2.2.2.1, mu.2.2.2.2.2.2.2.2.2.2.2.2.2.2.2.2.2.2.1, mu.2.2.2.2.2.2.2.2.2.2.2.2.2.2.2.2.2.2.2.1, mu.2.2.2.2.2.2.2.2.2.2.2.2.2.2.2.2.2.2.2.2.1, mu.2.2.2.2.2.2.2.2.2.2.2.2.2.2.2.2.2.2.2.2.2.1, mu.2.2.2.2.2.2.2.2.2.2.2.2.2.2.2.2.2.2.2.2.2.2.1, mu.2.2.2.2.2.2.2.2.2.2.2.2.2.2.2.2.2.2.2.2.2.2.2.1, mu.2.2.2.2.2.2.2.2.2.2.2.2.2.2.2.2.2.2.2.2.2.2.2.2)) (v := none) (st0 := [.int r_4, .int load, .ref (amu 0)]) (As := [.int load, .int r_4]) (rest := []) (W1 := cl_mdl Y amu r_7) (C := RX7) (b := amu 0) (cl_mdl Y amu r_7) [] ⟨hx, hb, hml, hown, hts⟩ (ct_X7_layOver l D Y amu (mu.1, mu.2.1, mu.2.2.1, mu.2.2.2.1, mu.2.2.2.2.1, mu.2.2.2.2.2.1, mu.2.2.2.2.2.2.1, mu.2.2.2.2.2.2.2.1, mu.2.2.2.2.2.2.2.2.1, mu.2.2.2.2.2.2.2.2.2.1, mu.2.2.2.2.2.2.2.2.2.2.1, mu.2.2.2.2.2.2.2.2.2.2.2.1, upd mu.2.2.2.2.2.2.2.2.2.2.2.2.1 load.toNatClampNeg r_4, mu.2.2.2.2.2.2.2.2.2.2.2.2.2.1, mu.2.2.2.2.2.2.2.2.2.2.2.2.2.2.1, mu.2.2.2.2.2.2.2.2.2.2.2.2.2.2.2.1, mu.2.2.2.2.2.2.2.2.2.2.2.2.2.2.2.2.1, mu.2.2.2.2.2.2.2.2.2.2.2.2.2.2.2.2.2.1, mu.2.2.2.2.2.2.2.2.2.2.2.2.2.2.2.2.2.2.1, mu.2.2.2.2.2.2.2.2.2.2.2.2.2.2.2.2.2.2.2.1, mu.2.2.2.2.2.2.2.2.2.2.2.2.2.2.2.2.2.2.2.2.1, mu.2.2.2.2.2.2.2.2.2.2.2.2.2.2.2.2.2.2.2.2.2.1, mu.2.2.2.2.2.2.2.2.2.2.2.2.2.2.2.2.2.2.2.2.2.2.1, mu.2.2.2.2.2.2.2.2.2.2.2.2.2.2.2.2.2.2.2.2.2.2.2.1, mu.2.2.2.2.2.2.2.2.2.2.2.2.2.2.2.2.2.2.2.2.2.2.2.2) load r_4 r_7 qr_7) (cwV 2 hts gX7_doLoad_X7_layOver rfl rfl rfl (by decide +kernel) ⟨Nat.le_of_ble_eq_true rfl, Nat.le_of_ble_eq_true rfl⟩) hG hP hD hS [0, 1, 2, 3, 4, 5, 6, 7, 8, 9, 10, 11, 12, 13, 14, 15, 16, 17, 18, 19, 20] rfl (by decide +kernel) ⟨rfl, ⟨[], rfl, rfl⟩, 21, rfl, by decide +kernel⟩ ⟨[amu 0, amu 1, amu 2, amu 3, amu 4, amu 5, amu 6, amu 7, amu 8, amu 9, amu 10, amu 11, amu 12, amu 13, amu 14, amu 15, amu 16, amu 17, amu 18, amu 19, amu 20], rfl, rfl⟩ 0 7 (qc := (RX7, TX7, 25)) (fs := [.ref (amu 1), .ref (amu 2), .ref (amu 3), .ref (amu 4), .ref (amu 5), .int mu.2.2.2.2.2.1, .ref (amu 6), .int mu.2.2.2.2.2.2.2.1, .ref (amu 7), .ref (amu 8), .ref (amu 9), .ref (amu 10), .ref (amu 11), .int mu.2.2.2.2.2.2.2.2.2.2.2.2.2.1, .int mu.2.2.2.2.2.2.2.2.2.2.2.2.2.2.1, .ref (amu 12), .ref (amu 13), .ref (amu 14), .ref (amu 15), .ref (amu 16), .ref (amu 17), .ref (amu 18), .ref (amu 19), .ref (amu 20), .int mu.2.2.2.2.2.2.2.2.2.2.2.2.2.2.2.2.2.2.2.2.2.2.2.2]) rfl rfl rfl rfl hl.1 rfl (Nat.le_of_ble_eq_true rfl) dX7_doLoad_64 ⟨Nat.zero_le _, Nat.zero_le _⟩ (fun H locs hP hD hS => ?_)
        change W _ _ _ _ _ _ _ _ _ _ _ _ _ _ _ (F0 m 67 _ [])
        have h9 : some r_7 = some r := by have h8 := hm; simp only [m_X7_doLoad, eq_true h_1, eq_true h_2, eq_true c_3, eq_false c_5, eq_false c_6, qr_4, Option.bind_some, qr_7, Option.bind_some, ↓reduceIte, if_true, if_false] at h8; exact h8
        have h10 := Option.some.inj h9
        subst h10
        exact cq_wV (wl := cl_mdl Y amu r_7) hx hb hr hlocks hP hS rfl rfl dX7_doLoad_67
    · refine lv_aload_n hx hb dX7_doLoad_33 rfl (lv_at hl 1 rfl) ?_
      refine lv_iload_n hx hb dX7_doLoad_34 rfl (lv_at hl 2 rfl) ?_
      obtain ⟨r_8, qr_8⟩ : ∃ z, m_X7_makeRecord mu load = some z := by cases h9 : m_X7_makeRecord mu load with | some z => exact ⟨z, rfl⟩ | none => exfalso; simp only [m_X7_doLoad, eq_true h_1, eq_true h_2, eq_true c_3, eq_true c_5, h9, Option.bind_none, qr_4, Option.bind_some, ↓reduceIte, if_true, if_false] at hm; cases hm
      refine cq_WV (R := (cq_rm 1 26)) (args := ([.ref (amu 0), .int load] : List Value).toArray) (y := yX7_makeRecord) (bytes := cX7_makeRecord) (cc := cX7_doLoad) (maxL := 4) (nL := 3) (n := 1) (index := 89) (ret := none) (ws := wsX7_makeRecord) (rm := cq_rm 0 0) (Ts := wsX7_doLoad) (own := RX7) (D := D) (Y := Y) (W0 := cl_mdl Y amu mu) (wl := cl_mdl Y amu mu) (v := none) (st0 := [.int load, .ref (amu 0)]) (As := [.int load]) (rest := []) (W1 := cl_mdl Y amu r_8) (C := RX7) (b := amu 0) (cl_mdl Y amu r_8) [] ⟨hx, hb, hml, hown, hts⟩ (ct_X7_makeRecord l D Y amu mu load r_8 qr_8) (cwV 1 hts gX7_doLoad_X7_makeRecord rfl rfl rfl (by decide +kernel) ⟨Nat.le_of_ble_eq_true rfl, Nat.le_of_ble_eq_true rfl⟩) hG hP hD hS [0, 1, 2, 3, 4, 5, 6, 7, 8, 9, 10, 11, 12, 13, 14, 15, 16, 17, 18, 19, 20] rfl (by decide +kernel) ⟨rfl, ⟨[], rfl, rfl⟩, 21, rfl, by decide +kernel⟩ ⟨[amu 0, amu 1, amu 2, amu 3, amu 4, amu 5, amu 6, amu 7, amu 8, amu 9, amu 10, amu 11, amu 12, amu 13, amu 14, amu 15, amu 16, amu 17, amu 18, amu 19, amu 20], rfl, rfl⟩ 0 7 (qc := (RX7, TX7, 25)) (fs := [.ref (amu 1), .ref (amu 2), .ref (amu 3), .ref (amu 4), .ref (amu 5), .int mu.2.2.2.2.2.1, .ref (amu 6), .int mu.2.2.2.2.2.2.2.1, .ref (amu 7), .ref (amu 8), .ref (amu 9), .ref (amu 10), .ref (amu 11), .int mu.2.2.2.2.2.2.2.2.2.2.2.2.2.1, .int mu.2.2.2.2.2.2.2.2.2.2.2.2.2.2.1, .ref (amu 12), .ref (amu 13), .ref (amu 14), .ref (amu 15), .ref (amu 16), .ref (amu 17), .ref (amu 18), .ref (amu 19), .ref (amu 20), .int mu.2.2.2.2.2.2.2.2.2.2.2.2.2.2.2.2.2.2.2.2.2.2.2.2]) rfl rfl rfl rfl hl.1 rfl (Nat.le_of_ble_eq_true rfl) dX7_doLoad_35 ⟨Nat.zero_le _, Nat.zero_le _⟩ (fun H locs hP hD hS => ?_)
      change W _ _ _ _ _ _ _ _ _ _ _ _ _ _ _ (F0 m 38 _ [])
      refine lv_aload_n hx hb dX7_doLoad_38 rfl (lv_at hl 1 rfl) ?_
      refine va_get (D := D) (ci := 7) (v := .ref (amu 11)) (C := RX7) (T := TX7) (N := 25) hx hb hts (fun _ h => List.mem_cons_of_mem _ (List.mem_append_right _ h)) hown hG.1 hP 0 rfl rfl 12 (by decide) (hts (.fieldLink RX7 41 "CatalogueLoaderModel" "hits" "[I") (List.mem_of_getElem? (i := 3) rfl)) (fun _ h9 => h9) rfl dX7_doLoad_39 ?_
      refine lv_iload_n hx hb dX7_doLoad_42 rfl (lv_at hl 2 rfl) ?_
      refine lv_iload_n hx hb dX7_doLoad_43 rfl (lv_at hl 2 rfl) ?_
      refine va_iast hx hb hG.1 hP hD hS 11 0 rfl rfl (inb_in h_1) dX7_doLoad_44 (fun H locs hP hD hS => ?_)
      have hP : va_P D vwCl (cl_mdl Y amu (r_8.1, r_8.2.1, r_8.2.2.1, r_8.2.2.2.1, r_8.2.2.2.2.1, r_8.2.2.2.2.2.1, r_8.2.2.2.2.2.2.1, r_8.2.2.2.2.2.2.2.1, r_8.2.2.2.2.2.2.2.2.1, r_8.2.2.2.2.2.2.2.2.2.1, r_8.2.2.2.2.2.2.2.2.2.2.1, r_8.2.2.2.2.2.2.2.2.2.2.2.1, upd r_8.2.2.2.2.2.2.2.2.2.2.2.2.1 load.toNatClampNeg load, r_8.2.2.2.2.2.2.2.2.2.2.2.2.2.1, r_8.2.2.2.2.2.2.2.2.2.2.2.2.2.2.1, r_8.2.2.2.2.2.2.2.2.2.2.2.2.2.2.2.1, r_8.2.2.2.2.2.2.2.2.2.2.2.2.2.2.2.2.1, r_8.2.2.2.2.2.2.2.2.2.2.2.2.2.2.2.2.2.1, r_8.2.2.2.2.2.2.2.2.2.2.2.2.2.2.2.2.2.2.1, r_8.2.2.2.2.2.2.2.2.2.2.2.2.2.2.2.2.2.2.2.1, r_8.2.2.2.2.2.2.2.2.2.2.2.2.2.2.2.2.2.2.2.2.1, r_8.2.2.2.2.2.2.2.2.2.2.2.2.2.2.2.2.2.2.2.2.2.1, r_8.2.2.2.2.2.2.2.2.2.2.2.2.2.2.2.2.2.2.2.2.2.2.1, r_8.2.2.2.2.2.2.2.2.2.2.2.2.2.2.2.2.2.2.2.2.2.2.2.1, r_8.2.2.2.2.2.2.2.2.2.2.2.2.2.2.2.2.2.2.2.2.2.2.2.2)) H := hP
      have hD : va_D (cq_in (cl_mdl Y amu mu)) (cl_mdl Y amu (r_8.1, r_8.2.1, r_8.2.2.1, r_8.2.2.2.1, r_8.2.2.2.2.1, r_8.2.2.2.2.2.1, r_8.2.2.2.2.2.2.1, r_8.2.2.2.2.2.2.2.1, r_8.2.2.2.2.2.2.2.2.1, r_8.2.2.2.2.2.2.2.2.2.1, r_8.2.2.2.2.2.2.2.2.2.2.1, r_8.2.2.2.2.2.2.2.2.2.2.2.1, upd r_8.2.2.2.2.2.2.2.2.2.2.2.2.1 load.toNatClampNeg load, r_8.2.2.2.2.2.2.2.2.2.2.2.2.2.1, r_8.2.2.2.2.2.2.2.2.2.2.2.2.2.2.1, r_8.2.2.2.2.2.2.2.2.2.2.2.2.2.2.2.1, r_8.2.2.2.2.2.2.2.2.2.2.2.2.2.2.2.2.1, r_8.2.2.2.2.2.2.2.2.2.2.2.2.2.2.2.2.2.1, r_8.2.2.2.2.2.2.2.2.2.2.2.2.2.2.2.2.2.2.1, r_8.2.2.2.2.2.2.2.2.2.2.2.2.2.2.2.2.2.2.2.1, r_8.2.2.2.2.2.2.2.2.2.2.2.2.2.2.2.2.2.2.2.2.1, r_8.2.2.2.2.2.2.2.2.2.2.2.2.2.2.2.2.2.2.2.2.2.1, r_8.2.2.2.2.2.2.2.2.2.2.2.2.2.2.2.2.2.2.2.2.2.2.1, r_8.2.2.2.2.2.2.2.2.2.2.2.2.2.2.2.2.2.2.2.2.2.2.2.1, r_8.2.2.2.2.2.2.2.2.2.2.2.2.2.2.2.2.2.2.2.2.2.2.2.2)) := hD
      refine lv_goto (tgt := 67) hx hb dX7_doLoad_45 (by decide) ?_
      have h9 : some (r_8.1, r_8.2.1, r_8.2.2.1, r_8.2.2.2.1, r_8.2.2.2.2.1, r_8.2.2.2.2.2.1, r_8.2.2.2.2.2.2.1, r_8.2.2.2.2.2.2.2.1, r_8.2.2.2.2.2.2.2.2.1, r_8.2.2.2.2.2.2.2.2.2.1, r_8.2.2.2.2.2.2.2.2.2.2.1, r_8.2.2.2.2.2.2.2.2.2.2.2.1, upd r_8.2.2.2.2.2.2.2.2.2.2.2.2.1 load.toNatClampNeg load, r_8.2.2.2.2.2.2.2.2.2.2.2.2.2.1, r_8.2.2.2.2.2.2.2.2.2.2.2.2.2.2.1, r_8.2.2.2.2.2.2.2.2.2.2.2.2.2.2.2.1, r_8.2.2.2.2.2.2.2.2.2.2.2.2.2.2.2.2.1, r_8.2.2.2.2.2.2.2.2.2.2.2.2.2.2.2.2.2.1, r_8.2.2.2.2.2.2.2.2.2.2.2.2.2.2.2.2.2.2.1, r_8.2.2.2.2.2.2.2.2.2.2.2.2.2.2.2.2.2.2.2.1, r_8.2.2.2.2.2.2.2.2.2.2.2.2.2.2.2.2.2.2.2.2.1, r_8.2.2.2.2.2.2.2.2.2.2.2.2.2.2.2.2.2.2.2.2.2.1, r_8.2.2.2.2.2.2.2.2.2.2.2.2.2.2.2.2.2.2.2.2.2.2.1, r_8.2.2.2.2.2.2.2.2.2.2.2.2.2.2.2.2.2.2.2.2.2.2.2.1, r_8.2.2.2.2.2.2.2.2.2.2.2.2.2.2.2.2.2.2.2.2.2.2.2.2) = some r := by have h8 := hm; simp only [m_X7_doLoad, eq_true h_1, eq_true h_2, eq_true c_3, eq_true c_5, qr_4, Option.bind_some, qr_8, Option.bind_some, ↓reduceIte, if_true, if_false] at h8; exact h8
      have h10 := Option.some.inj h9
      subst h10
      exact cq_wV (wl := cl_mdl Y amu (r_8.1, r_8.2.1, r_8.2.2.1, r_8.2.2.2.1, r_8.2.2.2.2.1, r_8.2.2.2.2.2.1, r_8.2.2.2.2.2.2.1, r_8.2.2.2.2.2.2.2.1, r_8.2.2.2.2.2.2.2.2.1, r_8.2.2.2.2.2.2.2.2.2.1, r_8.2.2.2.2.2.2.2.2.2.2.1, r_8.2.2.2.2.2.2.2.2.2.2.2.1, upd r_8.2.2.2.2.2.2.2.2.2.2.2.2.1 load.toNatClampNeg load, r_8.2.2.2.2.2.2.2.2.2.2.2.2.2.1, r_8.2.2.2.2.2.2.2.2.2.2.2.2.2.2.1, r_8.2.2.2.2.2.2.2.2.2.2.2.2.2.2.2.1, r_8.2.2.2.2.2.2.2.2.2.2.2.2.2.2.2.2.1, r_8.2.2.2.2.2.2.2.2.2.2.2.2.2.2.2.2.2.1, r_8.2.2.2.2.2.2.2.2.2.2.2.2.2.2.2.2.2.2.1, r_8.2.2.2.2.2.2.2.2.2.2.2.2.2.2.2.2.2.2.2.1, r_8.2.2.2.2.2.2.2.2.2.2.2.2.2.2.2.2.2.2.2.2.1, r_8.2.2.2.2.2.2.2.2.2.2.2.2.2.2.2.2.2.2.2.2.2.1, r_8.2.2.2.2.2.2.2.2.2.2.2.2.2.2.2.2.2.2.2.2.2.2.1, r_8.2.2.2.2.2.2.2.2.2.2.2.2.2.2.2.2.2.2.2.2.2.2.2.1, r_8.2.2.2.2.2.2.2.2.2.2.2.2.2.2.2.2.2.2.2.2.2.2.2.2)) hx hb hr hlocks hP hS rfl rfl dX7_doLoad_67
  · refine lv_aload_n hx hb dX7_doLoad_14 rfl (lv_at hl 0 rfl) ?_
    refine va_get (D := D) (ci := 7) (v := .ref (amu 11)) (C := RX7) (T := TX7) (N := 25) hx hb hts (fun _ h => List.mem_cons_of_mem _ (List.mem_append_right _ h)) hown hG.1 hP 0 rfl rfl 12 (by decide) (hts (.fieldLink RX7 41 "CatalogueLoaderModel" "hits" "[I") (List.mem_of_getElem? (i := 3) rfl)) (fun _ h9 => h9) rfl dX7_doLoad_15 ?_
    refine lv_iload_n hx hb dX7_doLoad_18 rfl (lv_at hl 1 rfl) ?_
    refine lv_iconst (v := (-1)) hx hb dX7_doLoad_19 (by decide) ?_
    refine va_iast hx hb hG.1 hP hD hS 11 0 rfl rfl (inb_in h_1) dX7_doLoad_20 (fun H locs hP hD hS => ?_)
    have hP : va_P D vwCl (cl_mdl Y amu (mu.1, mu.2.1, mu.2.2.1, mu.2.2.2.1, mu.2.2.2.2.1, mu.2.2.2.2.2.1, mu.2.2.2.2.2.2.1, mu.2.2.2.2.2.2.2.1, mu.2.2.2.2.2.2.2.2.1, mu.2.2.2.2.2.2.2.2.2.1, mu.2.2.2.2.2.2.2.2.2.2.1, mu.2.2.2.2.2.2.2.2.2.2.2.1, upd mu.2.2.2.2.2.2.2.2.2.2.2.2.1 load.toNatClampNeg (-1), mu.2.2.2.2.2.2.2.2.2.2.2.2.2.1, mu.2.2.2.2.2.2.2.2.2.2.2.2.2.2.1, mu.2.2.2.2.2.2.2.2.2.2.2.2.2.2.2.1, mu.2.2.2.2.2.2.2.2.2.2.2.2.2.2.2.2.1, mu.2.2.2.2.2.2.2.2.2.2.2.2.2.2.2.2.2.1, mu.2.2.2.2.2.2.2.2.2.2.2.2.2.2.2.2.2.2.1, mu.2.2.2.2.2.2.2.2.2.2.2.2.2.2.2.2.2.2.2.1, mu.2.2.2.2.2.2.2.2.2.2.2.2.2.2.2.2.2.2.2.2.1, mu.2.2.2.2.2.2.2.2.2.2.2.2.2.2.2.2.2.2.2.2.2.1, mu.2.2.2.2.2.2.2.2.2.2.2.2.2.2.2.2.2.2.2.2.2.2.1, mu.2.2.2.2.2.2.2.2.2.2.2.2.2.2.2.2.2.2.2.2.2.2.2.1, mu.2.2.2.2.2.2.2.2.2.2.2.2.2.2.2.2.2.2.2.2.2.2.2.2)) H := hP
    have hD : va_D (cq_in (cl_mdl Y amu mu)) (cl_mdl Y amu (mu.1, mu.2.1, mu.2.2.1, mu.2.2.2.1, mu.2.2.2.2.1, mu.2.2.2.2.2.1, mu.2.2.2.2.2.2.1, mu.2.2.2.2.2.2.2.1, mu.2.2.2.2.2.2.2.2.1, mu.2.2.2.2.2.2.2.2.2.1, mu.2.2.2.2.2.2.2.2.2.2.1, mu.2.2.2.2.2.2.2.2.2.2.2.1, upd mu.2.2.2.2.2.2.2.2.2.2.2.2.1 load.toNatClampNeg (-1), mu.2.2.2.2.2.2.2.2.2.2.2.2.2.1, mu.2.2.2.2.2.2.2.2.2.2.2.2.2.2.1, mu.2.2.2.2.2.2.2.2.2.2.2.2.2.2.2.1, mu.2.2.2.2.2.2.2.2.2.2.2.2.2.2.2.2.1, mu.2.2.2.2.2.2.2.2.2.2.2.2.2.2.2.2.2.1, mu.2.2.2.2.2.2.2.2.2.2.2.2.2.2.2.2.2.2.1, mu.2.2.2.2.2.2.2.2.2.2.2.2.2.2.2.2.2.2.2.1, mu.2.2.2.2.2.2.2.2.2.2.2.2.2.2.2.2.2.2.2.2.1, mu.2.2.2.2.2.2.2.2.2.2.2.2.2.2.2.2.2.2.2.2.2.1, mu.2.2.2.2.2.2.2.2.2.2.2.2.2.2.2.2.2.2.2.2.2.2.1, mu.2.2.2.2.2.2.2.2.2.2.2.2.2.2.2.2.2.2.2.2.2.2.2.1, mu.2.2.2.2.2.2.2.2.2.2.2.2.2.2.2.2.2.2.2.2.2.2.2.2)) := hD
    have h9 : some (mu.1, mu.2.1, mu.2.2.1, mu.2.2.2.1, mu.2.2.2.2.1, mu.2.2.2.2.2.1, mu.2.2.2.2.2.2.1, mu.2.2.2.2.2.2.2.1, mu.2.2.2.2.2.2.2.2.1, mu.2.2.2.2.2.2.2.2.2.1, mu.2.2.2.2.2.2.2.2.2.2.1, mu.2.2.2.2.2.2.2.2.2.2.2.1, upd mu.2.2.2.2.2.2.2.2.2.2.2.2.1 load.toNatClampNeg (-1), mu.2.2.2.2.2.2.2.2.2.2.2.2.2.1, mu.2.2.2.2.2.2.2.2.2.2.2.2.2.2.1, mu.2.2.2.2.2.2.2.2.2.2.2.2.2.2.2.1, mu.2.2.2.2.2.2.2.2.2.2.2.2.2.2.2.2.1, mu.2.2.2.2.2.2.2.2.2.2.2.2.2.2.2.2.2.1, mu.2.2.2.2.2.2.2.2.2.2.2.2.2.2.2.2.2.2.1, mu.2.2.2.2.2.2.2.2.2.2.2.2.2.2.2.2.2.2.2.1, mu.2.2.2.2.2.2.2.2.2.2.2.2.2.2.2.2.2.2.2.2.1, mu.2.2.2.2.2.2.2.2.2.2.2.2.2.2.2.2.2.2.2.2.2.1, mu.2.2.2.2.2.2.2.2.2.2.2.2.2.2.2.2.2.2.2.2.2.2.1, mu.2.2.2.2.2.2.2.2.2.2.2.2.2.2.2.2.2.2.2.2.2.2.2.1, mu.2.2.2.2.2.2.2.2.2.2.2.2.2.2.2.2.2.2.2.2.2.2.2.2) = some r := by have h8 := hm; simp only [m_X7_doLoad, eq_true h_1, eq_true h_2, eq_false c_3, ↓reduceIte, if_true, if_false] at h8; exact h8
    have h10 := Option.some.inj h9
    subst h10
    exact cq_wV (wl := cl_mdl Y amu (mu.1, mu.2.1, mu.2.2.1, mu.2.2.2.1, mu.2.2.2.2.1, mu.2.2.2.2.2.1, mu.2.2.2.2.2.2.1, mu.2.2.2.2.2.2.2.1, mu.2.2.2.2.2.2.2.2.1, mu.2.2.2.2.2.2.2.2.2.1, mu.2.2.2.2.2.2.2.2.2.2.1, mu.2.2.2.2.2.2.2.2.2.2.2.1, upd mu.2.2.2.2.2.2.2.2.2.2.2.2.1 load.toNatClampNeg (-1), mu.2.2.2.2.2.2.2.2.2.2.2.2.2.1, mu.2.2.2.2.2.2.2.2.2.2.2.2.2.2.1, mu.2.2.2.2.2.2.2.2.2.2.2.2.2.2.2.1, mu.2.2.2.2.2.2.2.2.2.2.2.2.2.2.2.2.1, mu.2.2.2.2.2.2.2.2.2.2.2.2.2.2.2.2.2.1, mu.2.2.2.2.2.2.2.2.2.2.2.2.2.2.2.2.2.2.1, mu.2.2.2.2.2.2.2.2.2.2.2.2.2.2.2.2.2.2.2.1, mu.2.2.2.2.2.2.2.2.2.2.2.2.2.2.2.2.2.2.2.2.1, mu.2.2.2.2.2.2.2.2.2.2.2.2.2.2.2.2.2.2.2.2.2.1, mu.2.2.2.2.2.2.2.2.2.2.2.2.2.2.2.2.2.2.2.2.2.2.1, mu.2.2.2.2.2.2.2.2.2.2.2.2.2.2.2.2.2.2.2.2.2.2.2.1, mu.2.2.2.2.2.2.2.2.2.2.2.2.2.2.2.2.2.2.2.2.2.2.2.2)) hx hb hr hlocks hP hS rfl rfl dX7_doLoad_21

def m_X7_doMerge_lp75 (mu : MdlS) (record : Int32) (other : Int32) (fin_3 : MdlS) : Nat → Nat → MdlS → Option (MdlS)
  | 0, k75, s0_75 => some s0_75
  | n75 + 1, k75, s0_75 => (let x_8 := (4 * other) + (nI k75); (if inb x_8 320 = true then (if s0_75.2.2.2.2.2.2.2.2.2.2.2.2.2.2.2.2.2.2.2.2.1 x_8.toNatClampNeg = (-1) then (if inb ((4 * record) + (nI k75)) 320 = true then m_X7_doMerge_lp75 mu record other fin_3 n75 (k75 + 1) (s0_75.1, s0_75.2.1, s0_75.2.2.1, s0_75.2.2.2.1, s0_75.2.2.2.2.1, s0_75.2.2.2.2.2.1, s0_75.2.2.2.2.2.2.1, s0_75.2.2.2.2.2.2.2.1, s0_75.2.2.2.2.2.2.2.2.1, s0_75.2.2.2.2.2.2.2.2.2.1, s0_75.2.2.2.2.2.2.2.2.2.2.1, s0_75.2.2.2.2.2.2.2.2.2.2.2.1, s0_75.2.2.2.2.2.2.2.2.2.2.2.2.1, s0_75.2.2.2.2.2.2.2.2.2.2.2.2.2.1, s0_75.2.2.2.2.2.2.2.2.2.2.2.2.2.2.1, s0_75.2.2.2.2.2.2.2.2.2.2.2.2.2.2.2.1, s0_75.2.2.2.2.2.2.2.2.2.2.2.2.2.2.2.2.1, s0_75.2.2.2.2.2.2.2.2.2.2.2.2.2.2.2.2.2.1, s0_75.2.2.2.2.2.2.2.2.2.2.2.2.2.2.2.2.2.2.1, s0_75.2.2.2.2.2.2.2.2.2.2.2.2.2.2.2.2.2.2.2.1, upd s0_75.2.2.2.2.2.2.2.2.2.2.2.2.2.2.2.2.2.2.2.2.1 x_8.toNatClampNeg (s0_75.2.2.2.2.2.2.2.2.2.2.2.2.2.2.2.2.2.2.2.2.1 ((4 * record) + (nI k75)).toNatClampNeg), upd s0_75.2.2.2.2.2.2.2.2.2.2.2.2.2.2.2.2.2.2.2.2.2.1 x_8.toNatClampNeg (s0_75.2.2.2.2.2.2.2.2.2.2.2.2.2.2.2.2.2.2.2.2.2.1 ((4 * record) + (nI k75)).toNatClampNeg), s0_75.2.2.2.2.2.2.2.2.2.2.2.2.2.2.2.2.2.2.2.2.2.2.1, s0_75.2.2.2.2.2.2.2.2.2.2.2.2.2.2.2.2.2.2.2.2.2.2.2.1, s0_75.2.2.2.2.2.2.2.2.2.2.2.2.2.2.2.2.2.2.2.2.2.2.2.2) else none) else m_X7_doMerge_lp75 mu record other fin_3 n75 (k75 + 1) s0_75) else none))
def m_X7_doMerge_lp17 (mu : MdlS) (record : Int32) (other : Int32) : Nat → Nat → MdlS → Option (MdlS)
  | 0, k17, s0_17 => some s0_17
  | n17 + 1, k17, s0_17 => (let x_13 := (3 * other) + (nI k17); (if inb x_13 240 = true then (if s0_17.2.2.2.2.2.2.2.2.2.2.2.2.2.2.2.2.2.2.2.1 x_13.toNatClampNeg = (-1) then (if inb ((3 * record) + (nI k17)) 240 = true then m_X7_doMerge_lp17 mu record other n17 (k17 + 1) (s0_17.1, s0_17.2.1, s0_17.2.2.1, s0_17.2.2.2.1, s0_17.2.2.2.2.1, s0_17.2.2.2.2.2.1, s0_17.2.2.2.2.2.2.1, s0_17.2.2.2.2.2.2.2.1, s0_17.2.2.2.2.2.2.2.2.1, s0_17.2.2.2.2.2.2.2.2.2.1, s0_17.2.2.2.2.2.2.2.2.2.2.1, s0_17.2.2.2.2.2.2.2.2.2.2.2.1, s0_17.2.2.2.2.2.2.2.2.2.2.2.2.1, s0_17.2.2.2.2.2.2.2.2.2.2.2.2.2.1, s0_17.2.2.2.2.2.2.2.2.2.2.2.2.2.2.1, s0_17.2.2.2.2.2.2.2.2.2.2.2.2.2.2.2.1, s0_17.2.2.2.2.2.2.2.2.2.2.2.2.2.2.2.2.1, s0_17.2.2.2.2.2.2.2.2.2.2.2.2.2.2.2.2.2.1, s0_17.2.2.2.2.2.2.2.2.2.2.2.2.2.2.2.2.2.2.1, upd s0_17.2.2.2.2.2.2.2.2.2.2.2.2.2.2.2.2.2.2.2.1 x_13.toNatClampNeg (s0_17.2.2.2.2.2.2.2.2.2.2.2.2.2.2.2.2.2.2.2.1 ((3 * record) + (nI k17)).toNatClampNeg), s0_17.2.2.2.2.2.2.2.2.2.2.2.2.2.2.2.2.2.2.2.2.1, s0_17.2.2.2.2.2.2.2.2.2.2.2.2.2.2.2.2.2.2.2.2.2.1, s0_17.2.2.2.2.2.2.2.2.2.2.2.2.2.2.2.2.2.2.2.2.2.2.1, s0_17.2.2.2.2.2.2.2.2.2.2.2.2.2.2.2.2.2.2.2.2.2.2.2.1, s0_17.2.2.2.2.2.2.2.2.2.2.2.2.2.2.2.2.2.2.2.2.2.2.2.2) else none) else m_X7_doMerge_lp17 mu record other n17 (k17 + 1) (s0_17.1, s0_17.2.1, s0_17.2.2.1, s0_17.2.2.2.1, s0_17.2.2.2.2.1, s0_17.2.2.2.2.2.1, s0_17.2.2.2.2.2.2.1, s0_17.2.2.2.2.2.2.2.1, s0_17.2.2.2.2.2.2.2.2.1, s0_17.2.2.2.2.2.2.2.2.2.1, s0_17.2.2.2.2.2.2.2.2.2.2.1, s0_17.2.2.2.2.2.2.2.2.2.2.2.1, s0_17.2.2.2.2.2.2.2.2.2.2.2.2.1, s0_17.2.2.2.2.2.2.2.2.2.2.2.2.2.1, s0_17.2.2.2.2.2.2.2.2.2.2.2.2.2.2.1, s0_17.2.2.2.2.2.2.2.2.2.2.2.2.2.2.2.1, s0_17.2.2.2.2.2.2.2.2.2.2.2.2.2.2.2.2.1, s0_17.2.2.2.2.2.2.2.2.2.2.2.2.2.2.2.2.2.1, s0_17.2.2.2.2.2.2.2.2.2.2.2.2.2.2.2.2.2.2.1, upd s0_17.2.2.2.2.2.2.2.2.2.2.2.2.2.2.2.2.2.2.2.1 x_13.toNatClampNeg (s0_17.2.2.2.2.2.2.2.2.2.2.2.2.2.2.2.2.2.2.2.1 x_13.toNatClampNeg), s0_17.2.2.2.2.2.2.2.2.2.2.2.2.2.2.2.2.2.2.2.2.1, s0_17.2.2.2.2.2.2.2.2.2.2.2.2.2.2.2.2.2.2.2.2.2.1, s0_17.2.2.2.2.2.2.2.2.2.2.2.2.2.2.2.2.2.2.2.2.2.2.1, s0_17.2.2.2.2.2.2.2.2.2.2.2.2.2.2.2.2.2.2.2.2.2.2.2.1, s0_17.2.2.2.2.2.2.2.2.2.2.2.2.2.2.2.2.2.2.2.2.2.2.2.2)) else none))
def m_X7_doMerge (mu : MdlS) (record : Int32) (other : Int32) : Option (MdlS) := (if inb other 80 = true then (if inb record 80 = true then (m_X7_doMerge_lp17 mu record other 3 0 (mu.1, mu.2.1, mu.2.2.1, mu.2.2.2.1, mu.2.2.2.2.1, mu.2.2.2.2.2.1, mu.2.2.2.2.2.2.1, mu.2.2.2.2.2.2.2.1, mu.2.2.2.2.2.2.2.2.1, mu.2.2.2.2.2.2.2.2.2.1, mu.2.2.2.2.2.2.2.2.2.2.1, mu.2.2.2.2.2.2.2.2.2.2.2.1, mu.2.2.2.2.2.2.2.2.2.2.2.2.1, mu.2.2.2.2.2.2.2.2.2.2.2.2.2.1, mu.2.2.2.2.2.2.2.2.2.2.2.2.2.2.1, mu.2.2.2.2.2.2.2.2.2.2.2.2.2.2.2.1, mu.2.2.2.2.2.2.2.2.2.2.2.2.2.2.2.2.1, mu.2.2.2.2.2.2.2.2.2.2.2.2.2.2.2.2.2.1, mu.2.2.2.2.2.2.2.2.2.2.2.2.2.2.2.2.2.2.1, mu.2.2.2.2.2.2.2.2.2.2.2.2.2.2.2.2.2.2.2.1, mu.2.2.2.2.2.2.2.2.2.2.2.2.2.2.2.2.2.2.2.2.1, mu.2.2.2.2.2.2.2.2.2.2.2.2.2.2.2.2.2.2.2.2.2.1, mu.2.2.2.2.2.2.2.2.2.2.2.2.2.2.2.2.2.2.2.2.2.2.1, upd mu.2.2.2.2.2.2.2.2.2.2.2.2.2.2.2.2.2.2.2.2.2.2.2.1 other.toNatClampNeg ((mu.2.2.2.2.2.2.2.2.2.2.2.2.2.2.2.2.2.2.2.2.2.2.2.1 other.toNatClampNeg) + (mu.2.2.2.2.2.2.2.2.2.2.2.2.2.2.2.2.2.2.2.2.2.2.2.1 record.toNatClampNeg)), mu.2.2.2.2.2.2.2.2.2.2.2.2.2.2.2.2.2.2.2.2.2.2.2.2)).bind (fun fin_3 => (m_X7_doMerge_lp75 mu record other fin_3 4 0 fin_3).bind (fun fin_5 => some (fin_5.1, fin_5.2.1, fin_5.2.2.1, fin_5.2.2.2.1, fin_5.2.2.2.2.1, fin_5.2.2.2.2.2.1, fin_5.2.2.2.2.2.2.1, fin_5.2.2.2.2.2.2.2.1, fin_5.2.2.2.2.2.2.2.2.1, fin_5.2.2.2.2.2.2.2.2.2.1, fin_5.2.2.2.2.2.2.2.2.2.2.1, fin_5.2.2.2.2.2.2.2.2.2.2.2.1, fin_5.2.2.2.2.2.2.2.2.2.2.2.2.1, fin_5.2.2.2.2.2.2.2.2.2.2.2.2.2.1, fin_5.2.2.2.2.2.2.2.2.2.2.2.2.2.2.1, fin_5.2.2.2.2.2.2.2.2.2.2.2.2.2.2.2.1, fin_5.2.2.2.2.2.2.2.2.2.2.2.2.2.2.2.2.1, fin_5.2.2.2.2.2.2.2.2.2.2.2.2.2.2.2.2.2.1, upd fin_5.2.2.2.2.2.2.2.2.2.2.2.2.2.2.2.2.2.2.1 record.toNatClampNeg (vp_nar .boolean 0), fin_5.2.2.2.2.2.2.2.2.2.2.2.2.2.2.2.2.2.2.2.1, fin_5.2.2.2.2.2.2.2.2.2.2.2.2.2.2.2.2.2.2.2.2.1, fin_5.2.2.2.2.2.2.2.2.2.2.2.2.2.2.2.2.2.2.2.2.2.1, fin_5.2.2.2.2.2.2.2.2.2.2.2.2.2.2.2.2.2.2.2.2.2.2.1, fin_5.2.2.2.2.2.2.2.2.2.2.2.2.2.2.2.2.2.2.2.2.2.2.2.1, fin_5.2.2.2.2.2.2.2.2.2.2.2.2.2.2.2.2.2.2.2.2.2.2.2.2))) else none) else none)
set_option maxHeartbeats 4000000 in
set_option maxRecDepth 100000 in
theorem ct_X7_doMerge (l : Launch) (D : va_G) (Y : cq_Y) (amu : Nat → Nat) (mu : MdlS) (record : Int32) (other : Int32) (r : MdlS) (hm : m_X7_doMerge mu record other = some r) : cq_MW l yX7_doMerge wsX7_doMerge (cq_rm 0 0) D Y (cl_mdl Y amu mu) [.ref (amu 0), .int record, .int other] (none) (cl_mdl Y amu r) := by
  refine cq_body (cc := cX7_doMerge) (maxL := 5) (ret := none) (by decide) rfl (Nat.le_of_ble_eq_true rfl) ?_
  intro p e s m below meth c hE hP hG hD ls hl
  obtain ⟨hx, hb, hr, hml, hts, hown, hnm, hlocks⟩ := hE
  have hown : s.vm.findClass RX7 = some m.cls := hown
  have hS : va_S (cq_in (cl_mdl Y amu mu)) s.heap s.heap [] := va_S.rf
  have hl : lv_has ls 5 [(0, .ref (amu 0)), (1, .int record), (2, .int other)] := hl
  refine lv_aload_n hx hb dX7_doMerge_0 rfl (lv_at hl 0 rfl) ?_
  refine va_get (D := D) (ci := 7) (v := .ref (amu 20)) (C := RX7) (T := TX7) (N := 25) hx hb hts (fun _ h => List.mem_cons_of_mem _ (List.mem_append_right _ h)) hown hG.1 hP 0 rfl rfl 23 (by decide) (hts (.fieldLink RX7 68 "CatalogueLoaderModel" "held" "[I") (List.mem_of_getElem? (i := 1) rfl)) (fun _ h9 => h9) rfl dX7_doMerge_1 ?_
  refine lv_iload_n hx hb dX7_doMerge_4 rfl (lv_at hl 2 rfl) ?_
  refine lv_dup2_11 hx hb dX7_doMerge_5 rfl rfl ?_
  have h_1 : inb other 80 = true := by by_cases h9 : inb other 80 = true; exact h9; exfalso; simp only [m_X7_doMerge, eq_false h9, ↓reduceIte, if_true, if_false] at hm; cases hm
  refine va_iald hx hb hG.1 hP 20 0 rfl rfl (inb_in h_1) dX7_doMerge_6 ?_
  refine lv_aload_n hx hb dX7_doMerge_7 rfl (lv_at hl 0 rfl) ?_
  refine va_get (D := D) (ci := 7) (v := .ref (amu 20)) (C := RX7) (T := TX7) (N := 25) hx hb hts (fun _ h => List.mem_cons_of_mem _ (List.mem_append_right _ h)) hown hG.1 hP 0 rfl rfl 23 (by decide) (hts (.fieldLink RX7 68 "CatalogueLoaderModel" "held" "[I") (List.mem_of_getElem? (i := 1) rfl)) (fun _ h9 => h9) rfl dX7_doMerge_8 ?_
  refine lv_iload_n hx hb dX7_doMerge_11 rfl (lv_at hl 1 rfl) ?_
  have h_2 : inb record 80 = true := by by_cases h9 : inb record 80 = true; exact h9; exfalso; simp only [m_X7_doMerge, eq_true h_1, eq_false h9, ↓reduceIte, if_true, if_false] at hm; cases hm
  refine va_iald hx hb hG.1 hP 20 0 rfl rfl (inb_in h_2) dX7_doMerge_12 ?_
  refine lv_iadd hx hb dX7_doMerge_13 ?_
  refine va_iast hx hb hG.1 hP hD hS 20 0 rfl rfl (inb_in h_1) dX7_doMerge_14 (fun H locs hP hD hS => ?_)
  have hP : va_P D vwCl (cl_mdl Y amu (mu.1, mu.2.1, mu.2.2.1, mu.2.2.2.1, mu.2.2.2.2.1, mu.2.2.2.2.2.1, mu.2.2.2.2.2.2.1, mu.2.2.2.2.2.2.2.1, mu.2.2.2.2.2.2.2.2.1, mu.2.2.2.2.2.2.2.2.2.1, mu.2.2.2.2.2.2.2.2.2.2.1, mu.2.2.2.2.2.2.2.2.2.2.2.1, mu.2.2.2.2.2.2.2.2.2.2.2.2.1, mu.2.2.2.2.2.2.2.2.2.2.2.2.2.1, mu.2.2.2.2.2.2.2.2.2.2.2.2.2.2.1, mu.2.2.2.2.2.2.2.2.2.2.2.2.2.2.2.1, mu.2.2.2.2.2.2.2.2.2.2.2.2.2.2.2.2.1, mu.2.2.2.2.2.2.2.2.2.2.2.2.2.2.2.2.2.1, mu.2.2.2.2.2.2.2.2.2.2.2.2.2.2.2.2.2.2.1, mu.2.2.2.2.2.2.2.2.2.2.2.2.2.2.2.2.2.2.2.1, mu.2.2.2.2.2.2.2.2.2.2.2.2.2.2.2.2.2.2.2.2.1, mu.2.2.2.2.2.2.2.2.2.2.2.2.2.2.2.2.2.2.2.2.2.1, mu.2.2.2.2.2.2.2.2.2.2.2.2.2.2.2.2.2.2.2.2.2.2.1, upd mu.2.2.2.2.2.2.2.2.2.2.2.2.2.2.2.2.2.2.2.2.2.2.2.1 other.toNatClampNeg ((mu.2.2.2.2.2.2.2.2.2.2.2.2.2.2.2.2.2.2.2.2.2.2.2.1 other.toNatClampNeg) + (mu.2.2.2.2.2.2.2.2.2.2.2.2.2.2.2.2.2.2.2.2.2.2.2.1 record.toNatClampNeg)), mu.2.2.2.2.2.2.2.2.2.2.2.2.2.2.2.2.2.2.2.2.2.2.2.2)) H := hP
  have hD : va_D (cq_in (cl_mdl Y amu mu)) (cl_mdl Y amu (mu.1, mu.2.1, mu.2.2.1, mu.2.2.2.1, mu.2.2.2.2.1, mu.2.2.2.2.2.1, mu.2.2.2.2.2.2.1, mu.2.2.2.2.2.2.2.1, mu.2.2.2.2.2.2.2.2.1, mu.2.2.2.2.2.2.2.2.2.1, mu.2.2.2.2.2.2.2.2.2.2.1, mu.2.2.2.2.2.2.2.2.2.2.2.1, mu.2.2.2.2.2.2.2.2.2.2.2.2.1, mu.2.2.2.2.2.2.2.2.2.2.2.2.2.1, mu.2.2.2.2.2.2.2.2.2.2.2.2.2.2.1, mu.2.2.2.2.2.2.2.2.2.2.2.2.2.2.2.1, mu.2.2.2.2.2.2.2.2.2.2.2.2.2.2.2.2.1, mu.2.2.2.2.2.2.2.2.2.2.2.2.2.2.2.2.2.1, mu.2.2.2.2.2.2.2.2.2.2.2.2.2.2.2.2.2.2.1, mu.2.2.2.2.2.2.2.2.2.2.2.2.2.2.2.2.2.2.2.1, mu.2.2.2.2.2.2.2.2.2.2.2.2.2.2.2.2.2.2.2.2.1, mu.2.2.2.2.2.2.2.2.2.2.2.2.2.2.2.2.2.2.2.2.2.1, mu.2.2.2.2.2.2.2.2.2.2.2.2.2.2.2.2.2.2.2.2.2.2.1, upd mu.2.2.2.2.2.2.2.2.2.2.2.2.2.2.2.2.2.2.2.2.2.2.2.1 other.toNatClampNeg ((mu.2.2.2.2.2.2.2.2.2.2.2.2.2.2.2.2.2.2.2.2.2.2.2.1 other.toNatClampNeg) + (mu.2.2.2.2.2.2.2.2.2.2.2.2.2.2.2.2.2.2.2.2.2.2.2.1 record.toNatClampNeg)), mu.2.2.2.2.2.2.2.2.2.2.2.2.2.2.2.2.2.2.2.2.2.2.2.2)) := hD
  refine lv_iconst (v := 0) hx hb dX7_doMerge_15 (by decide) ?_
  refine lv_istore_n (lv' := [(3, .int 0), (0, .ref (amu 0)), (1, .int record), (2, .int other)]) hx hb dX7_doMerge_16 rfl hl (by decide) rfl (fun ls hl => ?_)
  obtain ⟨fin_3, qfin_3⟩ : ∃ z, m_X7_doMerge_lp17 mu record other 3 0 (mu.1, mu.2.1, mu.2.2.1, mu.2.2.2.1, mu.2.2.2.2.1, mu.2.2.2.2.2.1, mu.2.2.2.2.2.2.1, mu.2.2.2.2.2.2.2.1, mu.2.2.2.2.2.2.2.2.1, mu.2.2.2.2.2.2.2.2.2.1, mu.2.2.2.2.2.2.2.2.2.2.1, mu.2.2.2.2.2.2.2.2.2.2.2.1, mu.2.2.2.2.2.2.2.2.2.2.2.2.1, mu.2.2.2.2.2.2.2.2.2.2.2.2.2.1, mu.2.2.2.2.2.2.2.2.2.2.2.2.2.2.1, mu.2.2.2.2.2.2.2.2.2.2.2.2.2.2.2.1, mu.2.2.2.2.2.2.2.2.2.2.2.2.2.2.2.2.1, mu.2.2.2.2.2.2.2.2.2.2.2.2.2.2.2.2.2.1, mu.2.2.2.2.2.2.2.2.2.2.2.2.2.2.2.2.2.2.1, mu.2.2.2.2.2.2.2.2.2.2.2.2.2.2.2.2.2.2.2.1, mu.2.2.2.2.2.2.2.2.2.2.2.2.2.2.2.2.2.2.2.2.1, mu.2.2.2.2.2.2.2.2.2.2.2.2.2.2.2.2.2.2.2.2.2.1, mu.2.2.2.2.2.2.2.2.2.2.2.2.2.2.2.2.2.2.2.2.2.2.1, upd mu.2.2.2.2.2.2.2.2.2.2.2.2.2.2.2.2.2.2.2.2.2.2.2.1 other.toNatClampNeg ((mu.2.2.2.2.2.2.2.2.2.2.2.2.2.2.2.2.2.2.2.2.2.2.2.1 other.toNatClampNeg) + (mu.2.2.2.2.2.2.2.2.2.2.2.2.2.2.2.2.2.2.2.2.2.2.2.1 record.toNatClampNeg)), mu.2.2.2.2.2.2.2.2.2.2.2.2.2.2.2.2.2.2.2.2.2.2.2.2) = some z := by cases h9 : m_X7_doMerge_lp17 mu record other 3 0 (mu.1, mu.2.1, mu.2.2.1, mu.2.2.2.1, mu.2.2.2.2.1, mu.2.2.2.2.2.1, mu.2.2.2.2.2.2.1, mu.2.2.2.2.2.2.2.1, mu.2.2.2.2.2.2.2.2.1, mu.2.2.2.2.2.2.2.2.2.1, mu.2.2.2.2.2.2.2.2.2.2.1, mu.2.2.2.2.2.2.2.2.2.2.2.1, mu.2.2.2.2.2.2.2.2.2.2.2.2.1, mu.2.2.2.2.2.2.2.2.2.2.2.2.2.1, mu.2.2.2.2.2.2.2.2.2.2.2.2.2.2.1, mu.2.2.2.2.2.2.2.2.2.2.2.2.2.2.2.1, mu.2.2.2.2.2.2.2.2.2.2.2.2.2.2.2.2.1, mu.2.2.2.2.2.2.2.2.2.2.2.2.2.2.2.2.2.1, mu.2.2.2.2.2.2.2.2.2.2.2.2.2.2.2.2.2.2.1, mu.2.2.2.2.2.2.2.2.2.2.2.2.2.2.2.2.2.2.2.1, mu.2.2.2.2.2.2.2.2.2.2.2.2.2.2.2.2.2.2.2.2.1, mu.2.2.2.2.2.2.2.2.2.2.2.2.2.2.2.2.2.2.2.2.2.1, mu.2.2.2.2.2.2.2.2.2.2.2.2.2.2.2.2.2.2.2.2.2.2.1, upd mu.2.2.2.2.2.2.2.2.2.2.2.2.2.2.2.2.2.2.2.2.2.2.2.1 other.toNatClampNeg ((mu.2.2.2.2.2.2.2.2.2.2.2.2.2.2.2.2.2.2.2.2.2.2.2.1 other.toNatClampNeg) + (mu.2.2.2.2.2.2.2.2.2.2.2.2.2.2.2.2.2.2.2.2.2.2.2.1 record.toNatClampNeg)), mu.2.2.2.2.2.2.2.2.2.2.2.2.2.2.2.2.2.2.2.2.2.2.2.2) with | some z => exact ⟨z, rfl⟩ | none => exfalso; simp only [m_X7_doMerge, eq_true h_1, eq_true h_2, h9, Option.bind_none, ↓reduceIte, if_true, if_false] at hm; cases hm
  have lp17 : ∀ (n17 k17 : Nat) (s0_17 : MdlS) (H : Heap) (locs : List Loc) (ls : Array Slot), k17 + n17 = 3 → m_X7_doMerge_lp17 mu record other n17 k17 s0_17 = some fin_3 → va_P D vwCl (cl_mdl Y amu s0_17) H → va_D (cq_in (cl_mdl Y amu mu)) (cl_mdl Y amu s0_17) → va_S (cq_in (cl_mdl Y amu mu)) s.heap H locs → lv_has ls 5 [(3, .int (nI k17)), (0, .ref (amu 0)), (1, .int record), (2, .int other)] → W p l e (cq_rm 0 0) s m ([.ref (amu 0), .int record, .int other] : List Value).toArray below meth c H locs 0 0 (MQ below (cq_W D (none) (cl_mdl Y amu mu) (cl_mdl Y amu r)) ([.ref (amu 0), .int record, .int other] : List Value).toArray s 0 0 (cq_in (cl_mdl Y amu mu))) (F0 m 17 ls []) := by
    intro n17; induction n17 with
    | zero =>
      intro k17 s0_17 H locs ls hkn hres17 hP hD hS hl
      have hz : 3 ≤ nI k17 := cq_z (N := 3) rfl (by omega) (by omega)
      have e9 : fin_3 = s0_17 := (Option.some.inj hres17).symm
      subst e9
      refine lv_iload_n hx hb dX7_doMerge_17 rfl (lv_at hl 0 rfl) ?_
      refine lv_iconst (v := 3) hx hb dX7_doMerge_18 (by decide) ?_
      refine lv_icmp_ge (tgt := 73) hx hb dX7_doMerge_19 (by decide) (fun c_4 => ?_) (fun c_4 => ?_)
      · refine lv_iconst (v := 0) hx hb dX7_doMerge_73 (by decide) ?_
        refine lv_istore_n (lv' := [(3, .int 0), (0, .ref (amu 0)), (1, .int record), (2, .int other)]) hx hb dX7_doMerge_74 rfl hl (by decide) rfl (fun ls hl => ?_)
        obtain ⟨fin_5, qfin_5⟩ : ∃ z, m_X7_doMerge_lp75 mu record other fin_3 4 0 fin_3 = some z := by cases h9 : m_X7_doMerge_lp75 mu record other fin_3 4 0 fin_3 with | some z => exact ⟨z, rfl⟩ | none => exfalso; simp only [m_X7_doMerge, eq_true h_1, eq_true h_2, h9, Option.bind_none, qfin_3, Option.bind_some, ↓reduceIte, if_true, if_false] at hm; cases hm
        have lp75 : ∀ (n75 k75 : Nat) (s0_75 : MdlS) (H : Heap) (locs : List Loc) (ls : Array Slot), k75 + n75 = 4 → m_X7_doMerge_lp75 mu record other fin_3 n75 k75 s0_75 = some fin_5 → va_P D vwCl (cl_mdl Y amu s0_75) H → va_D (cq_in (cl_mdl Y amu mu)) (cl_mdl Y amu s0_75) → va_S (cq_in (cl_mdl Y amu mu)) s.heap H locs → lv_has ls 5 [(3, .int (nI k75)), (0, .ref (amu 0)), (1, .int record), (2, .int other)] → W p l e (cq_rm 0 0) s m ([.ref (amu 0), .int record, .int other] : List Value).toArray below meth c H locs 0 0 (MQ below (cq_W D (none) (cl_mdl Y amu mu) (cl_mdl Y amu r)) ([.ref (amu 0), .int record, .int other] : List Value).toArray s 0 0 (cq_in (cl_mdl Y amu mu))) (F0 m 75 ls []) := by
          intro n75; induction n75 with
          | zero =>
            intro k75 s0_75 H locs ls hkn hres75 hP hD hS hl
            have hz : 4 ≤ nI k75 := cq_z (N := 4) rfl (by omega) (by omega)
            have e9 : fin_5 = s0_75 := (Option.some.inj hres75).symm
            subst e9
            refine lv_iload_n hx hb dX7_doMerge_75 rfl (lv_at hl 0 rfl) ?_
            refine lv_iconst (v := 4) hx hb dX7_doMerge_76 (by decide) ?_
            refine lv_icmp_ge (tgt := 138) hx hb dX7_doMerge_77 (by decide) (fun c_6 => ?_) (fun c_6 => ?_)
            · refine lv_aload_n hx hb dX7_doMerge_138 rfl (lv_at hl 1 rfl) ?_
              refine va_get (D := D) (ci := 7) (v := .ref (amu 15)) (C := RX7) (T := TX7) (N := 25) hx hb hts (fun _ h => List.mem_cons_of_mem _ (List.mem_append_right _ h)) hown hG.1 hP 0 rfl rfl 18 (by decide) (hts (.fieldLink RX7 53 "CatalogueLoaderModel" "isIn" "[Z") (List.mem_of_getElem? (i := 5) rfl)) (fun _ h9 => h9) rfl dX7_doMerge_139 ?_
              refine lv_iload_n hx hb dX7_doMerge_142 rfl (lv_at hl 2 rfl) ?_
              refine lv_iconst (v := 0) hx hb dX7_doMerge_143 (by decide) ?_
              refine va_zast hx hb hG.1 hP hD hS 15 1 rfl rfl (inb_in h_2) dX7_doMerge_144 (fun H locs hP hD hS => ?_)
              have hP : va_P D vwCl (cl_mdl Y amu (fin_5.1, fin_5.2.1, fin_5.2.2.1, fin_5.2.2.2.1, fin_5.2.2.2.2.1, fin_5.2.2.2.2.2.1, fin_5.2.2.2.2.2.2.1, fin_5.2.2.2.2.2.2.2.1, fin_5.2.2.2.2.2.2.2.2.1, fin_5.2.2.2.2.2.2.2.2.2.1, fin_5.2.2.2.2.2.2.2.2.2.2.1, fin_5.2.2.2.2.2.2.2.2.2.2.2.1, fin_5.2.2.2.2.2.2.2.2.2.2.2.2.1, fin_5.2.2.2.2.2.2.2.2.2.2.2.2.2.1, fin_5.2.2.2.2.2.2.2.2.2.2.2.2.2.2.1, fin_5.2.2.2.2.2.2.2.2.2.2.2.2.2.2.2.1, fin_5.2.2.2.2.2.2.2.2.2.2.2.2.2.2.2.2.1, fin_5.2.2.2.2.2.2.2.2.2.2.2.2.2.2.2.2.2.1, upd fin_5.2.2.2.2.2.2.2.2.2.2.2.2.2.2.2.2.2.2.1 record.toNatClampNeg (vp_nar .boolean 0), fin_5.2.2.2.2.2.2.2.2.2.2.2.2.2.2.2.2.2.2.2.1, fin_5.2.2.2.2.2.2.2.2.2.2.2.2.2.2.2.2.2.2.2.2.1, fin_5.2.2.2.2.2.2.2.2.2.2.2.2.2.2.2.2.2.2.2.2.2.1, fin_5.2.2.2.2.2.2.2.2.2.2.2.2.2.2.2.2.2.2.2.2.2.2.1, fin_5.2.2.2.2.2.2.2.2.2.2.2.2.2.2.2.2.2.2.2.2.2.2.2.1, fin_5.2.2.2.2.2.2.2.2.2.2.2.2.2.2.2.2.2.2.2.2.2.2.2.2)) H := hP
              have hD : va_D (cq_in (cl_mdl Y amu mu)) (cl_mdl Y amu (fin_5.1, fin_5.2.1, fin_5.2.2.1, fin_5.2.2.2.1, fin_5.2.2.2.2.1, fin_5.2.2.2.2.2.1, fin_5.2.2.2.2.2.2.1, fin_5.2.2.2.2.2.2.2.1, fin_5.2.2.2.2.2.2.2.2.1, fin_5.2.2.2.2.2.2.2.2.2.1, fin_5.2.2.2.2.2.2.2.2.2.2.1, fin_5.2.2.2.2.2.2.2.2.2.2.2.1, fin_5.2.2.2.2.2.2.2.2.2.2.2.2.1, fin_5.2.2.2.2.2.2.2.2.2.2.2.2.2.1, fin_5.2.2.2.2.2.2.2.2.2.2.2.2.2.2.1, fin_5.2.2.2.2.2.2.2.2.2.2.2.2.2.2.2.1, fin_5.2.2.2.2.2.2.2.2.2.2.2.2.2.2.2.2.1, fin_5.2.2.2.2.2.2.2.2.2.2.2.2.2.2.2.2.2.1, upd fin_5.2.2.2.2.2.2.2.2.2.2.2.2.2.2.2.2.2.2.1 record.toNatClampNeg (vp_nar .boolean 0), fin_5.2.2.2.2.2.2.2.2.2.2.2.2.2.2.2.2.2.2.2.1, fin_5.2.2.2.2.2.2.2.2.2.2.2.2.2.2.2.2.2.2.2.2.1, fin_5.2.2.2.2.2.2.2.2.2.2.2.2.2.2.2.2.2.2.2.2.2.1, fin_5.2.2.2.2.2.2.2.2.2.2.2.2.2.2.2.2.2.2.2.2.2.2.1, fin_5.2.2.2.2.2.2.2.2.2.2.2.2.2.2.2.2.2.2.2.2.2.2.2.1, fin_5.2.2.2.2.2.2.2.2.2.2.2.2.2.2.2.2.2.2.2.2.2.2.2.2)) := hD
              have h9 : some (fin_5.1, fin_5.2.1, fin_5.2.2.1, fin_5.2.2.2.1, fin_5.2.2.2.2.1, fin_5.2.2.2.2.2.1, fin_5.2.2.2.2.2.2.1, fin_5.2.2.2.2.2.2.2.1, fin_5.2.2.2.2.2.2.2.2.1, fin_5.2.2.2.2.2.2.2.2.2.1, fin_5.2.2.2.2.2.2.2.2.2.2.1, fin_5.2.2.2.2.2.2.2.2.2.2.2.1, fin_5.2.2.2.2.2.2.2.2.2.2.2.2.1, fin_5.2.2.2.2.2.2.2.2.2.2.2.2.2.1, fin_5.2.2.2.2.2.2.2.2.2.2.2.2.2.2.1, fin_5.2.2.2.2.2.2.2.2.2.2.2.2.2.2.2.1, fin_5.2.2.2.2.2.2.2.2.2.2.2.2.2.2.2.2.1, fin_5.2.2.2.2.2.2.2.2.2.2.2.2.2.2.2.2.2.1, upd fin_5.2.2.2.2.2.2.2.2.2.2.2.2.2.2.2.2.2.2.1 record.toNatClampNeg (vp_nar .boolean 0), fin_5.2.2.2.2.2.2.2.2.2.2.2.2.2.2.2.2.2.2.2.1, fin_5.2.2.2.2.2.2.2.2.2.2.2.2.2.2.2.2.2.2.2.2.1, fin_5.2.2.2.2.2.2.2.2.2.2.2.2.2.2.2.2.2.2.2.2.2.1, fin_5.2.2.2.2.2.2.2.2.2.2.2.2.2.2.2.2.2.2.2.2.2.2.1, fin_5.2.2.2.2.2.2.2.2.2.2.2.2.2.2.2.2.2.2.2.2.2.2.2.1, fin_5.2.2.2.2.2.2.2.2.2.2.2.2.2.2.2.2.2.2.2.2.2.2.2.2) = some r := by have h8 := hm; simp only [m_X7_doMerge, eq_true h_1, eq_true h_2, qfin_3, Option.bind_some, qfin_5, Option.bind_some, ↓reduceIte, if_true, if_false] at h8; exact h8
              have h10 := Option.some.inj h9
              subst h10
              exact cq_wV (wl := cl_mdl Y amu (fin_5.1, fin_5.2.1, fin_5.2.2.1, fin_5.2.2.2.1, fin_5.2.2.2.2.1, fin_5.2.2.2.2.2.1, fin_5.2.2.2.2.2.2.1, fin_5.2.2.2.2.2.2.2.1, fin_5.2.2.2.2.2.2.2.2.1, fin_5.2.2.2.2.2.2.2.2.2.1, fin_5.2.2.2.2.2.2.2.2.2.2.1, fin_5.2.2.2.2.2.2.2.2.2.2.2.1, fin_5.2.2.2.2.2.2.2.2.2.2.2.2.1, fin_5.2.2.2.2.2.2.2.2.2.2.2.2.2.1, fin_5.2.2.2.2.2.2.2.2.2.2.2.2.2.2.1, fin_5.2.2.2.2.2.2.2.2.2.2.2.2.2.2.2.1, fin_5.2.2.2.2.2.2.2.2.2.2.2.2.2.2.2.2.1, fin_5.2.2.2.2.2.2.2.2.2.2.2.2.2.2.2.2.2.1, upd fin_5.2.2.2.2.2.2.2.2.2.2.2.2.2.2.2.2.2.2.1 record.toNatClampNeg (vp_nar .boolean 0), fin_5.2.2.2.2.2.2.2.2.2.2.2.2.2.2.2.2.2.2.2.1, fin_5.2.2.2.2.2.2.2.2.2.2.2.2.2.2.2.2.2.2.2.2.1, fin_5.2.2.2.2.2.2.2.2.2.2.2.2.2.2.2.2.2.2.2.2.2.1, fin_5.2.2.2.2.2.2.2.2.2.2.2.2.2.2.2.2.2.2.2.2.2.2.1, fin_5.2.2.2.2.2.2.2.2.2.2.2.2.2.2.2.2.2.2.2.2.2.2.2.1, fin_5.2.2.2.2.2.2.2.2.2.2.2.2.2.2.2.2.2.2.2.2.2.2.2.2)) hx hb hr hlocks hP hS rfl rfl dX7_doMerge_145
            · exact absurd hz c_6
          | succ n75 ih75 =>
            intro k75 s0_75 H locs ls hkn hres75 hP hD hS hl
            have hz : ¬ (4 ≤ nI k75) := cq_s (N := 4) rfl (by omega) (by omega)
            refine lv_iload_n hx hb dX7_doMerge_75 rfl (lv_at hl 0 rfl) ?_
            refine lv_iconst (v := 4) hx hb dX7_doMerge_76 (by decide) ?_
            refine lv_icmp_ge (tgt := 138) hx hb dX7_doMerge_77 (by decide) (fun c_7 => ?_) (fun c_7 => ?_)
            · exact absurd c_7 hz
            · refine lv_iconst (v := 4) hx hb dX7_doMerge_80 (by decide) ?_
              refine lv_iload_n hx hb dX7_doMerge_81 rfl (lv_at hl 3 rfl) ?_
              refine lv_imul hx hb dX7_doMerge_82 ?_
              refine lv_iload_n hx hb dX7_doMerge_83 rfl (lv_at hl 0 rfl) ?_
              refine lv_iadd hx hb dX7_doMerge_84 ?_
              refine lv_topi (fun x_8 ex_8 => ?_)
              refine lv_istore (lv' := [(4, .int x_8), (3, .int (nI k75)), (0, .ref (amu 0)), (1, .int record), (2, .int other)]) hx hb dX7_doMerge_85 hl (by decide) rfl (fun ls hl => ?_)
              refine lv_aload_n hx hb dX7_doMerge_87 rfl (lv_at hl 2 rfl) ?_
              refine va_get (D := D) (ci := 7) (v := .ref (amu 17)) (C := RX7) (T := TX7) (N := 25) hx hb hts (fun _ h => List.mem_cons_of_mem _ (List.mem_append_right _ h)) hown hG.1 hP 0 rfl rfl 20 (by decide) (hts (.fieldLink RX7 59 "CatalogueLoaderModel" "fields" "[I") (List.mem_of_getElem? (i := 3) rfl)) (fun _ h9 => h9) rfl dX7_doMerge_88 ?_
              refine lv_iload hx hb dX7_doMerge_91 (lv_at hl 0 rfl) ?_
              have h_9 : inb x_8 320 = true := by by_cases h9 : inb x_8 320 = true; exact h9; exfalso; subst ex_8; simp only [m_X7_doMerge_lp75, eq_true h_1, eq_true h_2, eq_false h9, qfin_3, Option.bind_some, ↓reduceIte, if_true, if_false] at hres75; cases hres75
              refine va_iald hx hb hG.1 hP 17 0 rfl rfl (inb_in h_9) dX7_doMerge_93 ?_
              refine lv_iconst (v := (-1)) hx hb dX7_doMerge_94 (by decide) ?_
              refine lv_icmp_ne (tgt := 132) hx hb dX7_doMerge_95 (by decide) (fun c_10 => ?_) (fun c_10 => ?_)
              · refine lv_iinc (v := nI (k75 + 1)) (lv' := [(3, .int (nI (k75 + 1))), (4, .int x_8), (0, .ref (amu 0)), (1, .int record), (2, .int other)]) hx hb dX7_doMerge_132 hl (k := 1) rfl (nI_1 k75) (by decide) rfl (fun ls hl => ?_)
                refine lv_goto (tgt := 75) hx hb dX7_doMerge_135 (by decide) ?_
                exact ih75 (k75 + 1) s0_75 _ _ _ (by omega) (Eq.trans (by subst ex_8; simp only [m_X7_doMerge_lp75, eq_true h_1, eq_true h_2, eq_true h_9, eq_false c_10, qfin_3, Option.bind_some, ↓reduceIte, if_true, if_false]) hres75) hP hD hS (lv_sub hl [0, 2, 3, 4] rfl)
              · refine lv_aload_n hx hb dX7_doMerge_98 rfl (lv_at hl 2 rfl) ?_
                refine va_get (D := D) (ci := 7) (v := .ref (amu 17)) (C := RX7) (T := TX7) (N := 25) hx hb hts (fun _ h => List.mem_cons_of_mem _ (List.mem_append_right _ h)) hown hG.1 hP 0 rfl rfl 20 (by decide) (hts (.fieldLink RX7 59 "CatalogueLoaderModel" "fields" "[I") (List.mem_of_getElem? (i := 3) rfl)) (fun _ h9 => h9) rfl dX7_doMerge_99 ?_
                refine lv_iload hx hb dX7_doMerge_102 (lv_at hl 0 rfl) ?_
                refine lv_aload_n hx hb dX7_doMerge_104 rfl (lv_at hl 2 rfl) ?_
                refine va_get (D := D) (ci := 7) (v := .ref (amu 17)) (C := RX7) (T := TX7) (N := 25) hx hb hts (fun _ h => List.mem_cons_of_mem _ (List.mem_append_right _ h)) hown hG.1 hP 0 rfl rfl 20 (by decide) (hts (.fieldLink RX7 59 "CatalogueLoaderModel" "fields" "[I") (List.mem_of_getElem? (i := 3) rfl)) (fun _ h9 => h9) rfl dX7_doMerge_105 ?_
                refine lv_iconst (v := 4) hx hb dX7_doMerge_108 (by decide) ?_
                refine lv_iload_n hx hb dX7_doMerge_109 rfl (lv_at hl 3 rfl) ?_
                refine lv_imul hx hb dX7_doMerge_110 ?_
                refine lv_iload_n hx hb dX7_doMerge_111 rfl (lv_at hl 1 rfl) ?_
                refine lv_iadd hx hb dX7_doMerge_112 ?_
                have h_11 : inb ((4 * record) + (nI k75)) 320 = true := by by_cases h9 : inb ((4 * record) + (nI k75)) 320 = true; exact h9; exfalso; subst ex_8; simp only [m_X7_doMerge_lp75, eq_true h_1, eq_true h_2, eq_true h_9, eq_true c_10, eq_false h9, qfin_3, Option.bind_some, ↓reduceIte, if_true, if_false] at hres75; cases hres75
                refine va_iald hx hb hG.1 hP 17 0 rfl rfl (inb_in h_11) dX7_doMerge_113 ?_
                refine va_iast hx hb hG.1 hP hD hS 17 0 rfl rfl (inb_in h_9) dX7_doMerge_114 (fun H locs hP hD hS => ?_)
                have hP : va_P D vwCl (cl_mdl Y amu (s0_75.1, s0_75.2.1, s0_75.2.2.1, s0_75.2.2.2.1, s0_75.2.2.2.2.1, s0_75.2.2.2.2.2.1, s0_75.2.2.2.2.2.2.1, s0_75.2.2.2.2.2.2.2.1, s0_75.2.2.2.2.2.2.2.2.1, s0_75.2.2.2.2.2.2.2.2.2.1, s0_75.2.2.2.2.2.2.2.2.2.2.1, s0_75.2.2.2.2.2.2.2.2.2.2.2.1, s0_75.2.2.2.2.2.2.2.2.2.2.2.2.1, s0_75.2.2.2.2.2.2.2.2.2.2.2.2.2.1, s0_75.2.2.2.2.2.2.2.2.2.2.2.2.2.2.1, s0_75.2.2.2.2.2.2.2.2.2.2.2.2.2.2.2.1, s0_75.2.2.2.2.2.2.2.2.2.2.2.2.2.2.2.2.1, s0_75.2.2.2.2.2.2.2.2.2.2.2.2.2.2.2.2.2.1, s0_75.2.2.2.2.2.2.2.2.2.2.2.2.2.2.2.2.2.2.1, s0_75.2.2.2.2.2.2.2.2.2.2.2.2.2.2.2.2.2.2.2.1, upd s0_75.2.2.2.2.2.2.2.2.2.2.2.2.2.2.2.2.2.2.2.2.1 x_8.toNatClampNeg (s0_75.2.2.2.2.2.2.2.2.2.2.2.2.2.2.2.2.2.2.2.2.1 ((4 * record) + (nI k75)).toNatClampNeg), s0_75.2.2.2.2.2.2.2.2.2.2.2.2.2.2.2.2.2.2.2.2.2.1, s0_75.2.2.2.2.2.2.2.2.2.2.2.2.2.2.2.2.2.2.2.2.2.2.1, s0_75.2.2.2.2.2.2.2.2.2.2.2.2.2.2.2.2.2.2.2.2.2.2.2.1, s0_75.2.2.2.2.2.2.2.2.2.2.2.2.2.2.2.2.2.2.2.2.2.2.2.2)) H := hP
                have hD : va_D (cq_in (cl_mdl Y amu mu)) (cl_mdl Y amu (s0_75.1, s0_75.2.1, s0_75.2.2.1, s0_75.2.2.2.1, s0_75.2.2.2.2.1, s0_75.2.2.2.2.2.1, s0_75.2.2.2.2.2.2.1, s0_75.2.2.2.2.2.2.2.1, s0_75.2.2.2.2.2.2.2.2.1, s0_75.2.2.2.2.2.2.2.2.2.1, s0_75.2.2.2.2.2.2.2.2.2.2.1, s0_75.2.2.2.2.2.2.2.2.2.2.2.1, s0_75.2.2.2.2.2.2.2.2.2.2.2.2.1, s0_75.2.2.2.2.2.2.2.2.2.2.2.2.2.1, s0_75.2.2.2.2.2.2.2.2.2.2.2.2.2.2.1, s0_75.2.2.2.2.2.2.2.2.2.2.2.2.2.2.2.1, s0_75.2.2.2.2.2.2.2.2.2.2.2.2.2.2.2.2.1, s0_75.2.2.2.2.2.2.2.2.2.2.2.2.2.2.2.2.2.1, s0_75.2.2.2.2.2.2.2.2.2.2.2.2.2.2.2.2.2.2.1, s0_75.2.2.2.2.2.2.2.2.2.2.2.2.2.2.2.2.2.2.2.1, upd s0_75.2.2.2.2.2.2.2.2.2.2.2.2.2.2.2.2.2.2.2.2.1 x_8.toNatClampNeg (s0_75.2.2.2.2.2.2.2.2.2.2.2.2.2.2.2.2.2.2.2.2.1 ((4 * record) + (nI k75)).toNatClampNeg), s0_75.2.2.2.2.2.2.2.2.2.2.2.2.2.2.2.2.2.2.2.2.2.1, s0_75.2.2.2.2.2.2.2.2.2.2.2.2.2.2.2.2.2.2.2.2.2.2.1, s0_75.2.2.2.2.2.2.2.2.2.2.2.2.2.2.2.2.2.2.2.2.2.2.2.1, s0_75.2.2.2.2.2.2.2.2.2.2.2.2.2.2.2.2.2.2.2.2.2.2.2.2)) := hD
                refine lv_aload_n hx hb dX7_doMerge_115 rfl (lv_at hl 2 rfl) ?_
                refine va_get (D := D) (ci := 7) (v := .ref (amu 18)) (C := RX7) (T := TX7) (N := 25) hx hb hts (fun _ h => List.mem_cons_of_mem _ (List.mem_append_right _ h)) hown hG.1 hP 0 rfl rfl 21 (by decide) (hts (.fieldLink RX7 62 "CatalogueLoaderModel" "sources" "[I") (List.mem_of_getElem? (i := 4) rfl)) (fun _ h9 => h9) rfl dX7_doMerge_116 ?_
                refine lv_iload hx hb dX7_doMerge_119 (lv_at hl 0 rfl) ?_
                refine lv_aload_n hx hb dX7_doMerge_121 rfl (lv_at hl 2 rfl) ?_
                refine va_get (D := D) (ci := 7) (v := .ref (amu 18)) (C := RX7) (T := TX7) (N := 25) hx hb hts (fun _ h => List.mem_cons_of_mem _ (List.mem_append_right _ h)) hown hG.1 hP 0 rfl rfl 21 (by decide) (hts (.fieldLink RX7 62 "CatalogueLoaderModel" "sources" "[I") (List.mem_of_getElem? (i := 4) rfl)) (fun _ h9 => h9) rfl dX7_doMerge_122 ?_
                refine lv_iconst (v := 4) hx hb dX7_doMerge_125 (by decide) ?_
                refine lv_iload_n hx hb dX7_doMerge_126 rfl (lv_at hl 3 rfl) ?_
                refine lv_imul hx hb dX7_doMerge_127 ?_
                refine lv_iload_n hx hb dX7_doMerge_128 rfl (lv_at hl 1 rfl) ?_
                refine lv_iadd hx hb dX7_doMerge_129 ?_
                refine va_iald hx hb hG.1 hP 18 0 rfl rfl (inb_in h_11) dX7_doMerge_130 ?_
                refine va_iast hx hb hG.1 hP hD hS 18 0 rfl rfl (inb_in h_9) dX7_doMerge_131 (fun H locs hP hD hS => ?_)
                have hP : va_P D vwCl (cl_mdl Y amu (s0_75.1, s0_75.2.1, s0_75.2.2.1, s0_75.2.2.2.1, s0_75.2.2.2.2.1, s0_75.2.2.2.2.2.1, s0_75.2.2.2.2.2.2.1, s0_75.2.2.2.2.2.2.2.1, s0_75.2.2.2.2.2.2.2.2.1, s0_75.2.2.2.2.2.2.2.2.2.1, s0_75.2.2.2.2.2.2.2.2.2.2.1, s0_75.2.2.2.2.2.2.2.2.2.2.2.1, s0_75.2.2.2.2.2.2.2.2.2.2.2.2.1, s0_75.2.2.2.2.2.2.2.2.2.2.2.2.2.1, s0_75.2.2.2.2.2.2.2.2.2.2.2.2.2.2.1, s0_75.2.2.2.2.2.2.2.2.2.2.2.2.2.2.2.1, s0_75.2.2.2.2.2.2.2.2.2.2.2.2.2.2.2.2.1, s0_75.2.2.2.2.2.2.2.2.2.2.2.2.2.2.2.2.2.1, s0_75.2.2.2.2.2.2.2.2.2.2.2.2.2.2.2.2.2.2.1, s0_75.2.2.2.2.2.2.2.2.2.2.2.2.2.2.2.2.2.2.2.1, upd s0_75.2.2.2.2.2.2.2.2.2.2.2.2.2.2.2.2.2.2.2.2.1 x_8.toNatClampNeg (s0_75.2.2.2.2.2.2.2.2.2.2.2.2.2.2.2.2.2.2.2.2.1 ((4 * record) + (nI k75)).toNatClampNeg), upd s0_75.2.2.2.2.2.2.2.2.2.2.2.2.2.2.2.2.2.2.2.2.2.1 x_8.toNatClampNeg (s0_75.2.2.2.2.2.2.2.2.2.2.2.2.2.2.2.2.2.2.2.2.2.1 ((4 * record) + (nI k75)).toNatClampNeg), s0_75.2.2.2.2.2.2.2.2.2.2.2.2.2.2.2.2.2.2.2.2.2.2.1, s0_75.2.2.2.2.2.2.2.2.2.2.2.2.2.2.2.2.2.2.2.2.2.2.2.1, s0_75.2.2.2.2.2.2.2.2.2.2.2.2.2.2.2.2.2.2.2.2.2.2.2.2)) H := hP
                have hD : va_D (cq_in (cl_mdl Y amu mu)) (cl_mdl Y amu (s0_75.1, s0_75.2.1, s0_75.2.2.1, s0_75.2.2.2.1, s0_75.2.2.2.2.1, s0_75.2.2.2.2.2.1, s0_75.2.2.2.2.2.2.1, s0_75.2.2.2.2.2.2.2.1, s0_75.2.2.2.2.2.2.2.2.1, s0_75.2.2.2.2.2.2.2.2.2.1, s0_75.2.2.2.2.2.2.2.2.2.2.1, s0_75.2.2.2.2.2.2.2.2.2.2.2.1, s0_75.2.2.2.2.2.2.2.2.2.2.2.2.1, s0_75.2.2.2.2.2.2.2.2.2.2.2.2.2.1, s0_75.2.2.2.2.2.2.2.2.2.2.2.2.2.2.1, s0_75.2.2.2.2.2.2.2.2.2.2.2.2.2.2.2.1, s0_75.2.2.2.2.2.2.2.2.2.2.2.2.2.2.2.2.1, s0_75.2.2.2.2.2.2.2.2.2.2.2.2.2.2.2.2.2.1, s0_75.2.2.2.2.2.2.2.2.2.2.2.2.2.2.2.2.2.2.1, s0_75.2.2.2.2.2.2.2.2.2.2.2.2.2.2.2.2.2.2.2.1, upd s0_75.2.2.2.2.2.2.2.2.2.2.2.2.2.2.2.2.2.2.2.2.1 x_8.toNatClampNeg (s0_75.2.2.2.2.2.2.2.2.2.2.2.2.2.2.2.2.2.2.2.2.1 ((4 * record) + (nI k75)).toNatClampNeg), upd s0_75.2.2.2.2.2.2.2.2.2.2.2.2.2.2.2.2.2.2.2.2.2.1 x_8.toNatClampNeg (s0_75.2.2.2.2.2.2.2.2.2.2.2.2.2.2.2.2.2.2.2.2.2.1 ((4 * record) + (nI k75)).toNatClampNeg), s0_75.2.2.2.2.2.2.2.2.2.2.2.2.2.2.2.2.2.2.2.2.2.2.1, s0_75.2.2.2.2.2.2.2.2.2.2.2.2.2.2.2.2.2.2.2.2.2.2.2.1, s0_75.2.2.2.2.2.2.2.2.2.2.2.2.2.2.2.2.2.2.2.2.2.2.2.2)) := hD
                refine lv_iinc (v := nI (k75 + 1)) (lv' := [(3, .int (nI (k75 + 1))), (4, .int x_8), (0, .ref (amu 0)), (1, .int record), (2, .int other)]) hx hb dX7_doMerge_132 hl (k := 1) rfl (nI_1 k75) (by decide) rfl (fun ls hl => ?_)
                refine lv_goto (tgt := 75) hx hb dX7_doMerge_135 (by decide) ?_
                exact ih75 (k75 + 1) (s0_75.1, s0_75.2.1, s0_75.2.2.1, s0_75.2.2.2.1, s0_75.2.2.2.2.1, s0_75.2.2.2.2.2.1, s0_75.2.2.2.2.2.2.1, s0_75.2.2.2.2.2.2.2.1, s0_75.2.2.2.2.2.2.2.2.1, s0_75.2.2.2.2.2.2.2.2.2.1, s0_75.2.2.2.2.2.2.2.2.2.2.1, s0_75.2.2.2.2.2.2.2.2.2.2.2.1, s0_75.2.2.2.2.2.2.2.2.2.2.2.2.1, s0_75.2.2.2.2.2.2.2.2.2.2.2.2.2.1, s0_75.2.2.2.2.2.2.2.2.2.2.2.2.2.2.1, s0_75.2.2.2.2.2.2.2.2.2.2.2.2.2.2.2.1, s0_75.2.2.2.2.2.2.2.2.2.2.2.2.2.2.2.2.1, s0_75.2.2.2.2.2.2.2.2.2.2.2.2.2.2.2.2.2.1, s0_75.2.2.2.2.2.2.2.2.2.2.2.2.2.2.2.2.2.2.1, s0_75.2.2.2.2.2.2.2.2.2.2.2.2.2.2.2.2.2.2.2.1, upd s0_75.2.2.2.2.2.2.2.2.2.2.2.2.2.2.2.2.2.2.2.2.1 x_8.toNatClampNeg (s0_75.2.2.2.2.2.2.2.2.2.2.2.2.2.2.2.2.2.2.2.2.1 ((4 * record) + (nI k75)).toNatClampNeg), upd s0_75.2.2.2.2.2.2.2.2.2.2.2.2.2.2.2.2.2.2.2.2.2.1 x_8.toNatClampNeg (s0_75.2.2.2.2.2.2.2.2.2.2.2.2.2.2.2.2.2.2.2.2.2.1 ((4 * record) + (nI k75)).toNatClampNeg), s0_75.2.2.2.2.2.2.2.2.2.2.2.2.2.2.2.2.2.2.2.2.2.2.1, s0_75.2.2.2.2.2.2.2.2.2.2.2.2.2.2.2.2.2.2.2.2.2.2.2.1, s0_75.2.2.2.2.2.2.2.2.2.2.2.2.2.2.2.2.2.2.2.2.2.2.2.2) _ _ _ (by omega) (Eq.trans (by subst ex_8; simp only [m_X7_doMerge_lp75, eq_true h_1, eq_true h_2, eq_true h_9, eq_true c_10, eq_true h_11, qfin_3, Option.bind_some, ↓reduceIte, if_true, if_false]) hres75) hP hD hS (lv_sub hl [0, 2, 3, 4] rfl)
        exact lp75 4 0 fin_3 _ _ _ (Nat.zero_add _) qfin_5 hP hD hS (lv_sub hl [0, 1, 2, 3] rfl)
      · exact absurd hz c_4
    | succ n17 ih17 =>
      intro k17 s0_17 H locs ls hkn hres17 hP hD hS hl
      have hz : ¬ (3 ≤ nI k17) := cq_s (N := 3) rfl (by omega) (by omega)
      refine lv_iload_n hx hb dX7_doMerge_17 rfl (lv_at hl 0 rfl) ?_
      refine lv_iconst (v := 3) hx hb dX7_doMerge_18 (by decide) ?_
      refine lv_icmp_ge (tgt := 73) hx hb dX7_doMerge_19 (by decide) (fun c_12 => ?_) (fun c_12 => ?_)
      · exact absurd c_12 hz
      · refine lv_iconst (v := 3) hx hb dX7_doMerge_22 (by decide) ?_
        refine lv_iload_n hx hb dX7_doMerge_23 rfl (lv_at hl 3 rfl) ?_
        refine lv_imul hx hb dX7_doMerge_24 ?_
        refine lv_iload_n hx hb dX7_doMerge_25 rfl (lv_at hl 0 rfl) ?_
        refine lv_iadd hx hb dX7_doMerge_26 ?_
        refine lv_topi (fun x_13 ex_13 => ?_)
        refine lv_istore (lv' := [(4, .int x_13), (3, .int (nI k17)), (0, .ref (amu 0)), (1, .int record), (2, .int other)]) hx hb dX7_doMerge_27 hl (by decide) rfl (fun ls hl => ?_)
        refine lv_aload_n hx hb dX7_doMerge_29 rfl (lv_at hl 2 rfl) ?_
        refine va_get (D := D) (ci := 7) (v := .ref (amu 16)) (C := RX7) (T := TX7) (N := 25) hx hb hts (fun _ h => List.mem_cons_of_mem _ (List.mem_append_right _ h)) hown hG.1 hP 0 rfl rfl 19 (by decide) (hts (.fieldLink RX7 56 "CatalogueLoaderModel" "keys" "[I") (List.mem_of_getElem? (i := 2) rfl)) (fun _ h9 => h9) rfl dX7_doMerge_30 ?_
        refine lv_iload hx hb dX7_doMerge_33 (lv_at hl 0 rfl) ?_
        refine lv_aload_n hx hb dX7_doMerge_35 rfl (lv_at hl 2 rfl) ?_
        refine va_get (D := D) (ci := 7) (v := .ref (amu 16)) (C := RX7) (T := TX7) (N := 25) hx hb hts (fun _ h => List.mem_cons_of_mem _ (List.mem_append_right _ h)) hown hG.1 hP 0 rfl rfl 19 (by decide) (hts (.fieldLink RX7 56 "CatalogueLoaderModel" "keys" "[I") (List.mem_of_getElem? (i := 2) rfl)) (fun _ h9 => h9) rfl dX7_doMerge_36 ?_
        refine lv_iload hx hb dX7_doMerge_39 (lv_at hl 0 rfl) ?_
        have h_14 : inb x_13 240 = true := by by_cases h9 : inb x_13 240 = true; exact h9; exfalso; subst ex_13; simp only [m_X7_doMerge_lp17, eq_true h_1, eq_true h_2, eq_false h9, ↓reduceIte, if_true, if_false] at hres17; cases hres17
        refine va_iald hx hb hG.1 hP 16 0 rfl rfl (inb_in h_14) dX7_doMerge_41 ?_
        refine lv_iconst (v := (-1)) hx hb dX7_doMerge_42 (by decide) ?_
        refine lv_icmp_ne (tgt := 59) hx hb dX7_doMerge_43 (by decide) (fun c_15 => ?_) (fun c_15 => ?_)
        · refine lv_aload_n hx hb dX7_doMerge_59 rfl (lv_at hl 2 rfl) ?_
          refine va_get (D := D) (ci := 7) (v := .ref (amu 16)) (C := RX7) (T := TX7) (N := 25) hx hb hts (fun _ h => List.mem_cons_of_mem _ (List.mem_append_right _ h)) hown hG.1 hP 0 rfl rfl 19 (by decide) (hts (.fieldLink RX7 56 "CatalogueLoaderModel" "keys" "[I") (List.mem_of_getElem? (i := 2) rfl)) (fun _ h9 => h9) rfl dX7_doMerge_60 ?_
          refine lv_iload hx hb dX7_doMerge_63 (lv_at hl 0 rfl) ?_
          refine va_iald hx hb hG.1 hP 16 0 rfl rfl (inb_in h_14) dX7_doMerge_65 ?_
          refine va_iast hx hb hG.1 hP hD hS 16 0 rfl rfl (inb_in h_14) dX7_doMerge_66 (fun H locs hP hD hS => ?_)
          have hP : va_P D vwCl (cl_mdl Y amu (s0_17.1, s0_17.2.1, s0_17.2.2.1, s0_17.2.2.2.1, s0_17.2.2.2.2.1, s0_17.2.2.2.2.2.1, s0_17.2.2.2.2.2.2.1, s0_17.2.2.2.2.2.2.2.1, s0_17.2.2.2.2.2.2.2.2.1, s0_17.2.2.2.2.2.2.2.2.2.1, s0_17.2.2.2.2.2.2.2.2.2.2.1, s0_17.2.2.2.2.2.2.2.2.2.2.2.1, s0_17.2.2.2.2.2.2.2.2.2.2.2.2.1, s0_17.2.2.2.2.2.2.2.2.2.2.2.2.2.1, s0_17.2.2.2.2.2.2.2.2.2.2.2.2.2.2.1, s0_17.2.2.2.2.2.2.2.2.2.2.2.2.2.2.2.1, s0_17.2.2.2.2.2.2.2.2.2.2.2.2.2.2.2.2.1, s0_17.2.2.2.2.2.2.2.2.2.2.2.2.2.2.2.2.2.1, s0_17.2.2.2.2.2.2.2.2.2.2.2.2.2.2.2.2.2.2.1, upd s0_17.2.2.2.2.2.2.2.2.2.2.2.2.2.2.2.2.2.2.2.1 x_13.toNatClampNeg (s0_17.2.2.2.2.2.2.2.2.2.2.2.2.2.2.2.2.2.2.2.1 x_13.toNatClampNeg), s0_17.2.2.2.2.2.2.2.2.2.2.2.2.2.2.2.2.2.2.2.2.1, s0_17.2.2.2.2.2.2.2.2.2.2.2.2.2.2.2.2.2.2.2.2.2.1, s0_17.2.2.2.2.2.2.2.2.2.2.2.2.2.2.2.2.2.2.2.2.2.2.1, s0_17.2.2.2.2.2.2.2.2.2.2.2.2.2.2.2.2.2.2.2.2.2.2.2.1, s0_17.2.2.2.2.2.2.2.2.2.2.2.2.2.2.2.2.2.2.2.2.2.2.2.2)) H := hP
          have hD : va_D (cq_in (cl_mdl Y amu mu)) (cl_mdl Y amu (s0_17.1, s0_17.2.1, s0_17.2.2.1, s0_17.2.2.2.1, s0_17.2.2.2.2.1, s0_17.2.2.2.2.2.1, s0_17.2.2.2.2.2.2.1, s0_17.2.2.2.2.2.2.2.1, s0_17.2.2.2.2.2.2.2.2.1, s0_17.2.2.2.2.2.2.2.2.2.1, s0_17.2.2.2.2.2.2.2.2.2.2.1, s0_17.2.2.2.2.2.2.2.2.2.2.2.1, s0_17.2.2.2.2.2.2.2.2.2.2.2.2.1, s0_17.2.2.2.2.2.2.2.2.2.2.2.2.2.1, s0_17.2.2.2.2.2.2.2.2.2.2.2.2.2.2.1, s0_17.2.2.2.2.2.2.2.2.2.2.2.2.2.2.2.1, s0_17.2.2.2.2.2.2.2.2.2.2.2.2.2.2.2.2.1, s0_17.2.2.2.2.2.2.2.2.2.2.2.2.2.2.2.2.2.1, s0_17.2.2.2.2.2.2.2.2.2.2.2.2.2.2.2.2.2.2.1, upd s0_17.2.2.2.2.2.2.2.2.2.2.2.2.2.2.2.2.2.2.2.1 x_13.toNatClampNeg (s0_17.2.2.2.2.2.2.2.2.2.2.2.2.2.2.2.2.2.2.2.1 x_13.toNatClampNeg), s0_17.2.2.2.2.2.2.2.2.2.2.2.2.2.2.2.2.2.2.2.2.1, s0_17.2.2.2.2.2.2.2.2.2.2.2.2.2.2.2.2.2.2.2.2.2.1, s0_17.2.2.2.2.2.2.2.2.2.2.2.2.2.2.2.2.2.2.2.2.2.2.1, s0_17.2.2.2.2.2.2.2.2.2.2.2.2.2.2.2.2.2.2.2.2.2.2.2.1, s0_17.2.2.2.2.2.2.2.2.2.2.2.2.2.2.2.2.2.2.2.2.2.2.2.2)) := hD
          refine lv_iinc (v := nI (k17 + 1)) (lv' := [(3, .int (nI (k17 + 1))), (4, .int x_13), (0, .ref (amu 0)), (1, .int record), (2, .int other)]) hx hb dX7_doMerge_67 hl (k := 1) rfl (nI_1 k17) (by decide) rfl (fun ls hl => ?_)
          refine lv_goto (tgt := 17) hx hb dX7_doMerge_70 (by decide) ?_
          exact ih17 (k17 + 1) (s0_17.1, s0_17.2.1, s0_17.2.2.1, s0_17.2.2.2.1, s0_17.2.2.2.2.1, s0_17.2.2.2.2.2.1, s0_17.2.2.2.2.2.2.1, s0_17.2.2.2.2.2.2.2.1, s0_17.2.2.2.2.2.2.2.2.1, s0_17.2.2.2.2.2.2.2.2.2.1, s0_17.2.2.2.2.2.2.2.2.2.2.1, s0_17.2.2.2.2.2.2.2.2.2.2.2.1, s0_17.2.2.2.2.2.2.2.2.2.2.2.2.1, s0_17.2.2.2.2.2.2.2.2.2.2.2.2.2.1, s0_17.2.2.2.2.2.2.2.2.2.2.2.2.2.2.1, s0_17.2.2.2.2.2.2.2.2.2.2.2.2.2.2.2.1, s0_17.2.2.2.2.2.2.2.2.2.2.2.2.2.2.2.2.1, s0_17.2.2.2.2.2.2.2.2.2.2.2.2.2.2.2.2.2.1, s0_17.2.2.2.2.2.2.2.2.2.2.2.2.2.2.2.2.2.2.1, upd s0_17.2.2.2.2.2.2.2.2.2.2.2.2.2.2.2.2.2.2.2.1 x_13.toNatClampNeg (s0_17.2.2.2.2.2.2.2.2.2.2.2.2.2.2.2.2.2.2.2.1 x_13.toNatClampNeg), s0_17.2.2.2.2.2.2.2.2.2.2.2.2.2.2.2.2.2.2.2.2.1, s0_17.2.2.2.2.2.2.2.2.2.2.2.2.2.2.2.2.2.2.2.2.2.1, s0_17.2.2.2.2.2.2.2.2.2.2.2.2.2.2.2.2.2.2.2.2.2.2.1, s0_17.2.2.2.2.2.2.2.2.2.2.2.2.2.2.2.2.2.2.2.2.2.2.2.1, s0_17.2.2.2.2.2.2.2.2.2.2.2.2.2.2.2.2.2.2.2.2.2.2.2.2) _ _ _ (by omega) (Eq.trans (by subst ex_13; simp only [m_X7_doMerge_lp17, eq_true h_1, eq_true h_2, eq_true h_14, eq_false c_15, ↓reduceIte, if_true, if_false]) hres17) hP hD hS (lv_sub hl [0, 2, 3, 4] rfl)
        · refine lv_aload_n hx hb dX7_doMerge_46 rfl (lv_at hl 2 rfl) ?_
          refine va_get (D := D) (ci := 7) (v := .ref (amu 16)) (C := RX7) (T := TX7) (N := 25) hx hb hts (fun _ h => List.mem_cons_of_mem _ (List.mem_append_right _ h)) hown hG.1 hP 0 rfl rfl 19 (by decide) (hts (.fieldLink RX7 56 "CatalogueLoaderModel" "keys" "[I") (List.mem_of_getElem? (i := 2) rfl)) (fun _ h9 => h9) rfl dX7_doMerge_47 ?_
          refine lv_iconst (v := 3) hx hb dX7_doMerge_50 (by decide) ?_
          refine lv_iload_n hx hb dX7_doMerge_51 rfl (lv_at hl 3 rfl) ?_
          refine lv_imul hx hb dX7_doMerge_52 ?_
          refine lv_iload_n hx hb dX7_doMerge_53 rfl (lv_at hl 1 rfl) ?_
          refine lv_iadd hx hb dX7_doMerge_54 ?_
          have h_16 : inb ((3 * record) + (nI k17)) 240 = true := by by_cases h9 : inb ((3 * record) + (nI k17)) 240 = true; exact h9; exfalso; subst ex_13; simp only [m_X7_doMerge_lp17, eq_true h_1, eq_true h_2, eq_true h_14, eq_true c_15, eq_false h9, ↓reduceIte, if_true, if_false] at hres17; cases hres17
          refine va_iald hx hb hG.1 hP 16 0 rfl rfl (inb_in h_16) dX7_doMerge_55 ?_
          refine lv_goto (tgt := 66) hx hb dX7_doMerge_56 (by decide) ?_
          refine va_iast hx hb hG.1 hP hD hS 16 0 rfl rfl (inb_in h_14) dX7_doMerge_66 (fun H locs hP hD hS => ?_)
          have hP : va_P D vwCl (cl_mdl Y amu (s0_17.1, s0_17.2.1, s0_17.2.2.1, s0_17.2.2.2.1, s0_17.2.2.2.2.1, s0_17.2.2.2.2.2.1, s0_17.2.2.2.2.2.2.1, s0_17.2.2.2.2.2.2.2.1, s0_17.2.2.2.2.2.2.2.2.1, s0_17.2.2.2.2.2.2.2.2.2.1, s0_17.2.2.2.2.2.2.2.2.2.2.1, s0_17.2.2.2.2.2.2.2.2.2.2.2.1, s0_17.2.2.2.2.2.2.2.2.2.2.2.2.1, s0_17.2.2.2.2.2.2.2.2.2.2.2.2.2.1, s0_17.2.2.2.2.2.2.2.2.2.2.2.2.2.2.1, s0_17.2.2.2.2.2.2.2.2.2.2.2.2.2.2.2.1, s0_17.2.2.2.2.2.2.2.2.2.2.2.2.2.2.2.2.1, s0_17.2.2.2.2.2.2.2.2.2.2.2.2.2.2.2.2.2.1, s0_17.2.2.2.2.2.2.2.2.2.2.2.2.2.2.2.2.2.2.1, upd s0_17.2.2.2.2.2.2.2.2.2.2.2.2.2.2.2.2.2.2.2.1 x_13.toNatClampNeg (s0_17.2.2.2.2.2.2.2.2.2.2.2.2.2.2.2.2.2.2.2.1 ((3 * record) + (nI k17)).toNatClampNeg), s0_17.2.2.2.2.2.2.2.2.2.2.2.2.2.2.2.2.2.2.2.2.1, s0_17.2.2.2.2.2.2.2.2.2.2.2.2.2.2.2.2.2.2.2.2.2.1, s0_17.2.2.2.2.2.2.2.2.2.2.2.2.2.2.2.2.2.2.2.2.2.2.1, s0_17.2.2.2.2.2.2.2.2.2.2.2.2.2.2.2.2.2.2.2.2.2.2.2.1, s0_17.2.2.2.2.2.2.2.2.2.2.2.2.2.2.2.2.2.2.2.2.2.2.2.2)) H := hP
          have hD : va_D (cq_in (cl_mdl Y amu mu)) (cl_mdl Y amu (s0_17.1, s0_17.2.1, s0_17.2.2.1, s0_17.2.2.2.1, s0_17.2.2.2.2.1, s0_17.2.2.2.2.2.1, s0_17.2.2.2.2.2.2.1, s0_17.2.2.2.2.2.2.2.1, s0_17.2.2.2.2.2.2.2.2.1, s0_17.2.2.2.2.2.2.2.2.2.1, s0_17.2.2.2.2.2.2.2.2.2.2.1, s0_17.2.2.2.2.2.2.2.2.2.2.2.1, s0_17.2.2.2.2.2.2.2.2.2.2.2.2.1, s0_17.2.2.2.2.2.2.2.2.2.2.2.2.2.1, s0_17.2.2.2.2.2.2.2.2.2.2.2.2.2.2.1, s0_17.2.2.2.2.2.2.2.2.2.2.2.2.2.2.2.1, s0_17.2.2.2.2.2.2.2.2.2.2.2.2.2.2.2.2.1, s0_17.2.2.2.2.2.2.2.2.2.2.2.2.2.2.2.2.2.1, s0_17.2.2.2.2.2.2.2.2.2.2.2.2.2.2.2.2.2.2.1, upd s0_17.2.2.2.2.2.2.2.2.2.2.2.2.2.2.2.2.2.2.2.1 x_13.toNatClampNeg (s0_17.2.2.2.2.2.2.2.2.2.2.2.2.2.2.2.2.2.2.2.1 ((3 * record) + (nI k17)).toNatClampNeg), s0_17.2.2.2.2.2.2.2.2.2.2.2.2.2.2.2.2.2.2.2.2.1, s0_17.2.2.2.2.2.2.2.2.2.2.2.2.2.2.2.2.2.2.2.2.2.1, s0_17.2.2.2.2.2.2.2.2.2.2.2.2.2.2.2.2.2.2.2.2.2.2.1, s0_17.2.2.2.2.2.2.2.2.2.2.2.2.2.2.2.2.2.2.2.2.2.2.2.1, s0_17.2.2.2.2.2.2.2.2.2.2.2.2.2.2.2.2.2.2.2.2.2.2.2.2)) := hD
          refine lv_iinc (v := nI (k17 + 1)) (lv' := [(3, .int (nI (k17 + 1))), (4, .int x_13), (0, .ref (amu 0)), (1, .int record), (2, .int other)]) hx hb dX7_doMerge_67 hl (k := 1) rfl (nI_1 k17) (by decide) rfl (fun ls hl => ?_)
          refine lv_goto (tgt := 17) hx hb dX7_doMerge_70 (by decide) ?_
          exact ih17 (k17 + 1) (s0_17.1, s0_17.2.1, s0_17.2.2.1, s0_17.2.2.2.1, s0_17.2.2.2.2.1, s0_17.2.2.2.2.2.1, s0_17.2.2.2.2.2.2.1, s0_17.2.2.2.2.2.2.2.1, s0_17.2.2.2.2.2.2.2.2.1, s0_17.2.2.2.2.2.2.2.2.2.1, s0_17.2.2.2.2.2.2.2.2.2.2.1, s0_17.2.2.2.2.2.2.2.2.2.2.2.1, s0_17.2.2.2.2.2.2.2.2.2.2.2.2.1, s0_17.2.2.2.2.2.2.2.2.2.2.2.2.2.1, s0_17.2.2.2.2.2.2.2.2.2.2.2.2.2.2.1, s0_17.2.2.2.2.2.2.2.2.2.2.2.2.2.2.2.1, s0_17.2.2.2.2.2.2.2.2.2.2.2.2.2.2.2.2.1, s0_17.2.2.2.2.2.2.2.2.2.2.2.2.2.2.2.2.2.1, s0_17.2.2.2.2.2.2.2.2.2.2.2.2.2.2.2.2.2.2.1, upd s0_17.2.2.2.2.2.2.2.2.2.2.2.2.2.2.2.2.2.2.2.1 x_13.toNatClampNeg (s0_17.2.2.2.2.2.2.2.2.2.2.2.2.2.2.2.2.2.2.2.1 ((3 * record) + (nI k17)).toNatClampNeg), s0_17.2.2.2.2.2.2.2.2.2.2.2.2.2.2.2.2.2.2.2.2.1, s0_17.2.2.2.2.2.2.2.2.2.2.2.2.2.2.2.2.2.2.2.2.2.1, s0_17.2.2.2.2.2.2.2.2.2.2.2.2.2.2.2.2.2.2.2.2.2.2.1, s0_17.2.2.2.2.2.2.2.2.2.2.2.2.2.2.2.2.2.2.2.2.2.2.2.1, s0_17.2.2.2.2.2.2.2.2.2.2.2.2.2.2.2.2.2.2.2.2.2.2.2.2) _ _ _ (by omega) (Eq.trans (by subst ex_13; simp only [m_X7_doMerge_lp17, eq_true h_1, eq_true h_2, eq_true h_14, eq_true c_15, eq_true h_16, ↓reduceIte, if_true, if_false]) hres17) hP hD hS (lv_sub hl [0, 2, 3, 4] rfl)
  exact lp17 3 0 (mu.1, mu.2.1, mu.2.2.1, mu.2.2.2.1, mu.2.2.2.2.1, mu.2.2.2.2.2.1, mu.2.2.2.2.2.2.1, mu.2.2.2.2.2.2.2.1, mu.2.2.2.2.2.2.2.2.1, mu.2.2.2.2.2.2.2.2.2.1, mu.2.2.2.2.2.2.2.2.2.2.1, mu.2.2.2.2.2.2.2.2.2.2.2.1, mu.2.2.2.2.2.2.2.2.2.2.2.2.1, mu.2.2.2.2.2.2.2.2.2.2.2.2.2.1, mu.2.2.2.2.2.2.2.2.2.2.2.2.2.2.1, mu.2.2.2.2.2.2.2.2.2.2.2.2.2.2.2.1, mu.2.2.2.2.2.2.2.2.2.2.2.2.2.2.2.2.1, mu.2.2.2.2.2.2.2.2.2.2.2.2.2.2.2.2.2.1, mu.2.2.2.2.2.2.2.2.2.2.2.2.2.2.2.2.2.2.1, mu.2.2.2.2.2.2.2.2.2.2.2.2.2.2.2.2.2.2.2.1, mu.2.2.2.2.2.2.2.2.2.2.2.2.2.2.2.2.2.2.2.2.1, mu.2.2.2.2.2.2.2.2.2.2.2.2.2.2.2.2.2.2.2.2.2.1, mu.2.2.2.2.2.2.2.2.2.2.2.2.2.2.2.2.2.2.2.2.2.2.1, upd mu.2.2.2.2.2.2.2.2.2.2.2.2.2.2.2.2.2.2.2.2.2.2.2.1 other.toNatClampNeg ((mu.2.2.2.2.2.2.2.2.2.2.2.2.2.2.2.2.2.2.2.2.2.2.2.1 other.toNatClampNeg) + (mu.2.2.2.2.2.2.2.2.2.2.2.2.2.2.2.2.2.2.2.2.2.2.2.1 record.toNatClampNeg)), mu.2.2.2.2.2.2.2.2.2.2.2.2.2.2.2.2.2.2.2.2.2.2.2.2) _ _ _ (Nat.zero_add _) qfin_3 hP hD hS (lv_sub hl [0, 1, 2, 3] rfl)

def m_X7_perform (mu : MdlS) (at1 : Int32) : Option (MdlS) := (if inb at1 180 = true then (let x_2 := mu.2.2.2.2.2.2.2.2.2.2.2.2.2.2.2.2.1 at1.toNatClampNeg; (let x_3 := mu.2.2.2.2.2.2.2.2.2.2.2.2.2.2.2.2.2.1 at1.toNatClampNeg; (if mu.2.2.2.2.2.2.2.2.2.2.2.2.2.2.2.1 at1.toNatClampNeg = 0 then (m_X7_doLoad mu x_2).bind (fun r_19 => some r_19) else (if inb x_2 80 = true then (if mu.2.2.2.2.2.2.2.2.2.2.2.2.2.2.2.2.2.2.1 x_2.toNatClampNeg = 0 then some mu else (if mu.2.2.2.2.2.2.2.2.2.2.2.2.2.2.2.1 at1.toNatClampNeg = 3 then some (mu.1, mu.2.1, mu.2.2.1, mu.2.2.2.1, mu.2.2.2.2.1, mu.2.2.2.2.2.1, mu.2.2.2.2.2.2.1, mu.2.2.2.2.2.2.2.1, mu.2.2.2.2.2.2.2.2.1, mu.2.2.2.2.2.2.2.2.2.1, mu.2.2.2.2.2.2.2.2.2.2.1, mu.2.2.2.2.2.2.2.2.2.2.2.1, mu.2.2.2.2.2.2.2.2.2.2.2.2.1, mu.2.2.2.2.2.2.2.2.2.2.2.2.2.1, mu.2.2.2.2.2.2.2.2.2.2.2.2.2.2.1, mu.2.2.2.2.2.2.2.2.2.2.2.2.2.2.2.1, mu.2.2.2.2.2.2.2.2.2.2.2.2.2.2.2.2.1, mu.2.2.2.2.2.2.2.2.2.2.2.2.2.2.2.2.2.1, mu.2.2.2.2.2.2.2.2.2.2.2.2.2.2.2.2.2.2.1, mu.2.2.2.2.2.2.2.2.2.2.2.2.2.2.2.2.2.2.2.1, mu.2.2.2.2.2.2.2.2.2.2.2.2.2.2.2.2.2.2.2.2.1, mu.2.2.2.2.2.2.2.2.2.2.2.2.2.2.2.2.2.2.2.2.2.1, mu.2.2.2.2.2.2.2.2.2.2.2.2.2.2.2.2.2.2.2.2.2.2.1, upd mu.2.2.2.2.2.2.2.2.2.2.2.2.2.2.2.2.2.2.2.2.2.2.2.1 x_2.toNatClampNeg ((mu.2.2.2.2.2.2.2.2.2.2.2.2.2.2.2.2.2.2.2.2.2.2.2.1 x_2.toNatClampNeg) + 1), mu.2.2.2.2.2.2.2.2.2.2.2.2.2.2.2.2.2.2.2.2.2.2.2.2) else (if mu.2.2.2.2.2.2.2.2.2.2.2.2.2.2.2.1 at1.toNatClampNeg = 4 then (if inb x_3 80 = true then (if mu.2.2.2.2.2.2.2.2.2.2.2.2.2.2.2.2.2.2.1 x_3.toNatClampNeg = 0 then some mu else (m_X7_doMerge mu x_2 x_3).bind (fun r_18 => some r_18)) else none) else (if mu.2.2.2.2.2.2.2.2.2.2.2.2.2.2.2.1 at1.toNatClampNeg = 1 then (if inb ((4 * x_2) + x_3) 320 = true then some (mu.1, mu.2.1, mu.2.2.1, mu.2.2.2.1, mu.2.2.2.2.1, mu.2.2.2.2.2.1, mu.2.2.2.2.2.2.1, mu.2.2.2.2.2.2.2.1, mu.2.2.2.2.2.2.2.2.1, mu.2.2.2.2.2.2.2.2.2.1, mu.2.2.2.2.2.2.2.2.2.2.1, mu.2.2.2.2.2.2.2.2.2.2.2.1, mu.2.2.2.2.2.2.2.2.2.2.2.2.1, mu.2.2.2.2.2.2.2.2.2.2.2.2.2.1, mu.2.2.2.2.2.2.2.2.2.2.2.2.2.2.1, mu.2.2.2.2.2.2.2.2.2.2.2.2.2.2.2.1, mu.2.2.2.2.2.2.2.2.2.2.2.2.2.2.2.2.1, mu.2.2.2.2.2.2.2.2.2.2.2.2.2.2.2.2.2.1, mu.2.2.2.2.2.2.2.2.2.2.2.2.2.2.2.2.2.2.1, mu.2.2.2.2.2.2.2.2.2.2.2.2.2.2.2.2.2.2.2.1, mu.2.2.2.2.2.2.2.2.2.2.2.2.2.2.2.2.2.2.2.2.1, mu.2.2.2.2.2.2.2.2.2.2.2.2.2.2.2.2.2.2.2.2.2.1, upd mu.2.2.2.2.2.2.2.2.2.2.2.2.2.2.2.2.2.2.2.2.2.2.1 ((4 * x_2) + x_3).toNatClampNeg (vp_nar .boolean 1), mu.2.2.2.2.2.2.2.2.2.2.2.2.2.2.2.2.2.2.2.2.2.2.2.1, mu.2.2.2.2.2.2.2.2.2.2.2.2.2.2.2.2.2.2.2.2.2.2.2.2) else none) else (if inb ((4 * x_2) + x_3) 320 = true then some (mu.1, mu.2.1, mu.2.2.1, mu.2.2.2.1, mu.2.2.2.2.1, mu.2.2.2.2.2.1, mu.2.2.2.2.2.2.1, mu.2.2.2.2.2.2.2.1, mu.2.2.2.2.2.2.2.2.1, mu.2.2.2.2.2.2.2.2.2.1, mu.2.2.2.2.2.2.2.2.2.2.1, mu.2.2.2.2.2.2.2.2.2.2.2.1, mu.2.2.2.2.2.2.2.2.2.2.2.2.1, mu.2.2.2.2.2.2.2.2.2.2.2.2.2.1, mu.2.2.2.2.2.2.2.2.2.2.2.2.2.2.1, mu.2.2.2.2.2.2.2.2.2.2.2.2.2.2.2.1, mu.2.2.2.2.2.2.2.2.2.2.2.2.2.2.2.2.1, mu.2.2.2.2.2.2.2.2.2.2.2.2.2.2.2.2.2.1, mu.2.2.2.2.2.2.2.2.2.2.2.2.2.2.2.2.2.2.1, mu.2.2.2.2.2.2.2.2.2.2.2.2.2.2.2.2.2.2.2.1, mu.2.2.2.2.2.2.2.2.2.2.2.2.2.2.2.2.2.2.2.2.1, mu.2.2.2.2.2.2.2.2.2.2.2.2.2.2.2.2.2.2.2.2.2.1, upd mu.2.2.2.2.2.2.2.2.2.2.2.2.2.2.2.2.2.2.2.2.2.2.1 ((4 * x_2) + x_3).toNatClampNeg (vp_nar .boolean 0), mu.2.2.2.2.2.2.2.2.2.2.2.2.2.2.2.2.2.2.2.2.2.2.2.1, mu.2.2.2.2.2.2.2.2.2.2.2.2.2.2.2.2.2.2.2.2.2.2.2.2) else none))))) else none)))) else none)
set_option maxHeartbeats 4000000 in
set_option maxRecDepth 100000 in
theorem ct_X7_perform (l : Launch) (D : va_G) (Y : cq_Y) (amu : Nat → Nat) (mu : MdlS) (at1 : Int32) (r : MdlS) (hm : m_X7_perform mu at1 = some r) : cq_MW l yX7_perform wsX7_perform (cq_rm 2 48) D Y (cl_mdl Y amu mu) [.ref (amu 0), .int at1] (none) (cl_mdl Y amu r) := by
  refine cq_body (cc := cX7_perform) (maxL := 4) (ret := none) (by decide) rfl (Nat.le_of_ble_eq_true rfl) ?_
  intro p e s m below meth c hE hP hG hD ls hl
  obtain ⟨hx, hb, hr, hml, hts, hown, hnm, hlocks⟩ := hE
  have hown : s.vm.findClass RX7 = some m.cls := hown
  have hS : va_S (cq_in (cl_mdl Y amu mu)) s.heap s.heap [] := va_S.rf
  have hl : lv_has ls 4 [(0, .ref (amu 0)), (1, .int at1)] := hl
  refine lv_aload_n hx hb dX7_perform_0 rfl (lv_at hl 0 rfl) ?_
  refine va_get (D := D) (ci := 7) (v := .ref (amu 13)) (C := RX7) (T := TX7) (N := 25) hx hb hts (fun _ h => List.mem_cons_of_mem _ (List.mem_append_right _ h)) hown hG.1 hP 0 rfl rfl 16 (by decide) (hts (.fieldLink RX7 47 "CatalogueLoaderModel" "ones" "[I") (List.mem_of_getElem? (i := 1) rfl)) (fun _ h9 => h9) rfl dX7_perform_1 ?_
  refine lv_iload_n hx hb dX7_perform_4 rfl (lv_at hl 1 rfl) ?_
  have h_1 : inb at1 180 = true := by by_cases h9 : inb at1 180 = true; exact h9; exfalso; simp only [m_X7_perform, eq_false h9, ↓reduceIte, if_true, if_false] at hm; cases hm
  refine va_iald hx hb hG.1 hP 13 0 rfl rfl (inb_in h_1) dX7_perform_5 ?_
  refine lv_topi (fun x_2 ex_2 => ?_)
  refine lv_istore_n (lv' := [(2, .int x_2), (0, .ref (amu 0)), (1, .int at1)]) hx hb dX7_perform_6 rfl hl (by decide) rfl (fun ls hl => ?_)
  refine lv_aload_n hx hb dX7_perform_7 rfl (lv_at hl 1 rfl) ?_
  refine va_get (D := D) (ci := 7) (v := .ref (amu 14)) (C := RX7) (T := TX7) (N := 25) hx hb hts (fun _ h => List.mem_cons_of_mem _ (List.mem_append_right _ h)) hown hG.1 hP 0 rfl rfl 17 (by decide) (hts (.fieldLink RX7 50 "CatalogueLoaderModel" "others" "[I") (List.mem_of_getElem? (i := 2) rfl)) (fun _ h9 => h9) rfl dX7_perform_8 ?_
  refine lv_iload_n hx hb dX7_perform_11 rfl (lv_at hl 2 rfl) ?_
  refine va_iald hx hb hG.1 hP 14 0 rfl rfl (inb_in h_1) dX7_perform_12 ?_
  refine lv_topi (fun x_3 ex_3 => ?_)
  refine lv_istore_n (lv' := [(3, .int x_3), (2, .int x_2), (0, .ref (amu 0)), (1, .int at1)]) hx hb dX7_perform_13 rfl hl (by decide) rfl (fun ls hl => ?_)
  refine lv_aload_n hx hb dX7_perform_14 rfl (lv_at hl 2 rfl) ?_
  refine va_get (D := D) (ci := 7) (v := .ref (amu 12)) (C := RX7) (T := TX7) (N := 25) hx hb hts (fun _ h => List.mem_cons_of_mem _ (List.mem_append_right _ h)) hown hG.1 hP 0 rfl rfl 15 (by decide) (hts (.fieldLink RX7 44 "CatalogueLoaderModel" "kinds" "[I") (List.mem_of_getElem? (i := 3) rfl)) (fun _ h9 => h9) rfl dX7_perform_15 ?_
  refine lv_iload_n hx hb dX7_perform_18 rfl (lv_at hl 3 rfl) ?_
  refine va_iald hx hb hG.1 hP 12 0 rfl rfl (inb_in h_1) dX7_perform_19 ?_
  refine lv_if_ne (tgt := 31) hx hb dX7_perform_20 (by decide) (fun c_4 => ?_) (fun c_4 => ?_)
  · refine lv_aload_n hx hb dX7_perform_31 rfl (lv_at hl 2 rfl) ?_
    refine va_get (D := D) (ci := 7) (v := .ref (amu 15)) (C := RX7) (T := TX7) (N := 25) hx hb hts (fun _ h => List.mem_cons_of_mem _ (List.mem_append_right _ h)) hown hG.1 hP 0 rfl rfl 18 (by decide) (hts (.fieldLink RX7 53 "CatalogueLoaderModel" "isIn" "[Z") (List.mem_of_getElem? (i := 4) rfl)) (fun _ h9 => h9) rfl dX7_perform_32 ?_
    refine lv_iload_n hx hb dX7_perform_35 rfl (lv_at hl 1 rfl) ?_
    have h_5 : inb x_2 80 = true := by by_cases h9 : inb x_2 80 = true; exact h9; exfalso; subst ex_3; subst ex_2; simp only [m_X7_perform, eq_true h_1, eq_false c_4, eq_false h9, ↓reduceIte, if_true, if_false] at hm; cases hm
    refine va_zald hx hb hG.1 hP 15 1 rfl rfl (inb_in h_5) dX7_perform_36 ?_
    refine lv_if_eq (tgt := 63) hx hb dX7_perform_37 (by decide) (fun c_6 => ?_) (fun c_6 => ?_)
    · refine lv_aload_n hx hb dX7_perform_63 rfl (lv_at hl 2 rfl) ?_
      refine va_get (D := D) (ci := 7) (v := .ref (amu 15)) (C := RX7) (T := TX7) (N := 25) hx hb hts (fun _ h => List.mem_cons_of_mem _ (List.mem_append_right _ h)) hown hG.1 hP 0 rfl rfl 18 (by decide) (hts (.fieldLink RX7 53 "CatalogueLoaderModel" "isIn" "[Z") (List.mem_of_getElem? (i := 4) rfl)) (fun _ h9 => h9) rfl dX7_perform_64 ?_
      refine lv_iload_n hx hb dX7_perform_67 rfl (lv_at hl 1 rfl) ?_
      refine va_zald hx hb hG.1 hP 15 1 rfl rfl (inb_in h_5) dX7_perform_68 ?_
      refine lv_if_eq (tgt := 100) hx hb dX7_perform_69 (by decide) (fun c_7 => ?_) (fun c_7 => ?_)
      · refine lv_aload_n hx hb dX7_perform_100 rfl (lv_at hl 2 rfl) ?_
        refine va_get (D := D) (ci := 7) (v := .ref (amu 15)) (C := RX7) (T := TX7) (N := 25) hx hb hts (fun _ h => List.mem_cons_of_mem _ (List.mem_append_right _ h)) hown hG.1 hP 0 rfl rfl 18 (by decide) (hts (.fieldLink RX7 53 "CatalogueLoaderModel" "isIn" "[Z") (List.mem_of_getElem? (i := 4) rfl)) (fun _ h9 => h9) rfl dX7_perform_101 ?_
        refine lv_iload_n hx hb dX7_perform_104 rfl (lv_at hl 1 rfl) ?_
        refine va_zald hx hb hG.1 hP 15 1 rfl rfl (inb_in h_5) dX7_perform_105 ?_
        refine lv_if_eq (tgt := 134) hx hb dX7_perform_106 (by decide) (fun c_8 => ?_) (fun c_8 => ?_)
        · have h9 : some mu = some r := by have h8 := hm; subst ex_3; subst ex_2; simp only [m_X7_perform, eq_true h_1, eq_false c_4, eq_true h_5, eq_true c_6, ↓reduceIte, if_true, if_false] at h8; exact h8
          have h10 := Option.some.inj h9
          subst h10
          exact cq_wV (wl := cl_mdl Y amu mu) hx hb hr hlocks hP hS rfl rfl dX7_perform_134
        · exact absurd c_6 c_8
      · exact absurd c_6 c_7
    · refine lv_aload_n hx hb dX7_perform_40 rfl (lv_at hl 2 rfl) ?_
      refine va_get (D := D) (ci := 7) (v := .ref (amu 12)) (C := RX7) (T := TX7) (N := 25) hx hb hts (fun _ h => List.mem_cons_of_mem _ (List.mem_append_right _ h)) hown hG.1 hP 0 rfl rfl 15 (by decide) (hts (.fieldLink RX7 44 "CatalogueLoaderModel" "kinds" "[I") (List.mem_of_getElem? (i := 3) rfl)) (fun _ h9 => h9) rfl dX7_perform_41 ?_
      refine lv_iload_n hx hb dX7_perform_44 rfl (lv_at hl 3 rfl) ?_
      refine va_iald hx hb hG.1 hP 12 0 rfl rfl (inb_in h_1) dX7_perform_45 ?_
      refine lv_iconst (v := 3) hx hb dX7_perform_46 (by decide) ?_
      refine lv_icmp_ne (tgt := 63) hx hb dX7_perform_47 (by decide) (fun c_9 => ?_) (fun c_9 => ?_)
      · refine lv_aload_n hx hb dX7_perform_63 rfl (lv_at hl 2 rfl) ?_
        refine va_get (D := D) (ci := 7) (v := .ref (amu 15)) (C := RX7) (T := TX7) (N := 25) hx hb hts (fun _ h => List.mem_cons_of_mem _ (List.mem_append_right _ h)) hown hG.1 hP 0 rfl rfl 18 (by decide) (hts (.fieldLink RX7 53 "CatalogueLoaderModel" "isIn" "[Z") (List.mem_of_getElem? (i := 4) rfl)) (fun _ h9 => h9) rfl dX7_perform_64 ?_
        refine lv_iload_n hx hb dX7_perform_67 rfl (lv_at hl 1 rfl) ?_
        refine va_zald hx hb hG.1 hP 15 1 rfl rfl (inb_in h_5) dX7_perform_68 ?_
        refine lv_if_eq (tgt := 100) hx hb dX7_perform_69 (by decide) (fun c_10 => ?_) (fun c_10 => ?_)
        · exact absurd c_10 c_6
        · refine lv_aload_n hx hb dX7_perform_72 rfl (lv_at hl 2 rfl) ?_
          refine va_get (D := D) (ci := 7) (v := .ref (amu 12)) (C := RX7) (T := TX7) (N := 25) hx hb hts (fun _ h => List.mem_cons_of_mem _ (List.mem_append_right _ h)) hown hG.1 hP 0 rfl rfl 15 (by decide) (hts (.fieldLink RX7 44 "CatalogueLoaderModel" "kinds" "[I") (List.mem_of_getElem? (i := 3) rfl)) (fun _ h9 => h9) rfl dX7_perform_73 ?_
          refine lv_iload_n hx hb dX7_perform_76 rfl (lv_at hl 3 rfl) ?_
          refine va_iald hx hb hG.1 hP 12 0 rfl rfl (inb_in h_1) dX7_perform_77 ?_
          refine lv_iconst (v := 4) hx hb dX7_perform_78 (by decide) ?_
          refine lv_icmp_ne (tgt := 100) hx hb dX7_perform_79 (by decide) (fun c_11 => ?_) (fun c_11 => ?_)
          · refine lv_aload_n hx hb dX7_perform_100 rfl (lv_at hl 2 rfl) ?_
            refine va_get (D := D) (ci := 7) (v := .ref (amu 15)) (C := RX7) (T := TX7) (N := 25) hx hb hts (fun _ h => List.mem_cons_of_mem _ (List.mem_append_right _ h)) hown hG.1 hP 0 rfl rfl 18 (by decide) (hts (.fieldLink RX7 53 "CatalogueLoaderModel" "isIn" "[Z") (List.mem_of_getElem? (i := 4) rfl)) (fun _ h9 => h9) rfl dX7_perform_101 ?_
            refine lv_iload_n hx hb dX7_perform_104 rfl (lv_at hl 1 rfl) ?_
            refine va_zald hx hb hG.1 hP 15 1 rfl rfl (inb_in h_5) dX7_perform_105 ?_
            refine lv_if_eq (tgt := 134) hx hb dX7_perform_106 (by decide) (fun c_12 => ?_) (fun c_12 => ?_)
            · exact absurd c_12 c_6
            · refine lv_aload_n hx hb dX7_perform_109 rfl (lv_at hl 2 rfl) ?_
              refine va_get (D := D) (ci := 7) (v := .ref (amu 19)) (C := RX7) (T := TX7) (N := 25) hx hb hts (fun _ h => List.mem_cons_of_mem _ (List.mem_append_right _ h)) hown hG.1 hP 0 rfl rfl 22 (by decide) (hts (.fieldLink RX7 65 "CatalogueLoaderModel" "isKept" "[Z") (List.mem_of_getElem? (i := 6) rfl)) (fun _ h9 => h9) rfl dX7_perform_110 ?_
              refine lv_iconst (v := 4) hx hb dX7_perform_113 (by decide) ?_
              refine lv_iload_n hx hb dX7_perform_114 rfl (lv_at hl 1 rfl) ?_
              refine lv_imul hx hb dX7_perform_115 ?_
              refine lv_iload_n hx hb dX7_perform_116 rfl (lv_at hl 0 rfl) ?_
              refine lv_iadd hx hb dX7_perform_117 ?_
              refine lv_aload_n hx hb dX7_perform_118 rfl (lv_at hl 2 rfl) ?_
              refine va_get (D := D) (ci := 7) (v := .ref (amu 12)) (C := RX7) (T := TX7) (N := 25) hx hb hts (fun _ h => List.mem_cons_of_mem _ (List.mem_append_right _ h)) hown hG.1 hP 0 rfl rfl 15 (by decide) (hts (.fieldLink RX7 44 "CatalogueLoaderModel" "kinds" "[I") (List.mem_of_getElem? (i := 3) rfl)) (fun _ h9 => h9) rfl dX7_perform_119 ?_
              refine lv_iload_n hx hb dX7_perform_122 rfl (lv_at hl 3 rfl) ?_
              refine va_iald hx hb hG.1 hP 12 0 rfl rfl (inb_in h_1) dX7_perform_123 ?_
              refine lv_iconst (v := 1) hx hb dX7_perform_124 (by decide) ?_
              refine lv_icmp_ne (tgt := 132) hx hb dX7_perform_125 (by decide) (fun c_13 => ?_) (fun c_13 => ?_)
              · refine lv_iconst (v := 0) hx hb dX7_perform_132 (by decide) ?_
                have h_14 : inb ((4 * x_2) + x_3) 320 = true := by by_cases h9 : inb ((4 * x_2) + x_3) 320 = true; exact h9; exfalso; subst ex_3; subst ex_2; simp only [m_X7_perform, eq_true h_1, eq_false c_4, eq_true h_5, eq_false c_6, eq_false c_9, eq_false c_11, eq_false c_13, eq_false h9, ↓reduceIte, if_true, if_false] at hm; cases hm
                refine va_zast hx hb hG.1 hP hD hS 19 1 rfl rfl (inb_in h_14) dX7_perform_133 (fun H locs hP hD hS => ?_)
                have hP : va_P D vwCl (cl_mdl Y amu (mu.1, mu.2.1, mu.2.2.1, mu.2.2.2.1, mu.2.2.2.2.1, mu.2.2.2.2.2.1, mu.2.2.2.2.2.2.1, mu.2.2.2.2.2.2.2.1, mu.2.2.2.2.2.2.2.2.1, mu.2.2.2.2.2.2.2.2.2.1, mu.2.2.2.2.2.2.2.2.2.2.1, mu.2.2.2.2.2.2.2.2.2.2.2.1, mu.2.2.2.2.2.2.2.2.2.2.2.2.1, mu.2.2.2.2.2.2.2.2.2.2.2.2.2.1, mu.2.2.2.2.2.2.2.2.2.2.2.2.2.2.1, mu.2.2.2.2.2.2.2.2.2.2.2.2.2.2.2.1, mu.2.2.2.2.2.2.2.2.2.2.2.2.2.2.2.2.1, mu.2.2.2.2.2.2.2.2.2.2.2.2.2.2.2.2.2.1, mu.2.2.2.2.2.2.2.2.2.2.2.2.2.2.2.2.2.2.1, mu.2.2.2.2.2.2.2.2.2.2.2.2.2.2.2.2.2.2.2.1, mu.2.2.2.2.2.2.2.2.2.2.2.2.2.2.2.2.2.2.2.2.1, mu.2.2.2.2.2.2.2.2.2.2.2.2.2.2.2.2.2.2.2.2.2.1, upd mu.2.2.2.2.2.2.2.2.2.2.2.2.2.2.2.2.2.2.2.2.2.2.1 ((4 * x_2) + x_3).toNatClampNeg (vp_nar .boolean 0), mu.2.2.2.2.2.2.2.2.2.2.2.2.2.2.2.2.2.2.2.2.2.2.2.1, mu.2.2.2.2.2.2.2.2.2.2.2.2.2.2.2.2.2.2.2.2.2.2.2.2)) H := hP
                have hD : va_D (cq_in (cl_mdl Y amu mu)) (cl_mdl Y amu (mu.1, mu.2.1, mu.2.2.1, mu.2.2.2.1, mu.2.2.2.2.1, mu.2.2.2.2.2.1, mu.2.2.2.2.2.2.1, mu.2.2.2.2.2.2.2.1, mu.2.2.2.2.2.2.2.2.1, mu.2.2.2.2.2.2.2.2.2.1, mu.2.2.2.2.2.2.2.2.2.2.1, mu.2.2.2.2.2.2.2.2.2.2.2.1, mu.2.2.2.2.2.2.2.2.2.2.2.2.1, mu.2.2.2.2.2.2.2.2.2.2.2.2.2.1, mu.2.2.2.2.2.2.2.2.2.2.2.2.2.2.1, mu.2.2.2.2.2.2.2.2.2.2.2.2.2.2.2.1, mu.2.2.2.2.2.2.2.2.2.2.2.2.2.2.2.2.1, mu.2.2.2.2.2.2.2.2.2.2.2.2.2.2.2.2.2.1, mu.2.2.2.2.2.2.2.2.2.2.2.2.2.2.2.2.2.2.1, mu.2.2.2.2.2.2.2.2.2.2.2.2.2.2.2.2.2.2.2.1, mu.2.2.2.2.2.2.2.2.2.2.2.2.2.2.2.2.2.2.2.2.1, mu.2.2.2.2.2.2.2.2.2.2.2.2.2.2.2.2.2.2.2.2.2.1, upd mu.2.2.2.2.2.2.2.2.2.2.2.2.2.2.2.2.2.2.2.2.2.2.1 ((4 * x_2) + x_3).toNatClampNeg (vp_nar .boolean 0), mu.2.2.2.2.2.2.2.2.2.2.2.2.2.2.2.2.2.2.2.2.2.2.2.1, mu.2.2.2.2.2.2.2.2.2.2.2.2.2.2.2.2.2.2.2.2.2.2.2.2)) := hD
                have h9 : some (mu.1, mu.2.1, mu.2.2.1, mu.2.2.2.1, mu.2.2.2.2.1, mu.2.2.2.2.2.1, mu.2.2.2.2.2.2.1, mu.2.2.2.2.2.2.2.1, mu.2.2.2.2.2.2.2.2.1, mu.2.2.2.2.2.2.2.2.2.1, mu.2.2.2.2.2.2.2.2.2.2.1, mu.2.2.2.2.2.2.2.2.2.2.2.1, mu.2.2.2.2.2.2.2.2.2.2.2.2.1, mu.2.2.2.2.2.2.2.2.2.2.2.2.2.1, mu.2.2.2.2.2.2.2.2.2.2.2.2.2.2.1, mu.2.2.2.2.2.2.2.2.2.2.2.2.2.2.2.1, mu.2.2.2.2.2.2.2.2.2.2.2.2.2.2.2.2.1, mu.2.2.2.2.2.2.2.2.2.2.2.2.2.2.2.2.2.1, mu.2.2.2.2.2.2.2.2.2.2.2.2.2.2.2.2.2.2.1, mu.2.2.2.2.2.2.2.2.2.2.2.2.2.2.2.2.2.2.2.1, mu.2.2.2.2.2.2.2.2.2.2.2.2.2.2.2.2.2.2.2.2.1, mu.2.2.2.2.2.2.2.2.2.2.2.2.2.2.2.2.2.2.2.2.2.1, upd mu.2.2.2.2.2.2.2.2.2.2.2.2.2.2.2.2.2.2.2.2.2.2.1 ((4 * x_2) + x_3).toNatClampNeg (vp_nar .boolean 0), mu.2.2.2.2.2.2.2.2.2.2.2.2.2.2.2.2.2.2.2.2.2.2.2.1, mu.2.2.2.2.2.2.2.2.2.2.2.2.2.2.2.2.2.2.2.2.2.2.2.2) = some r := by have h8 := hm; subst ex_3; subst ex_2; simp only [m_X7_perform, eq_true h_1, eq_false c_4, eq_true h_5, eq_false c_6, eq_false c_9, eq_false c_11, eq_false c_13, eq_true h_14, ↓reduceIte, if_true, if_false] at h8; exact h8
                have h10 := Option.some.inj h9
                subst h10
                exact cq_wV (wl := cl_mdl Y amu (mu.1, mu.2.1, mu.2.2.1, mu.2.2.2.1, mu.2.2.2.2.1, mu.2.2.2.2.2.1, mu.2.2.2.2.2.2.1, mu.2.2.2.2.2.2.2.1, mu.2.2.2.2.2.2.2.2.1, mu.2.2.2.2.2.2.2.2.2.1, mu.2.2.2.2.2.2.2.2.2.2.1, mu.2.2.2.2.2.2.2.2.2.2.2.1, mu.2.2.2.2.2.2.2.2.2.2.2.2.1, mu.2.2.2.2.2.2.2.2.2.2.2.2.2.1, mu.2.2.2.2.2.2.2.2.2.2.2.2.2.2.1, mu.2.2.2.2.2.2.2.2.2.2.2.2.2.2.2.1, mu.2.2.2.2.2.2.2.2.2.2.2.2.2.2.2.2.1, mu.2.2.2.2.2.2.2.2.2.2.2.2.2.2.2.2.2.1, mu.2.2.2.2.2.2.2.2.2.2.2.2.2.2.2.2.2.2.1, mu.2.2.2.2.2.2.2.2.2.2.2.2.2.2.2.2.2.2.2.1, mu.2.2.2.2.2.2.2.2.2.2.2.2.2.2.2.2.2.2.2.2.1, mu.2.2.2.2.2.2.2.2.2.2.2.2.2.2.2.2.2.2.2.2.2.1, upd mu.2.2.2.2.2.2.2.2.2.2.2.2.2.2.2.2.2.2.2.2.2.2.1 ((4 * x_2) + x_3).toNatClampNeg (vp_nar .boolean 0), mu.2.2.2.2.2.2.2.2.2.2.2.2.2.2.2.2.2.2.2.2.2.2.2.1, mu.2.2.2.2.2.2.2.2.2.2.2.2.2.2.2.2.2.2.2.2.2.2.2.2)) hx hb hr hlocks hP hS rfl rfl dX7_perform_134
              · refine lv_iconst (v := 1) hx hb dX7_perform_128 (by decide) ?_
                refine lv_goto (tgt := 133) hx hb dX7_perform_129 (by decide) ?_
                have h_15 : inb ((4 * x_2) + x_3) 320 = true := by by_cases h9 : inb ((4 * x_2) + x_3) 320 = true; exact h9; exfalso; subst ex_3; subst ex_2; simp only [m_X7_perform, eq_true h_1, eq_false c_4, eq_true h_5, eq_false c_6, eq_false c_9, eq_false c_11, eq_true c_13, eq_false h9, ↓reduceIte, if_true, if_false] at hm; cases hm
                refine va_zast hx hb hG.1 hP hD hS 19 1 rfl rfl (inb_in h_15) dX7_perform_133 (fun H locs hP hD hS => ?_)
                have hP : va_P D vwCl (cl_mdl Y amu (mu.1, mu.2.1, mu.2.2.1, mu.2.2.2.1, mu.2.2.2.2.1, mu.2.2.2.2.2.1, mu.2.2.2.2.2.2.1, mu.2.2.2.2.2.2.2.1, mu.2.2.2.2.2.2.2.2.1, mu.2.2.2.2.2.2.2.2.2.1, mu.2.2.2.2.2.2.2.2.2.2.1, mu.2.2.2.2.2.2.2.2.2.2.2.1, mu.2.2.2.2.2.2.2.2.2.2.2.2.1, mu.2.2.2.2.2.2.2.2.2.2.2.2.2.1, mu.2.2.2.2.2.2.2.2.2.2.2.2.2.2.1, mu.2.2.2.2.2.2.2.2.2.2.2.2.2.2.2.1, mu.2.2.2.2.2.2.2.2.2.2.2.2.2.2.2.2.1, mu.2.2.2.2.2.2.2.2.2.2.2.2.2.2.2.2.2.1, mu.2.2.2.2.2.2.2.2.2.2.2.2.2.2.2.2.2.2.1, mu.2.2.2.2.2.2.2.2.2.2.2.2.2.2.2.2.2.2.2.1, mu.2.2.2.2.2.2.2.2.2.2.2.2.2.2.2.2.2.2.2.2.1, mu.2.2.2.2.2.2.2.2.2.2.2.2.2.2.2.2.2.2.2.2.2.1, upd mu.2.2.2.2.2.2.2.2.2.2.2.2.2.2.2.2.2.2.2.2.2.2.1 ((4 * x_2) + x_3).toNatClampNeg (vp_nar .boolean 1), mu.2.2.2.2.2.2.2.2.2.2.2.2.2.2.2.2.2.2.2.2.2.2.2.1, mu.2.2.2.2.2.2.2.2.2.2.2.2.2.2.2.2.2.2.2.2.2.2.2.2)) H := hP
                have hD : va_D (cq_in (cl_mdl Y amu mu)) (cl_mdl Y amu (mu.1, mu.2.1, mu.2.2.1, mu.2.2.2.1, mu.2.2.2.2.1, mu.2.2.2.2.2.1, mu.2.2.2.2.2.2.1, mu.2.2.2.2.2.2.2.1, mu.2.2.2.2.2.2.2.2.1, mu.2.2.2.2.2.2.2.2.2.1, mu.2.2.2.2.2.2.2.2.2.2.1, mu.2.2.2.2.2.2.2.2.2.2.2.1, mu.2.2.2.2.2.2.2.2.2.2.2.2.1, mu.2.2.2.2.2.2.2.2.2.2.2.2.2.1, mu.2.2.2.2.2.2.2.2.2.2.2.2.2.2.1, mu.2.2.2.2.2.2.2.2.2.2.2.2.2.2.2.1, mu.2.2.2.2.2.2.2.2.2.2.2.2.2.2.2.2.1, mu.2.2.2.2.2.2.2.2.2.2.2.2.2.2.2.2.2.1, mu.2.2.2.2.2.2.2.2.2.2.2.2.2.2.2.2.2.2.1, mu.2.2.2.2.2.2.2.2.2.2.2.2.2.2.2.2.2.2.2.1, mu.2.2.2.2.2.2.2.2.2.2.2.2.2.2.2.2.2.2.2.2.1, mu.2.2.2.2.2.2.2.2.2.2.2.2.2.2.2.2.2.2.2.2.2.1, upd mu.2.2.2.2.2.2.2.2.2.2.2.2.2.2.2.2.2.2.2.2.2.2.1 ((4 * x_2) + x_3).toNatClampNeg (vp_nar .boolean 1), mu.2.2.2.2.2.2.2.2.2.2.2.2.2.2.2.2.2.2.2.2.2.2.2.1, mu.2.2.2.2.2.2.2.2.2.2.2.2.2.2.2.2.2.2.2.2.2.2.2.2)) := hD
                have h9 : some (mu.1, mu.2.1, mu.2.2.1, mu.2.2.2.1, mu.2.2.2.2.1, mu.2.2.2.2.2.1, mu.2.2.2.2.2.2.1, mu.2.2.2.2.2.2.2.1, mu.2.2.2.2.2.2.2.2.1, mu.2.2.2.2.2.2.2.2.2.1, mu.2.2.2.2.2.2.2.2.2.2.1, mu.2.2.2.2.2.2.2.2.2.2.2.1, mu.2.2.2.2.2.2.2.2.2.2.2.2.1, mu.2.2.2.2.2.2.2.2.2.2.2.2.2.1, mu.2.2.2.2.2.2.2.2.2.2.2.2.2.2.1, mu.2.2.2.2.2.2.2.2.2.2.2.2.2.2.2.1, mu.2.2.2.2.2.2.2.2.2.2.2.2.2.2.2.2.1, mu.2.2.2.2.2.2.2.2.2.2.2.2.2.2.2.2.2.1, mu.2.2.2.2.2.2.2.2.2.2.2.2.2.2.2.2.2.2.1, mu.2.2.2.2.2.2.2.2.2.2.2.2.2.2.2.2.2.2.2.1, mu.2.2.2.2.2.2.2.2.2.2.2.2.2.2.2.2.2.2.2.2.1, mu.2.2.2.2.2.2.2.2.2.2.2.2.2.2.2.2.2.2.2.2.2.1, upd mu.2.2.2.2.2.2.2.2.2.2.2.2.2.2.2.2.2.2.2.2.2.2.1 ((4 * x_2) + x_3).toNatClampNeg (vp_nar .boolean 1), mu.2.2.2.2.2.2.2.2.2.2.2.2.2.2.2.2.2.2.2.2.2.2.2.1, mu.2.2.2.2.2.2.2.2.2.2.2.2.2.2.2.2.2.2.2.2.2.2.2.2) = some r := by have h8 := hm; subst ex_3; subst ex_2; simp only [m_X7_perform, eq_true h_1, eq_false c_4, eq_true h_5, eq_false c_6, eq_false c_9, eq_false c_11, eq_true c_13, eq_true h_15, ↓reduceIte, if_true, if_false] at h8; exact h8
                have h10 := Option.some.inj h9
                subst h10
                exact cq_wV (wl := cl_mdl Y amu (mu.1, mu.2.1, mu.2.2.1, mu.2.2.2.1, mu.2.2.2.2.1, mu.2.2.2.2.2.1, mu.2.2.2.2.2.2.1, mu.2.2.2.2.2.2.2.1, mu.2.2.2.2.2.2.2.2.1, mu.2.2.2.2.2.2.2.2.2.1, mu.2.2.2.2.2.2.2.2.2.2.1, mu.2.2.2.2.2.2.2.2.2.2.2.1, mu.2.2.2.2.2.2.2.2.2.2.2.2.1, mu.2.2.2.2.2.2.2.2.2.2.2.2.2.1, mu.2.2.2.2.2.2.2.2.2.2.2.2.2.2.1, mu.2.2.2.2.2.2.2.2.2.2.2.2.2.2.2.1, mu.2.2.2.2.2.2.2.2.2.2.2.2.2.2.2.2.1, mu.2.2.2.2.2.2.2.2.2.2.2.2.2.2.2.2.2.1, mu.2.2.2.2.2.2.2.2.2.2.2.2.2.2.2.2.2.2.1, mu.2.2.2.2.2.2.2.2.2.2.2.2.2.2.2.2.2.2.2.1, mu.2.2.2.2.2.2.2.2.2.2.2.2.2.2.2.2.2.2.2.2.1, mu.2.2.2.2.2.2.2.2.2.2.2.2.2.2.2.2.2.2.2.2.2.1, upd mu.2.2.2.2.2.2.2.2.2.2.2.2.2.2.2.2.2.2.2.2.2.2.1 ((4 * x_2) + x_3).toNatClampNeg (vp_nar .boolean 1), mu.2.2.2.2.2.2.2.2.2.2.2.2.2.2.2.2.2.2.2.2.2.2.2.1, mu.2.2.2.2.2.2.2.2.2.2.2.2.2.2.2.2.2.2.2.2.2.2.2.2)) hx hb hr hlocks hP hS rfl rfl dX7_perform_134
          · refine lv_aload_n hx hb dX7_perform_82 rfl (lv_at hl 2 rfl) ?_
            refine va_get (D := D) (ci := 7) (v := .ref (amu 15)) (C := RX7) (T := TX7) (N := 25) hx hb hts (fun _ h => List.mem_cons_of_mem _ (List.mem_append_right _ h)) hown hG.1 hP 0 rfl rfl 18 (by decide) (hts (.fieldLink RX7 53 "CatalogueLoaderModel" "isIn" "[Z") (List.mem_of_getElem? (i := 4) rfl)) (fun _ h9 => h9) rfl dX7_perform_83 ?_
            refine lv_iload_n hx hb dX7_perform_86 rfl (lv_at hl 0 rfl) ?_
            have h_16 : inb x_3 80 = true := by by_cases h9 : inb x_3 80 = true; exact h9; exfalso; subst ex_3; subst ex_2; simp only [m_X7_perform, eq_true h_1, eq_false c_4, eq_true h_5, eq_false c_6, eq_false c_9, eq_true c_11, eq_false h9, ↓reduceIte, if_true, if_false] at hm; cases hm
            refine va_zald hx hb hG.1 hP 15 1 rfl rfl (inb_in h_16) dX7_perform_87 ?_
            refine lv_if_eq (tgt := 134) hx hb dX7_perform_88 (by decide) (fun c_17 => ?_) (fun c_17 => ?_)
            · have h9 : some mu = some r := by have h8 := hm; subst ex_3; subst ex_2; simp only [m_X7_perform, eq_true h_1, eq_false c_4, eq_true h_5, eq_false c_6, eq_false c_9, eq_true c_11, eq_true h_16, eq_true c_17, ↓reduceIte, if_true, if_false] at h8; exact h8
              have h10 := Option.some.inj h9
              subst h10
              exact cq_wV (wl := cl_mdl Y amu mu) hx hb hr hlocks hP hS rfl rfl dX7_perform_134
            · refine lv_aload_n hx hb dX7_perform_91 rfl (lv_at hl 2 rfl) ?_
              refine lv_iload_n hx hb dX7_perform_92 rfl (lv_at hl 1 rfl) ?_
              refine lv_iload_n hx hb dX7_perform_93 rfl (lv_at hl 0 rfl) ?_
              obtain ⟨r_18, qr_18⟩ : ∃ z, m_X7_doMerge mu x_2 x_3 = some z := by cases h9 : m_X7_doMerge mu x_2 x_3 with | some z => exact ⟨z, rfl⟩ | none => exfalso; subst ex_3; subst ex_2; simp only [m_X7_perform, eq_true h_1, eq_false c_4, eq_true h_5, eq_false c_6, eq_false c_9, eq_true c_11, eq_true h_16, eq_false c_17, h9, Option.bind_none, ↓reduceIte, if_true, if_false] at hm; cases hm
              refine cq_WV (R := (cq_rm 2 48)) (args := ([.ref (amu 0), .int at1] : List Value).toArray) (y := yX7_doMerge) (bytes := cX7_doMerge) (cc := cX7_perform) (maxL := 5) (nL := 4) (n := 2) (index := 100) (ret := none) (ws := wsX7_doMerge) (rm := cq_rm 0 0) (Ts := wsX7_perform) (own := RX7) (D := D) (Y := Y) (W0 := cl_mdl Y amu mu) (wl := cl_mdl Y amu mu) (v := none) (st0 := [.int x_3, .int x_2, .ref (amu 0)]) (As := [.int x_2, .int x_3]) (rest := []) (W1 := cl_mdl Y amu r_18) (C := RX7) (b := amu 0) (cl_mdl Y amu r_18) [] ⟨hx, hb, hml, hown, hts⟩ (ct_X7_doMerge l D Y amu mu x_2 x_3 r_18 qr_18) (cwV 2 hts gX7_perform_X7_doMerge rfl rfl rfl (by decide +kernel) ⟨Nat.le_of_ble_eq_true rfl, Nat.le_of_ble_eq_true rfl⟩) hG hP hD hS [0, 1, 2, 3, 4, 5, 6, 7, 8, 9, 10, 11, 12, 13, 14, 15, 16, 17, 18, 19, 20] rfl (by decide +kernel) ⟨rfl, ⟨[], rfl, rfl⟩, 21, rfl, by decide +kernel⟩ ⟨[amu 0, amu 1, amu 2, amu 3, amu 4, amu 5, amu 6, amu 7, amu 8, amu 9, amu 10, amu 11, amu 12, amu 13, amu 14, amu 15, amu 16, amu 17, amu 18, amu 19, amu 20], rfl, rfl⟩ 0 7 (qc := (RX7, TX7, 25)) (fs := [.ref (amu 1), .ref (amu 2), .ref (amu 3), .ref (amu 4), .ref (amu 5), .int mu.2.2.2.2.2.1, .ref (amu 6), .int mu.2.2.2.2.2.2.2.1, .ref (amu 7), .ref (amu 8), .ref (amu 9), .ref (amu 10), .ref (amu 11), .int mu.2.2.2.2.2.2.2.2.2.2.2.2.2.1, .int mu.2.2.2.2.2.2.2.2.2.2.2.2.2.2.1, .ref (amu 12), .ref (amu 13), .ref (amu 14), .ref (amu 15), .ref (amu 16), .ref (amu 17), .ref (amu 18), .ref (amu 19), .ref (amu 20), .int mu.2.2.2.2.2.2.2.2.2.2.2.2.2.2.2.2.2.2.2.2.2.2.2.2]) rfl rfl rfl rfl hl.1 rfl (Nat.le_of_ble_eq_true rfl) dX7_perform_94 ⟨Nat.zero_le _, Nat.zero_le _⟩ (fun H locs hP hD hS => ?_)
              change W _ _ _ _ _ _ _ _ _ _ _ _ _ _ _ (F0 m 97 _ [])
              refine lv_goto (tgt := 134) hx hb dX7_perform_97 (by decide) ?_
              have h9 : some r_18 = some r := by have h8 := hm; subst ex_3; subst ex_2; simp only [m_X7_perform, eq_true h_1, eq_false c_4, eq_true h_5, eq_false c_6, eq_false c_9, eq_true c_11, eq_true h_16, eq_false c_17, qr_18, Option.bind_some, ↓reduceIte, if_true, if_false] at h8; exact h8
              have h10 := Option.some.inj h9
              subst h10
              exact cq_wV (wl := cl_mdl Y amu r_18) hx hb hr hlocks hP hS rfl rfl dX7_perform_134
      · refine lv_aload_n hx hb dX7_perform_50 rfl (lv_at hl 2 rfl) ?_
        refine va_get (D := D) (ci := 7) (v := .ref (amu 20)) (C := RX7) (T := TX7) (N := 25) hx hb hts (fun _ h => List.mem_cons_of_mem _ (List.mem_append_right _ h)) hown hG.1 hP 0 rfl rfl 23 (by decide) (hts (.fieldLink RX7 68 "CatalogueLoaderModel" "held" "[I") (List.mem_of_getElem? (i := 5) rfl)) (fun _ h9 => h9) rfl dX7_perform_51 ?_
        refine lv_iload_n hx hb dX7_perform_54 rfl (lv_at hl 1 rfl) ?_
        refine lv_dup2_11 hx hb dX7_perform_55 rfl rfl ?_
        refine va_iald hx hb hG.1 hP 20 0 rfl rfl (inb_in h_5) dX7_perform_56 ?_
        refine lv_iconst (v := 1) hx hb dX7_perform_57 (by decide) ?_
        refine lv_iadd hx hb dX7_perform_58 ?_
        refine va_iast hx hb hG.1 hP hD hS 20 0 rfl rfl (inb_in h_5) dX7_perform_59 (fun H locs hP hD hS => ?_)
        have hP : va_P D vwCl (cl_mdl Y amu (mu.1, mu.2.1, mu.2.2.1, mu.2.2.2.1, mu.2.2.2.2.1, mu.2.2.2.2.2.1, mu.2.2.2.2.2.2.1, mu.2.2.2.2.2.2.2.1, mu.2.2.2.2.2.2.2.2.1, mu.2.2.2.2.2.2.2.2.2.1, mu.2.2.2.2.2.2.2.2.2.2.1, mu.2.2.2.2.2.2.2.2.2.2.2.1, mu.2.2.2.2.2.2.2.2.2.2.2.2.1, mu.2.2.2.2.2.2.2.2.2.2.2.2.2.1, mu.2.2.2.2.2.2.2.2.2.2.2.2.2.2.1, mu.2.2.2.2.2.2.2.2.2.2.2.2.2.2.2.1, mu.2.2.2.2.2.2.2.2.2.2.2.2.2.2.2.2.1, mu.2.2.2.2.2.2.2.2.2.2.2.2.2.2.2.2.2.1, mu.2.2.2.2.2.2.2.2.2.2.2.2.2.2.2.2.2.2.1, mu.2.2.2.2.2.2.2.2.2.2.2.2.2.2.2.2.2.2.2.1, mu.2.2.2.2.2.2.2.2.2.2.2.2.2.2.2.2.2.2.2.2.1, mu.2.2.2.2.2.2.2.2.2.2.2.2.2.2.2.2.2.2.2.2.2.1, mu.2.2.2.2.2.2.2.2.2.2.2.2.2.2.2.2.2.2.2.2.2.2.1, upd mu.2.2.2.2.2.2.2.2.2.2.2.2.2.2.2.2.2.2.2.2.2.2.2.1 x_2.toNatClampNeg ((mu.2.2.2.2.2.2.2.2.2.2.2.2.2.2.2.2.2.2.2.2.2.2.2.1 x_2.toNatClampNeg) + 1), mu.2.2.2.2.2.2.2.2.2.2.2.2.2.2.2.2.2.2.2.2.2.2.2.2)) H := hP
        have hD : va_D (cq_in (cl_mdl Y amu mu)) (cl_mdl Y amu (mu.1, mu.2.1, mu.2.2.1, mu.2.2.2.1, mu.2.2.2.2.1, mu.2.2.2.2.2.1, mu.2.2.2.2.2.2.1, mu.2.2.2.2.2.2.2.1, mu.2.2.2.2.2.2.2.2.1, mu.2.2.2.2.2.2.2.2.2.1, mu.2.2.2.2.2.2.2.2.2.2.1, mu.2.2.2.2.2.2.2.2.2.2.2.1, mu.2.2.2.2.2.2.2.2.2.2.2.2.1, mu.2.2.2.2.2.2.2.2.2.2.2.2.2.1, mu.2.2.2.2.2.2.2.2.2.2.2.2.2.2.1, mu.2.2.2.2.2.2.2.2.2.2.2.2.2.2.2.1, mu.2.2.2.2.2.2.2.2.2.2.2.2.2.2.2.2.1, mu.2.2.2.2.2.2.2.2.2.2.2.2.2.2.2.2.2.1, mu.2.2.2.2.2.2.2.2.2.2.2.2.2.2.2.2.2.2.1, mu.2.2.2.2.2.2.2.2.2.2.2.2.2.2.2.2.2.2.2.1, mu.2.2.2.2.2.2.2.2.2.2.2.2.2.2.2.2.2.2.2.2.1, mu.2.2.2.2.2.2.2.2.2.2.2.2.2.2.2.2.2.2.2.2.2.1, mu.2.2.2.2.2.2.2.2.2.2.2.2.2.2.2.2.2.2.2.2.2.2.1, upd mu.2.2.2.2.2.2.2.2.2.2.2.2.2.2.2.2.2.2.2.2.2.2.2.1 x_2.toNatClampNeg ((mu.2.2.2.2.2.2.2.2.2.2.2.2.2.2.2.2.2.2.2.2.2.2.2.1 x_2.toNatClampNeg) + 1), mu.2.2.2.2.2.2.2.2.2.2.2.2.2.2.2.2.2.2.2.2.2.2.2.2)) := hD
        refine lv_goto (tgt := 134) hx hb dX7_perform_60 (by decide) ?_
        have h9 : some (mu.1, mu.2.1, mu.2.2.1, mu.2.2.2.1, mu.2.2.2.2.1, mu.2.2.2.2.2.1, mu.2.2.2.2.2.2.1, mu.2.2.2.2.2.2.2.1, mu.2.2.2.2.2.2.2.2.1, mu.2.2.2.2.2.2.2.2.2.1, mu.2.2.2.2.2.2.2.2.2.2.1, mu.2.2.2.2.2.2.2.2.2.2.2.1, mu.2.2.2.2.2.2.2.2.2.2.2.2.1, mu.2.2.2.2.2.2.2.2.2.2.2.2.2.1, mu.2.2.2.2.2.2.2.2.2.2.2.2.2.2.1, mu.2.2.2.2.2.2.2.2.2.2.2.2.2.2.2.1, mu.2.2.2.2.2.2.2.2.2.2.2.2.2.2.2.2.1, mu.2.2.2.2.2.2.2.2.2.2.2.2.2.2.2.2.2.1, mu.2.2.2.2.2.2.2.2.2.2.2.2.2.2.2.2.2.2.1, mu.2.2.2.2.2.2.2.2.2.2.2.2.2.2.2.2.2.2.2.1, mu.2.2.2.2.2.2.2.2.2.2.2.2.2.2.2.2.2.2.2.2.1, mu.2.2.2.2.2.2.2.2.2.2.2.2.2.2.2.2.2.2.2.2.2.1, mu.2.2.2.2.2.2.2.2.2.2.2.2.2.2.2.2.2.2.2.2.2.2.1, upd mu.2.2.2.2.2.2.2.2.2.2.2.2.2.2.2.2.2.2.2.2.2.2.2.1 x_2.toNatClampNeg ((mu.2.2.2.2.2.2.2.2.2.2.2.2.2.2.2.2.2.2.2.2.2.2.2.1 x_2.toNatClampNeg) + 1), mu.2.2.2.2.2.2.2.2.2.2.2.2.2.2.2.2.2.2.2.2.2.2.2.2) = some r := by have h8 := hm; subst ex_3; subst ex_2; simp only [m_X7_perform, eq_true h_1, eq_false c_4, eq_true h_5, eq_false c_6, eq_true c_9, ↓reduceIte, if_true, if_false] at h8; exact h8
        have h10 := Option.some.inj h9
        subst h10
        exact cq_wV (wl := cl_mdl Y amu (mu.1, mu.2.1, mu.2.2.1, mu.2.2.2.1, mu.2.2.2.2.1, mu.2.2.2.2.2.1, mu.2.2.2.2.2.2.1, mu.2.2.2.2.2.2.2.1, mu.2.2.2.2.2.2.2.2.1, mu.2.2.2.2.2.2.2.2.2.1, mu.2.2.2.2.2.2.2.2.2.2.1, mu.2.2.2.2.2.2.2.2.2.2.2.1, mu.2.2.2.2.2.2.2.2.2.2.2.2.1, mu.2.2.2.2.2.2.2.2.2.2.2.2.2.1, mu.2.2.2.2.2.2.2.2.2.2.2.2.2.2.1, mu.2.2.2.2.2.2.2.2.2.2.2.2.2.2.2.1, mu.2.2.2.2.2.2.2.2.2.2.2.2.2.2.2.2.1, mu.2.2.2.2.2.2.2.2.2.2.2.2.2.2.2.2.2.1, mu.2.2.2.2.2.2.2.2.2.2.2.2.2.2.2.2.2.2.1, mu.2.2.2.2.2.2.2.2.2.2.2.2.2.2.2.2.2.2.2.1, mu.2.2.2.2.2.2.2.2.2.2.2.2.2.2.2.2.2.2.2.2.1, mu.2.2.2.2.2.2.2.2.2.2.2.2.2.2.2.2.2.2.2.2.2.1, mu.2.2.2.2.2.2.2.2.2.2.2.2.2.2.2.2.2.2.2.2.2.2.1, upd mu.2.2.2.2.2.2.2.2.2.2.2.2.2.2.2.2.2.2.2.2.2.2.2.1 x_2.toNatClampNeg ((mu.2.2.2.2.2.2.2.2.2.2.2.2.2.2.2.2.2.2.2.2.2.2.2.1 x_2.toNatClampNeg) + 1), mu.2.2.2.2.2.2.2.2.2.2.2.2.2.2.2.2.2.2.2.2.2.2.2.2)) hx hb hr hlocks hP hS rfl rfl dX7_perform_134
  · refine lv_aload_n hx hb dX7_perform_23 rfl (lv_at hl 2 rfl) ?_
    refine lv_iload_n hx hb dX7_perform_24 rfl (lv_at hl 1 rfl) ?_
    obtain ⟨r_19, qr_19⟩ : ∃ z, m_X7_doLoad mu x_2 = some z := by cases h9 : m_X7_doLoad mu x_2 with | some z => exact ⟨z, rfl⟩ | none => exfalso; subst ex_3; subst ex_2; simp only [m_X7_perform, eq_true h_1, eq_true c_4, h9, Option.bind_none, ↓reduceIte, if_true, if_false] at hm; cases hm
    refine cq_WV (R := (cq_rm 2 48)) (args := ([.ref (amu 0), .int at1] : List Value).toArray) (y := yX7_doLoad) (bytes := cX7_doLoad) (cc := cX7_perform) (maxL := 3) (nL := 4) (n := 1) (index := 97) (ret := none) (ws := wsX7_doLoad) (rm := cq_rm 1 26) (Ts := wsX7_perform) (own := RX7) (D := D) (Y := Y) (W0 := cl_mdl Y amu mu) (wl := cl_mdl Y amu mu) (v := none) (st0 := [.int x_2, .ref (amu 0)]) (As := [.int x_2]) (rest := []) (W1 := cl_mdl Y amu r_19) (C := RX7) (b := amu 0) (cl_mdl Y amu r_19) [] ⟨hx, hb, hml, hown, hts⟩ (ct_X7_doLoad l D Y amu mu x_2 r_19 qr_19) (cwV 1 hts gX7_perform_X7_doLoad rfl rfl rfl (by decide +kernel) ⟨Nat.le_of_ble_eq_true rfl, Nat.le_of_ble_eq_true rfl⟩) hG hP hD hS [0, 1, 2, 3, 4, 5, 6, 7, 8, 9, 10, 11, 12, 13, 14, 15, 16, 17, 18, 19, 20] rfl (by decide +kernel) ⟨rfl, ⟨[], rfl, rfl⟩, 21, rfl, by decide +kernel⟩ ⟨[amu 0, amu 1, amu 2, amu 3, amu 4, amu 5, amu 6, amu 7, amu 8, amu 9, amu 10, amu 11, amu 12, amu 13, amu 14, amu 15, amu 16, amu 17, amu 18, amu 19, amu 20], rfl, rfl⟩ 0 7 (qc := (RX7, TX7, 25)) (fs := [.ref (amu 1), .ref (amu 2), .ref (amu 3), .ref (amu 4), .ref (amu 5), .int mu.2.2.2.2.2.1, .ref (amu 6), .int mu.2.2.2.2.2.2.2.1, .ref (amu 7), .ref (amu 8), .ref (amu 9), .ref (amu 10), .ref (amu 11), .int mu.2.2.2.2.2.2.2.2.2.2.2.2.2.1, .int mu.2.2.2.2.2.2.2.2.2.2.2.2.2.2.1, .ref (amu 12), .ref (amu 13), .ref (amu 14), .ref (amu 15), .ref (amu 16), .ref (amu 17), .ref (amu 18), .ref (amu 19), .ref (amu 20), .int mu.2.2.2.2.2.2.2.2.2.2.2.2.2.2.2.2.2.2.2.2.2.2.2.2]) rfl rfl rfl rfl hl.1 rfl (Nat.le_of_ble_eq_true rfl) dX7_perform_25 ⟨Nat.zero_le _, Nat.zero_le _⟩ (fun H locs hP hD hS => ?_)
    change W _ _ _ _ _ _ _ _ _ _ _ _ _ _ _ (F0 m 28 _ [])
    refine lv_goto (tgt := 134) hx hb dX7_perform_28 (by decide) ?_
    have h9 : some r_19 = some r := by have h8 := hm; subst ex_3; subst ex_2; simp only [m_X7_perform, eq_true h_1, eq_true c_4, qr_19, Option.bind_some, ↓reduceIte, if_true, if_false] at h8; exact h8
    have h10 := Option.some.inj h9
    subst h10
    exact cq_wV (wl := cl_mdl Y amu r_19) hx hb hr hlocks hP hS rfl rfl dX7_perform_134

def m_X7_add (mu : MdlS) (kind : Int32) (one : Int32) (other : Int32) : Option (MdlS) := (if inb mu.2.2.2.2.2.2.2.2.2.2.2.2.2.2.1 180 = true then (m_X7_perform (mu.1, mu.2.1, mu.2.2.1, mu.2.2.2.1, mu.2.2.2.2.1, mu.2.2.2.2.2.1, mu.2.2.2.2.2.2.1, mu.2.2.2.2.2.2.2.1, mu.2.2.2.2.2.2.2.2.1, mu.2.2.2.2.2.2.2.2.2.1, mu.2.2.2.2.2.2.2.2.2.2.1, mu.2.2.2.2.2.2.2.2.2.2.2.1, mu.2.2.2.2.2.2.2.2.2.2.2.2.1, mu.2.2.2.2.2.2.2.2.2.2.2.2.2.1, mu.2.2.2.2.2.2.2.2.2.2.2.2.2.2.1 + 1, upd mu.2.2.2.2.2.2.2.2.2.2.2.2.2.2.2.1 mu.2.2.2.2.2.2.2.2.2.2.2.2.2.2.1.toNatClampNeg kind, upd mu.2.2.2.2.2.2.2.2.2.2.2.2.2.2.2.2.1 mu.2.2.2.2.2.2.2.2.2.2.2.2.2.2.1.toNatClampNeg one, upd mu.2.2.2.2.2.2.2.2.2.2.2.2.2.2.2.2.2.1 mu.2.2.2.2.2.2.2.2.2.2.2.2.2.2.1.toNatClampNeg other, mu.2.2.2.2.2.2.2.2.2.2.2.2.2.2.2.2.2.2.1, mu.2.2.2.2.2.2.2.2.2.2.2.2.2.2.2.2.2.2.2.1, mu.2.2.2.2.2.2.2.2.2.2.2.2.2.2.2.2.2.2.2.2.1, mu.2.2.2.2.2.2.2.2.2.2.2.2.2.2.2.2.2.2.2.2.2.1, mu.2.2.2.2.2.2.2.2.2.2.2.2.2.2.2.2.2.2.2.2.2.2.1, mu.2.2.2.2.2.2.2.2.2.2.2.2.2.2.2.2.2.2.2.2.2.2.2.1, mu.2.2.2.2.2.2.2.2.2.2.2.2.2.2.2.2.2.2.2.2.2.2.2.2) ((mu.2.2.2.2.2.2.2.2.2.2.2.2.2.2.1 + 1) - 1)).bind (fun r_2 => some r_2) else none)
set_option maxHeartbeats 4000000 in
set_option maxRecDepth 100000 in
theorem ct_X7_add (l : Launch) (D : va_G) (Y : cq_Y) (amu : Nat → Nat) (mu : MdlS) (kind : Int32) (one : Int32) (other : Int32) (r : MdlS) (hm : m_X7_add mu kind one other = some r) : cq_MW l yX7_add wsX7_add (cq_rm 3 71) D Y (cl_mdl Y amu mu) [.ref (amu 0), .int kind, .int one, .int other] (none) (cl_mdl Y amu r) := by
  refine cq_body (cc := cX7_add) (maxL := 4) (ret := none) (by decide) rfl (Nat.le_of_ble_eq_true rfl) ?_
  intro p e s m below meth c hE hP hG hD ls hl
  obtain ⟨hx, hb, hr, hml, hts, hown, hnm, hlocks⟩ := hE
  have hown : s.vm.findClass RX7 = some m.cls := hown
  have hS : va_S (cq_in (cl_mdl Y amu mu)) s.heap s.heap [] := va_S.rf
  have hl : lv_has ls 4 [(0, .ref (amu 0)), (1, .int kind), (2, .int one), (3, .int other)] := hl
  refine lv_aload_n hx hb dX7_add_0 rfl (lv_at hl 0 rfl) ?_
  refine va_get (D := D) (ci := 7) (v := .ref (amu 12)) (C := RX7) (T := TX7) (N := 25) hx hb hts (fun _ h => List.mem_cons_of_mem _ (List.mem_append_right _ h)) hown hG.1 hP 0 rfl rfl 15 (by decide) (hts (.fieldLink RX7 44 "CatalogueLoaderModel" "kinds" "[I") (List.mem_of_getElem? (i := 1) rfl)) (fun _ h9 => h9) rfl dX7_add_1 ?_
  refine lv_aload_n hx hb dX7_add_4 rfl (lv_at hl 0 rfl) ?_
  refine va_get (D := D) (ci := 7) (v := .int mu.2.2.2.2.2.2.2.2.2.2.2.2.2.2.1) (C := RX7) (T := TX7) (N := 25) hx hb hts (fun _ h => List.mem_cons_of_mem _ (List.mem_append_right _ h)) hown hG.1 hP 0 rfl rfl 14 (by decide) (hts (.fieldLink RX7 103 "CatalogueLoaderModel" "doneMany" "I") (List.mem_of_getElem? (i := 2) rfl)) (fun _ h9 => h9) rfl dX7_add_5 ?_
  refine lv_iload_n hx hb dX7_add_8 rfl (lv_at hl 1 rfl) ?_
  have h_1 : inb mu.2.2.2.2.2.2.2.2.2.2.2.2.2.2.1 180 = true := by by_cases h9 : inb mu.2.2.2.2.2.2.2.2.2.2.2.2.2.2.1 180 = true; exact h9; exfalso; simp only [m_X7_add, eq_false h9, ↓reduceIte, if_true, if_false] at hm; cases hm
  refine va_iast hx hb hG.1 hP hD hS 12 0 rfl rfl (inb_in h_1) dX7_add_9 (fun H locs hP hD hS => ?_)
  have hP : va_P D vwCl (cl_mdl Y amu (mu.1, mu.2.1, mu.2.2.1, mu.2.2.2.1, mu.2.2.2.2.1, mu.2.2.2.2.2.1, mu.2.2.2.2.2.2.1, mu.2.2.2.2.2.2.2.1, mu.2.2.2.2.2.2.2.2.1, mu.2.2.2.2.2.2.2.2.2.1, mu.2.2.2.2.2.2.2.2.2.2.1, mu.2.2.2.2.2.2.2.2.2.2.2.1, mu.2.2.2.2.2.2.2.2.2.2.2.2.1, mu.2.2.2.2.2.2.2.2.2.2.2.2.2.1, mu.2.2.2.2.2.2.2.2.2.2.2.2.2.2.1, upd mu.2.2.2.2.2.2.2.2.2.2.2.2.2.2.2.1 mu.2.2.2.2.2.2.2.2.2.2.2.2.2.2.1.toNatClampNeg kind, mu.2.2.2.2.2.2.2.2.2.2.2.2.2.2.2.2.1, mu.2.2.2.2.2.2.2.2.2.2.2.2.2.2.2.2.2.1, mu.2.2.2.2.2.2.2.2.2.2.2.2.2.2.2.2.2.2.1, mu.2.2.2.2.2.2.2.2.2.2.2.2.2.2.2.2.2.2.2.1, mu.2.2.2.2.2.2.2.2.2.2.2.2.2.2.2.2.2.2.2.2.1, mu.2.2.2.2.2.2.2.2.2.2.2.2.2.2.2.2.2.2.2.2.2.1, mu.2.2.2.2.2.2.2.2.2.2.2.2.2.2.2.2.2.2.2.2.2.2.1, mu.2.2.2.2.2.2.2.2.2.2.2.2.2.2.2.2.2.2.2.2.2.2.2.1, mu.2.2.2.2.2.2.2.2.2.2.2.2.2.2.2.2.2.2.2.2.2.2.2.2)) H := hP
  have hD : va_D (cq_in (cl_mdl Y amu mu)) (cl_mdl Y amu (mu.1, mu.2.1, mu.2.2.1, mu.2.2.2.1, mu.2.2.2.2.1, mu.2.2.2.2.2.1, mu.2.2.2.2.2.2.1, mu.2.2.2.2.2.2.2.1, mu.2.2.2.2.2.2.2.2.1, mu.2.2.2.2.2.2.2.2.2.1, mu.2.2.2.2.2.2.2.2.2.2.1, mu.2.2.2.2.2.2.2.2.2.2.2.1, mu.2.2.2.2.2.2.2.2.2.2.2.2.1, mu.2.2.2.2.2.2.2.2.2.2.2.2.2.1, mu.2.2.2.2.2.2.2.2.2.2.2.2.2.2.1, upd mu.2.2.2.2.2.2.2.2.2.2.2.2.2.2.2.1 mu.2.2.2.2.2.2.2.2.2.2.2.2.2.2.1.toNatClampNeg kind, mu.2.2.2.2.2.2.2.2.2.2.2.2.2.2.2.2.1, mu.2.2.2.2.2.2.2.2.2.2.2.2.2.2.2.2.2.1, mu.2.2.2.2.2.2.2.2.2.2.2.2.2.2.2.2.2.2.1, mu.2.2.2.2.2.2.2.2.2.2.2.2.2.2.2.2.2.2.2.1, mu.2.2.2.2.2.2.2.2.2.2.2.2.2.2.2.2.2.2.2.2.1, mu.2.2.2.2.2.2.2.2.2.2.2.2.2.2.2.2.2.2.2.2.2.1, mu.2.2.2.2.2.2.2.2.2.2.2.2.2.2.2.2.2.2.2.2.2.2.1, mu.2.2.2.2.2.2.2.2.2.2.2.2.2.2.2.2.2.2.2.2.2.2.2.1, mu.2.2.2.2.2.2.2.2.2.2.2.2.2.2.2.2.2.2.2.2.2.2.2.2)) := hD
  refine lv_aload_n hx hb dX7_add_10 rfl (lv_at hl 0 rfl) ?_
  refine va_get (D := D) (ci := 7) (v := .ref (amu 13)) (C := RX7) (T := TX7) (N := 25) hx hb hts (fun _ h => List.mem_cons_of_mem _ (List.mem_append_right _ h)) hown hG.1 hP 0 rfl rfl 16 (by decide) (hts (.fieldLink RX7 47 "CatalogueLoaderModel" "ones" "[I") (List.mem_of_getElem? (i := 3) rfl)) (fun _ h9 => h9) rfl dX7_add_11 ?_
  refine lv_aload_n hx hb dX7_add_14 rfl (lv_at hl 0 rfl) ?_
  refine va_get (D := D) (ci := 7) (v := .int mu.2.2.2.2.2.2.2.2.2.2.2.2.2.2.1) (C := RX7) (T := TX7) (N := 25) hx hb hts (fun _ h => List.mem_cons_of_mem _ (List.mem_append_right _ h)) hown hG.1 hP 0 rfl rfl 14 (by decide) (hts (.fieldLink RX7 103 "CatalogueLoaderModel" "doneMany" "I") (List.mem_of_getElem? (i := 2) rfl)) (fun _ h9 => h9) rfl dX7_add_15 ?_
  refine lv_iload_n hx hb dX7_add_18 rfl (lv_at hl 2 rfl) ?_
  refine va_iast hx hb hG.1 hP hD hS 13 0 rfl rfl (inb_in h_1) dX7_add_19 (fun H locs hP hD hS => ?_)
  have hP : va_P D vwCl (cl_mdl Y amu (mu.1, mu.2.1, mu.2.2.1, mu.2.2.2.1, mu.2.2.2.2.1, mu.2.2.2.2.2.1, mu.2.2.2.2.2.2.1, mu.2.2.2.2.2.2.2.1, mu.2.2.2.2.2.2.2.2.1, mu.2.2.2.2.2.2.2.2.2.1, mu.2.2.2.2.2.2.2.2.2.2.1, mu.2.2.2.2.2.2.2.2.2.2.2.1, mu.2.2.2.2.2.2.2.2.2.2.2.2.1, mu.2.2.2.2.2.2.2.2.2.2.2.2.2.1, mu.2.2.2.2.2.2.2.2.2.2.2.2.2.2.1, upd mu.2.2.2.2.2.2.2.2.2.2.2.2.2.2.2.1 mu.2.2.2.2.2.2.2.2.2.2.2.2.2.2.1.toNatClampNeg kind, upd mu.2.2.2.2.2.2.2.2.2.2.2.2.2.2.2.2.1 mu.2.2.2.2.2.2.2.2.2.2.2.2.2.2.1.toNatClampNeg one, mu.2.2.2.2.2.2.2.2.2.2.2.2.2.2.2.2.2.1, mu.2.2.2.2.2.2.2.2.2.2.2.2.2.2.2.2.2.2.1, mu.2.2.2.2.2.2.2.2.2.2.2.2.2.2.2.2.2.2.2.1, mu.2.2.2.2.2.2.2.2.2.2.2.2.2.2.2.2.2.2.2.2.1, mu.2.2.2.2.2.2.2.2.2.2.2.2.2.2.2.2.2.2.2.2.2.1, mu.2.2.2.2.2.2.2.2.2.2.2.2.2.2.2.2.2.2.2.2.2.2.1, mu.2.2.2.2.2.2.2.2.2.2.2.2.2.2.2.2.2.2.2.2.2.2.2.1, mu.2.2.2.2.2.2.2.2.2.2.2.2.2.2.2.2.2.2.2.2.2.2.2.2)) H := hP
  have hD : va_D (cq_in (cl_mdl Y amu mu)) (cl_mdl Y amu (mu.1, mu.2.1, mu.2.2.1, mu.2.2.2.1, mu.2.2.2.2.1, mu.2.2.2.2.2.1, mu.2.2.2.2.2.2.1, mu.2.2.2.2.2.2.2.1, mu.2.2.2.2.2.2.2.2.1, mu.2.2.2.2.2.2.2.2.2.1, mu.2.2.2.2.2.2.2.2.2.2.1, mu.2.2.2.2.2.2.2.2.2.2.2.1, mu.2.2.2.2.2.2.2.2.2.2.2.2.1, mu.2.2.2.2.2.2.2.2.2.2.2.2.2.1, mu.2.2.2.2.2.2.2.2.2.2.2.2.2.2.1, upd mu.2.2.2.2.2.2.2.2.2.2.2.2.2.2.2.1 mu.2.2.2.2.2.2.2.2.2.2.2.2.2.2.1.toNatClampNeg kind, upd mu.2.2.2.2.2.2.2.2.2.2.2.2.2.2.2.2.1 mu.2.2.2.2.2.2.2.2.2.2.2.2.2.2.1.toNatClampNeg one, mu.2.2.2.2.2.2.2.2.2.2.2.2.2.2.2.2.2.1, mu.2.2.2.2.2.2.2.2.2.2.2.2.2.2.2.2.2.2.1, mu.2.2.2.2.2.2.2.2.2.2.2.2.2.2.2.2.2.2.2.1, mu.2.2.2.2.2.2.2.2.2.2.2.2.2.2.2.2.2.2.2.2.1, mu.2.2.2.2.2.2.2.2.2.2.2.2.2.2.2.2.2.2.2.2.2.1, mu.2.2.2.2.2.2.2.2.2.2.2.2.2.2.2.2.2.2.2.2.2.2.1, mu.2.2.2.2.2.2.2.2.2.2.2.2.2.2.2.2.2.2.2.2.2.2.2.1, mu.2.2.2.2.2.2.2.2.2.2.2.2.2.2.2.2.2.2.2.2.2.2.2.2)) := hD
  refine lv_aload_n hx hb dX7_add_20 rfl (lv_at hl 0 rfl) ?_
  refine va_get (D := D) (ci := 7) (v := .ref (amu 14)) (C := RX7) (T := TX7) (N := 25) hx hb hts (fun _ h => List.mem_cons_of_mem _ (List.mem_append_right _ h)) hown hG.1 hP 0 rfl rfl 17 (by decide) (hts (.fieldLink RX7 50 "CatalogueLoaderModel" "others" "[I") (List.mem_of_getElem? (i := 4) rfl)) (fun _ h9 => h9) rfl dX7_add_21 ?_
  refine lv_aload_n hx hb dX7_add_24 rfl (lv_at hl 0 rfl) ?_
  refine va_get (D := D) (ci := 7) (v := .int mu.2.2.2.2.2.2.2.2.2.2.2.2.2.2.1) (C := RX7) (T := TX7) (N := 25) hx hb hts (fun _ h => List.mem_cons_of_mem _ (List.mem_append_right _ h)) hown hG.1 hP 0 rfl rfl 14 (by decide) (hts (.fieldLink RX7 103 "CatalogueLoaderModel" "doneMany" "I") (List.mem_of_getElem? (i := 2) rfl)) (fun _ h9 => h9) rfl dX7_add_25 ?_
  refine lv_iload_n hx hb dX7_add_28 rfl (lv_at hl 3 rfl) ?_
  refine va_iast hx hb hG.1 hP hD hS 14 0 rfl rfl (inb_in h_1) dX7_add_29 (fun H locs hP hD hS => ?_)
  have hP : va_P D vwCl (cl_mdl Y amu (mu.1, mu.2.1, mu.2.2.1, mu.2.2.2.1, mu.2.2.2.2.1, mu.2.2.2.2.2.1, mu.2.2.2.2.2.2.1, mu.2.2.2.2.2.2.2.1, mu.2.2.2.2.2.2.2.2.1, mu.2.2.2.2.2.2.2.2.2.1, mu.2.2.2.2.2.2.2.2.2.2.1, mu.2.2.2.2.2.2.2.2.2.2.2.1, mu.2.2.2.2.2.2.2.2.2.2.2.2.1, mu.2.2.2.2.2.2.2.2.2.2.2.2.2.1, mu.2.2.2.2.2.2.2.2.2.2.2.2.2.2.1, upd mu.2.2.2.2.2.2.2.2.2.2.2.2.2.2.2.1 mu.2.2.2.2.2.2.2.2.2.2.2.2.2.2.1.toNatClampNeg kind, upd mu.2.2.2.2.2.2.2.2.2.2.2.2.2.2.2.2.1 mu.2.2.2.2.2.2.2.2.2.2.2.2.2.2.1.toNatClampNeg one, upd mu.2.2.2.2.2.2.2.2.2.2.2.2.2.2.2.2.2.1 mu.2.2.2.2.2.2.2.2.2.2.2.2.2.2.1.toNatClampNeg other, mu.2.2.2.2.2.2.2.2.2.2.2.2.2.2.2.2.2.2.1, mu.2.2.2.2.2.2.2.2.2.2.2.2.2.2.2.2.2.2.2.1, mu.2.2.2.2.2.2.2.2.2.2.2.2.2.2.2.2.2.2.2.2.1, mu.2.2.2.2.2.2.2.2.2.2.2.2.2.2.2.2.2.2.2.2.2.1, mu.2.2.2.2.2.2.2.2.2.2.2.2.2.2.2.2.2.2.2.2.2.2.1, mu.2.2.2.2.2.2.2.2.2.2.2.2.2.2.2.2.2.2.2.2.2.2.2.1, mu.2.2.2.2.2.2.2.2.2.2.2.2.2.2.2.2.2.2.2.2.2.2.2.2)) H := hP
  have hD : va_D (cq_in (cl_mdl Y amu mu)) (cl_mdl Y amu (mu.1, mu.2.1, mu.2.2.1, mu.2.2.2.1, mu.2.2.2.2.1, mu.2.2.2.2.2.1, mu.2.2.2.2.2.2.1, mu.2.2.2.2.2.2.2.1, mu.2.2.2.2.2.2.2.2.1, mu.2.2.2.2.2.2.2.2.2.1, mu.2.2.2.2.2.2.2.2.2.2.1, mu.2.2.2.2.2.2.2.2.2.2.2.1, mu.2.2.2.2.2.2.2.2.2.2.2.2.1, mu.2.2.2.2.2.2.2.2.2.2.2.2.2.1, mu.2.2.2.2.2.2.2.2.2.2.2.2.2.2.1, upd mu.2.2.2.2.2.2.2.2.2.2.2.2.2.2.2.1 mu.2.2.2.2.2.2.2.2.2.2.2.2.2.2.1.toNatClampNeg kind, upd mu.2.2.2.2.2.2.2.2.2.2.2.2.2.2.2.2.1 mu.2.2.2.2.2.2.2.2.2.2.2.2.2.2.1.toNatClampNeg one, upd mu.2.2.2.2.2.2.2.2.2.2.2.2.2.2.2.2.2.1 mu.2.2.2.2.2.2.2.2.2.2.2.2.2.2.1.toNatClampNeg other, mu.2.2.2.2.2.2.2.2.2.2.2.2.2.2.2.2.2.2.1, mu.2.2.2.2.2.2.2.2.2.2.2.2.2.2.2.2.2.2.2.1, mu.2.2.2.2.2.2.2.2.2.2.2.2.2.2.2.2.2.2.2.2.1, mu.2.2.2.2.2.2.2.2.2.2.2.2.2.2.2.2.2.2.2.2.2.1, mu.2.2.2.2.2.2.2.2.2.2.2.2.2.2.2.2.2.2.2.2.2.2.1, mu.2.2.2.2.2.2.2.2.2.2.2.2.2.2.2.2.2.2.2.2.2.2.2.1, mu.2.2.2.2.2.2.2.2.2.2.2.2.2.2.2.2.2.2.2.2.2.2.2.2)) := hD
  refine lv_aload_n hx hb dX7_add_30 rfl (lv_at hl 0 rfl) ?_
  refine lv_dup hx hb dX7_add_31 rfl ?_
  refine va_get (D := D) (ci := 7) (v := .int mu.2.2.2.2.2.2.2.2.2.2.2.2.2.2.1) (C := RX7) (T := TX7) (N := 25) hx hb hts (fun _ h => List.mem_cons_of_mem _ (List.mem_append_right _ h)) hown hG.1 hP 0 rfl rfl 14 (by decide) (hts (.fieldLink RX7 103 "CatalogueLoaderModel" "doneMany" "I") (List.mem_of_getElem? (i := 2) rfl)) (fun _ h9 => h9) rfl dX7_add_32 ?_
  refine lv_iconst (v := 1) hx hb dX7_add_35 (by decide) ?_
  refine lv_iadd hx hb dX7_add_36 ?_
  refine va_put (D := D) (ci := 7) (v := .int (mu.2.2.2.2.2.2.2.2.2.2.2.2.2.2.1 + 1)) (ty := .int) (C := RX7) (T := TX7) (N := 25) hx hb hts (fun _ h => List.mem_cons_of_mem _ (List.mem_append_right _ h)) tyX7 tyX7_ok nmX7 hown hG.1 hP hD hS 0 rfl rfl 14 (by decide) (hts (.fieldLink RX7 103 "CatalogueLoaderModel" "doneMany" "I") (List.mem_of_getElem? (i := 2) rfl)) (fun _ h9 => h9) rfl (by decide +kernel) rfl rfl (Nat.le_of_ble_eq_true rfl) dX7_add_37 (fun H locs hP hD hS => ?_)
  have hP : va_P D vwCl (cl_mdl Y amu (mu.1, mu.2.1, mu.2.2.1, mu.2.2.2.1, mu.2.2.2.2.1, mu.2.2.2.2.2.1, mu.2.2.2.2.2.2.1, mu.2.2.2.2.2.2.2.1, mu.2.2.2.2.2.2.2.2.1, mu.2.2.2.2.2.2.2.2.2.1, mu.2.2.2.2.2.2.2.2.2.2.1, mu.2.2.2.2.2.2.2.2.2.2.2.1, mu.2.2.2.2.2.2.2.2.2.2.2.2.1, mu.2.2.2.2.2.2.2.2.2.2.2.2.2.1, mu.2.2.2.2.2.2.2.2.2.2.2.2.2.2.1 + 1, upd mu.2.2.2.2.2.2.2.2.2.2.2.2.2.2.2.1 mu.2.2.2.2.2.2.2.2.2.2.2.2.2.2.1.toNatClampNeg kind, upd mu.2.2.2.2.2.2.2.2.2.2.2.2.2.2.2.2.1 mu.2.2.2.2.2.2.2.2.2.2.2.2.2.2.1.toNatClampNeg one, upd mu.2.2.2.2.2.2.2.2.2.2.2.2.2.2.2.2.2.1 mu.2.2.2.2.2.2.2.2.2.2.2.2.2.2.1.toNatClampNeg other, mu.2.2.2.2.2.2.2.2.2.2.2.2.2.2.2.2.2.2.1, mu.2.2.2.2.2.2.2.2.2.2.2.2.2.2.2.2.2.2.2.1, mu.2.2.2.2.2.2.2.2.2.2.2.2.2.2.2.2.2.2.2.2.1, mu.2.2.2.2.2.2.2.2.2.2.2.2.2.2.2.2.2.2.2.2.2.1, mu.2.2.2.2.2.2.2.2.2.2.2.2.2.2.2.2.2.2.2.2.2.2.1, mu.2.2.2.2.2.2.2.2.2.2.2.2.2.2.2.2.2.2.2.2.2.2.2.1, mu.2.2.2.2.2.2.2.2.2.2.2.2.2.2.2.2.2.2.2.2.2.2.2.2)) H := hP
  have hD : va_D (cq_in (cl_mdl Y amu mu)) (cl_mdl Y amu (mu.1, mu.2.1, mu.2.2.1, mu.2.2.2.1, mu.2.2.2.2.1, mu.2.2.2.2.2.1, mu.2.2.2.2.2.2.1, mu.2.2.2.2.2.2.2.1, mu.2.2.2.2.2.2.2.2.1, mu.2.2.2.2.2.2.2.2.2.1, mu.2.2.2.2.2.2.2.2.2.2.1, mu.2.2.2.2.2.2.2.2.2.2.2.1, mu.2.2.2.2.2.2.2.2.2.2.2.2.1, mu.2.2.2.2.2.2.2.2.2.2.2.2.2.1, mu.2.2.2.2.2.2.2.2.2.2.2.2.2.2.1 + 1, upd mu.2.2.2.2.2.2.2.2.2.2.2.2.2.2.2.1 mu.2.2.2.2.2.2.2.2.2.2.2.2.2.2.1.toNatClampNeg kind, upd mu.2.2.2.2.2.2.2.2.2.2.2.2.2.2.2.2.1 mu.2.2.2.2.2.2.2.2.2.2.2.2.2.2.1.toNatClampNeg one, upd mu.2.2.2.2.2.2.2.2.2.2.2.2.2.2.2.2.2.1 mu.2.2.2.2.2.2.2.2.2.2.2.2.2.2.1.toNatClampNeg other, mu.2.2.2.2.2.2.2.2.2.2.2.2.2.2.2.2.2.2.1, mu.2.2.2.2.2.2.2.2.2.2.2.2.2.2.2.2.2.2.2.1, mu.2.2.2.2.2.2.2.2.2.2.2.2.2.2.2.2.2.2.2.2.1, mu.2.2.2.2.2.2.2.2.2.2.2.2.2.2.2.2.2.2.2.2.2.1, mu.2.2.2.2.2.2.2.2.2.2.2.2.2.2.2.2.2.2.2.2.2.2.1, mu.2.2.2.2.2.2.2.2.2.2.2.2.2.2.2.2.2.2.2.2.2.2.2.1, mu.2.2.2.2.2.2.2.2.2.2.2.2.2.2.2.2.2.2.2.2.2.2.2.2)) := hD
  refine lv_aload_n hx hb dX7_add_40 rfl (lv_at hl 0 rfl) ?_
  refine lv_aload_n hx hb dX7_add_41 rfl (lv_at hl 0 rfl) ?_
  refine va_get (D := D) (ci := 7) (v := .int (mu.2.2.2.2.2.2.2.2.2.2.2.2.2.2.1 + 1)) (C := RX7) (T := TX7) (N := 25) hx hb hts (fun _ h => List.mem_cons_of_mem _ (List.mem_append_right _ h)) hown hG.1 hP 0 rfl rfl 14 (by decide) (hts (.fieldLink RX7 103 "CatalogueLoaderModel" "doneMany" "I") (List.mem_of_getElem? (i := 2) rfl)) (fun _ h9 => h9) rfl dX7_add_42 ?_
  refine lv_iconst (v := 1) hx hb dX7_add_45 (by decide) ?_
  refine lv_isub hx hb dX7_add_46 ?_
  obtain ⟨r_2, qr_2⟩ : ∃ z, m_X7_perform (mu.1, mu.2.1, mu.2.2.1, mu.2.2.2.1, mu.2.2.2.2.1, mu.2.2.2.2.2.1, mu.2.2.2.2.2.2.1, mu.2.2.2.2.2.2.2.1, mu.2.2.2.2.2.2.2.2.1, mu.2.2.2.2.2.2.2.2.2.1, mu.2.2.2.2.2.2.2.2.2.2.1, mu.2.2.2.2.2.2.2.2.2.2.2.1, mu.2.2.2.2.2.2.2.2.2.2.2.2.1, mu.2.2.2.2.2.2.2.2.2.2.2.2.2.1, mu.2.2.2.2.2.2.2.2.2.2.2.2.2.2.1 + 1, upd mu.2.2.2.2.2.2.2.2.2.2.2.2.2.2.2.1 mu.2.2.2.2.2.2.2.2.2.2.2.2.2.2.1.toNatClampNeg kind, upd mu.2.2.2.2.2.2.2.2.2.2.2.2.2.2.2.2.1 mu.2.2.2.2.2.2.2.2.2.2.2.2.2.2.1.toNatClampNeg one, upd mu.2.2.2.2.2.2.2.2.2.2.2.2.2.2.2.2.2.1 mu.2.2.2.2.2.2.2.2.2.2.2.2.2.2.1.toNatClampNeg other, mu.2.2.2.2.2.2.2.2.2.2.2.2.2.2.2.2.2.2.1, mu.2.2.2.2.2.2.2.2.2.2.2.2.2.2.2.2.2.2.2.1, mu.2.2.2.2.2.2.2.2.2.2.2.2.2.2.2.2.2.2.2.2.1, mu.2.2.2.2.2.2.2.2.2.2.2.2.2.2.2.2.2.2.2.2.2.1, mu.2.2.2.2.2.2.2.2.2.2.2.2.2.2.2.2.2.2.2.2.2.2.1, mu.2.2.2.2.2.2.2.2.2.2.2.2.2.2.2.2.2.2.2.2.2.2.2.1, mu.2.2.2.2.2.2.2.2.2.2.2.2.2.2.2.2.2.2.2.2.2.2.2.2) ((mu.2.2.2.2.2.2.2.2.2.2.2.2.2.2.1 + 1) - 1) = some z := by cases h9 : m_X7_perform (mu.1, mu.2.1, mu.2.2.1, mu.2.2.2.1, mu.2.2.2.2.1, mu.2.2.2.2.2.1, mu.2.2.2.2.2.2.1, mu.2.2.2.2.2.2.2.1, mu.2.2.2.2.2.2.2.2.1, mu.2.2.2.2.2.2.2.2.2.1, mu.2.2.2.2.2.2.2.2.2.2.1, mu.2.2.2.2.2.2.2.2.2.2.2.1, mu.2.2.2.2.2.2.2.2.2.2.2.2.1, mu.2.2.2.2.2.2.2.2.2.2.2.2.2.1, mu.2.2.2.2.2.2.2.2.2.2.2.2.2.2.1 + 1, upd mu.2.2.2.2.2.2.2.2.2.2.2.2.2.2.2.1 mu.2.2.2.2.2.2.2.2.2.2.2.2.2.2.1.toNatClampNeg kind, upd mu.2.2.2.2.2.2.2.2.2.2.2.2.2.2.2.2.1 mu.2.2.2.2.2.2.2.2.2.2.2.2.2.2.1.toNatClampNeg one, upd mu.2.2.2.2.2.2.2.2.2.2.2.2.2.2.2.2.2.1 mu.2.2.2.2.2.2.2.2.2.2.2.2.2.2.1.toNatClampNeg other, mu.2.2.2.2.2.2.2.2.2.2.2.2.2.2.2.2.2.2.1, mu.2.2.2.2.2.2.2.2.2.2.2.2.2.2.2.2.2.2.2.1, mu.2.2.2.2.2.2.2.2.2.2.2.2.2.2.2.2.2.2.2.2.1, mu.2.2.2.2.2.2.2.2.2.2.2.2.2.2.2.2.2.2.2.2.2.1, mu.2.2.2.2.2.2.2.2.2.2.2.2.2.2.2.2.2.2.2.2.2.2.1, mu.2.2.2.2.2.2.2.2.2.2.2.2.2.2.2.2.2.2.2.2.2.2.2.1, mu.2.2.2.2.2.2.2.2.2.2.2.2.2.2.2.2.2.2.2.2.2.2.2.2) ((mu.2.2.2.2.2.2.2.2.2.2.2.2.2.2.1 + 1) - 1) with | some z => exact ⟨z, rfl⟩ | none => exfalso; simp only [m_X7_add, eq_true h_1, h9, Option.bind_none, ↓reduceIte, if_true, if_false] at hm; cases hm
  refine cq_WV (R := (cq_rm 3 71)) (args := ([.ref (amu 0), .int kind, .int one, .int other] : List Value).toArray) (y := yX7_perform) (bytes := cX7_perform) (cc := cX7_add) (maxL := 4) (nL := 4) (n := 1) (index := 106) (ret := none) (ws := wsX7_perform) (rm := cq_rm 2 48) (Ts := wsX7_add) (own := RX7) (D := D) (Y := Y) (W0 := cl_mdl Y amu (mu.1, mu.2.1, mu.2.2.1, mu.2.2.2.1, mu.2.2.2.2.1, mu.2.2.2.2.2.1, mu.2.2.2.2.2.2.1, mu.2.2.2.2.2.2.2.1, mu.2.2.2.2.2.2.2.2.1, mu.2.2.2.2.2.2.2.2.2.1, mu.2.2.2.2.2.2.2.2.2.2.1, mu.2.2.2.2.2.2.2.2.2.2.2.1, mu.2.2.2.2.2.2.2.2.2.2.2.2.1, mu.2.2.2.2.2.2.2.2.2.2.2.2.2.1, mu.2.2.2.2.2.2.2.2.2.2.2.2.2.2.1 + 1, upd mu.2.2.2.2.2.2.2.2.2.2.2.2.2.2.2.1 mu.2.2.2.2.2.2.2.2.2.2.2.2.2.2.1.toNatClampNeg kind, upd mu.2.2.2.2.2.2.2.2.2.2.2.2.2.2.2.2.1 mu.2.2.2.2.2.2.2.2.2.2.2.2.2.2.1.toNatClampNeg one, upd mu.2.2.2.2.2.2.2.2.2.2.2.2.2.2.2.2.2.1 mu.2.2.2.2.2.2.2.2.2.2.2.2.2.2.1.toNatClampNeg other, mu.2.2.2.2.2.2.2.2.2.2.2.2.2.2.2.2.2.2.1, mu.2.2.2.2.2.2.2.2.2.2.2.2.2.2.2.2.2.2.2.1, mu.2.2.2.2.2.2.2.2.2.2.2.2.2.2.2.2.2.2.2.2.1, mu.2.2.2.2.2.2.2.2.2.2.2.2.2.2.2.2.2.2.2.2.2.1, mu.2.2.2.2.2.2.2.2.2.2.2.2.2.2.2.2.2.2.2.2.2.2.1, mu.2.2.2.2.2.2.2.2.2.2.2.2.2.2.2.2.2.2.2.2.2.2.2.1, mu.2.2.2.2.2.2.2.2.2.2.2.2.2.2.2.2.2.2.2.2.2.2.2.2)) (wl := cl_mdl Y amu (mu.1, mu.2.1, mu.2.2.1, mu.2.2.2.1, mu.2.2.2.2.1, mu.2.2.2.2.2.1, mu.2.2.2.2.2.2.1, mu.2.2.2.2.2.2.2.1, mu.2.2.2.2.2.2.2.2.1, mu.2.2.2.2.2.2.2.2.2.1, mu.2.2.2.2.2.2.2.2.2.2.1, mu.2.2.2.2.2.2.2.2.2.2.2.1, mu.2.2.2.2.2.2.2.2.2.2.2.2.1, mu.2.2.2.2.2.2.2.2.2.2.2.2.2.1, mu.2.2.2.2.2.2.2.2.2.2.2.2.2.2.1 + 1, upd mu.2.2.2.2.2.2.2.2.2.2.2.2.2.2.2.1 mu.2.2.2.2.2.2.2.2.2.2.2.2.2.2.1.toNatClampNeg kind, upd mu.2.2.2.2.2.2.2.2.2.2.2.2.2.2.2.2.1 mu.2.2.2.2.2.2.2.2.2.2.2.2.2.2.1.toNatClampNeg one, upd mu.2.2.2.2.2.2.2.2.2.2.2.2.2.2.2.2.2.1 mu.2.2.2.2.2.2.2.2.2.2.2.2.2.2.1.toNatClampNeg other, mu.2.2.2.2.2.2.2.2.2.2.2.2.2.2.2.2.2.2.1, mu.2.2.2.2.2.2.2.2.2.2.2.2.2.2.2.2.2.2.2.1, mu.2.2.2.2.2.2.2.2.2.2.2.2.2.2.2.2.2.2.2.2.1, mu.2.2.2.2.2.2.2.2.2.2.2.2.2.2.2.2.2.2.2.2.2.1, mu.2.2.2.2.2.2.2.2.2.2.2.2.2.2.2.2.2.2.2.2.2.2.1, mu.2.2.2.2.2.2.2.2.2.2.2.2.2.2.2.2.2.2.2.2.2.2.2.1, mu.2.2.2.2.2.2.2.2.2.2.2.2.2.2.2.2.2.2.2.2.2.2.2.2)) (v := none) (st0 := [.int ((mu.2.2.2.2.2.2.2.2.2.2.2.2.2.2.1 + 1) - 1), .ref (amu 0)]) (As := [.int ((mu.2.2.2.2.2.2.2.2.2.2.2.2.2.2.1 + 1) - 1)]) (rest := []) (W1 := cl_mdl Y amu r_2) (C := RX7) (b := amu 0) (cl_mdl Y amu r_2) [] ⟨hx, hb, hml, hown, hts⟩ (ct_X7_perform l D Y amu (mu.1, mu.2.1, mu.2.2.1, mu.2.2.2.1, mu.2.2.2.2.1, mu.2.2.2.2.2.1, mu.2.2.2.2.2.2.1, mu.2.2.2.2.2.2.2.1, mu.2.2.2.2.2.2.2.2.1, mu.2.2.2.2.2.2.2.2.2.1, mu.2.2.2.2.2.2.2.2.2.2.1, mu.2.2.2.2.2.2.2.2.2.2.2.1, mu.2.2.2.2.2.2.2.2.2.2.2.2.1, mu.2.2.2.2.2.2.2.2.2.2.2.2.2.1, mu.2.2.2.2.2.2.2.2.2.2.2.2.2.2.1 + 1, upd mu.2.2.2.2.2.2.2.2.2.2.2.2.2.2.2.1 mu.2.2.2.2.2.2.2.2.2.2.2.2.2.2.1.toNatClampNeg kind, upd mu.2.2.2.2.2.2.2.2.2.2.2.2.2.2.2.2.1 mu.2.2.2.2.2.2.2.2.2.2.2.2.2.2.1.toNatClampNeg one, upd mu.2.2.2.2.2.2.2.2.2.2.2.2.2.2.2.2.2.1 mu.2.2.2.2.2.2.2.2.2.2.2.2.2.2.1.toNatClampNeg other, mu.2.2.2.2.2.2.2.2.2.2.2.2.2.2.2.2.2.2.1, mu.2.2.2.2.2.2.2.2.2.2.2.2.2.2.2.2.2.2.2.1, mu.2.2.2.2.2.2.2.2.2.2.2.2.2.2.2.2.2.2.2.2.1, mu.2.2.2.2.2.2.2.2.2.2.2.2.2.2.2.2.2.2.2.2.2.1, mu.2.2.2.2.2.2.2.2.2.2.2.2.2.2.2.2.2.2.2.2.2.2.1, mu.2.2.2.2.2.2.2.2.2.2.2.2.2.2.2.2.2.2.2.2.2.2.2.1, mu.2.2.2.2.2.2.2.2.2.2.2.2.2.2.2.2.2.2.2.2.2.2.2.2) ((mu.2.2.2.2.2.2.2.2.2.2.2.2.2.2.1 + 1) - 1) r_2 qr_2) (cwV 1 hts gX7_add_X7_perform rfl rfl rfl (by decide +kernel) ⟨Nat.le_of_ble_eq_true rfl, Nat.le_of_ble_eq_true rfl⟩) hG hP hD hS [0, 1, 2, 3, 4, 5, 6, 7, 8, 9, 10, 11, 12, 13, 14, 15, 16, 17, 18, 19, 20] rfl (by decide +kernel) ⟨rfl, ⟨[], rfl, rfl⟩, 21, rfl, by decide +kernel⟩ ⟨[amu 0, amu 1, amu 2, amu 3, amu 4, amu 5, amu 6, amu 7, amu 8, amu 9, amu 10, amu 11, amu 12, amu 13, amu 14, amu 15, amu 16, amu 17, amu 18, amu 19, amu 20], rfl, rfl⟩ 0 7 (qc := (RX7, TX7, 25)) (fs := [.ref (amu 1), .ref (amu 2), .ref (amu 3), .ref (amu 4), .ref (amu 5), .int mu.2.2.2.2.2.1, .ref (amu 6), .int mu.2.2.2.2.2.2.2.1, .ref (amu 7), .ref (amu 8), .ref (amu 9), .ref (amu 10), .ref (amu 11), .int mu.2.2.2.2.2.2.2.2.2.2.2.2.2.1, .int (mu.2.2.2.2.2.2.2.2.2.2.2.2.2.2.1 + 1), .ref (amu 12), .ref (amu 13), .ref (amu 14), .ref (amu 15), .ref (amu 16), .ref (amu 17), .ref (amu 18), .ref (amu 19), .ref (amu 20), .int mu.2.2.2.2.2.2.2.2.2.2.2.2.2.2.2.2.2.2.2.2.2.2.2.2]) rfl rfl rfl rfl hl.1 rfl (Nat.le_of_ble_eq_true rfl) dX7_add_47 ⟨Nat.zero_le _, Nat.zero_le _⟩ (fun H locs hP hD hS => ?_)
  change W _ _ _ _ _ _ _ _ _ _ _ _ _ _ _ (F0 m 50 _ [])
  have h9 : some r_2 = some r := by have h8 := hm; simp only [m_X7_add, eq_true h_1, qr_2, Option.bind_some, ↓reduceIte, if_true, if_false] at h8; exact h8
  have h10 := Option.some.inj h9
  subst h10
  exact cq_wV (wl := cl_mdl Y amu r_2) hx hb hr hlocks hP hS rfl rfl dX7_add_50

def m_X7_makeAnew_lp23 (mu : MdlS) (fin_1 : MdlS) : Nat → Nat → MdlS → Option (MdlS)
  | 0, k23, s0_23 => (if s0_23.2.2.2.2.2.2.2.2.2.2.2.2.2.2.1 ≤ nI k23 then some s0_23 else none)
  | n23 + 1, k23, s0_23 => (if s0_23.2.2.2.2.2.2.2.2.2.2.2.2.2.2.1 ≤ nI k23 then none else (m_X7_perform s0_23 (nI k23)).bind (fun r_6 => m_X7_makeAnew_lp23 mu fin_1 n23 (k23 + 1) r_6))
def m_X7_makeAnew_lp2 (mu : MdlS) : Nat → Nat → MdlS → Option (MdlS)
  | 0, k2, s0_2 => some s0_2
  | n2 + 1, k2, s0_2 => (if inb (nI k2) 80 = true then m_X7_makeAnew_lp2 mu n2 (k2 + 1) (s0_2.1, s0_2.2.1, s0_2.2.2.1, s0_2.2.2.2.1, s0_2.2.2.2.2.1, s0_2.2.2.2.2.2.1, s0_2.2.2.2.2.2.2.1, s0_2.2.2.2.2.2.2.2.1, s0_2.2.2.2.2.2.2.2.2.1, s0_2.2.2.2.2.2.2.2.2.2.1, s0_2.2.2.2.2.2.2.2.2.2.2.1, s0_2.2.2.2.2.2.2.2.2.2.2.2.1, s0_2.2.2.2.2.2.2.2.2.2.2.2.2.1, s0_2.2.2.2.2.2.2.2.2.2.2.2.2.2.1, s0_2.2.2.2.2.2.2.2.2.2.2.2.2.2.2.1, s0_2.2.2.2.2.2.2.2.2.2.2.2.2.2.2.2.1, s0_2.2.2.2.2.2.2.2.2.2.2.2.2.2.2.2.2.1, s0_2.2.2.2.2.2.2.2.2.2.2.2.2.2.2.2.2.2.1, upd s0_2.2.2.2.2.2.2.2.2.2.2.2.2.2.2.2.2.2.2.1 (nI k2).toNatClampNeg (vp_nar .boolean 0), s0_2.2.2.2.2.2.2.2.2.2.2.2.2.2.2.2.2.2.2.2.1, s0_2.2.2.2.2.2.2.2.2.2.2.2.2.2.2.2.2.2.2.2.2.1, s0_2.2.2.2.2.2.2.2.2.2.2.2.2.2.2.2.2.2.2.2.2.2.1, s0_2.2.2.2.2.2.2.2.2.2.2.2.2.2.2.2.2.2.2.2.2.2.2.1, s0_2.2.2.2.2.2.2.2.2.2.2.2.2.2.2.2.2.2.2.2.2.2.2.2.1, s0_2.2.2.2.2.2.2.2.2.2.2.2.2.2.2.2.2.2.2.2.2.2.2.2.2) else none)
def m_X7_makeAnew (mu : MdlS) : Option (MdlS) := (m_X7_makeAnew_lp2 mu 80 0 mu).bind (fun fin_1 => (m_X7_makeAnew_lp23 mu fin_1 fin_1.2.2.2.2.2.2.2.2.2.2.2.2.2.2.1.toNatClampNeg 0 fin_1).bind (fun fin_3 => some fin_3))
set_option maxHeartbeats 4000000 in
set_option maxRecDepth 100000 in
theorem ct_X7_makeAnew (l : Launch) (D : va_G) (Y : cq_Y) (amu : Nat → Nat) (mu : MdlS) (r : MdlS) (hm : m_X7_makeAnew mu = some r) : cq_MW l yX7_makeAnew wsX7_makeAnew (cq_rm 3 71) D Y (cl_mdl Y amu mu) [.ref (amu 0)] (none) (cl_mdl Y amu r) := by
  refine cq_body (cc := cX7_makeAnew) (maxL := 2) (ret := none) (by decide) rfl (Nat.le_of_ble_eq_true rfl) ?_
  intro p e s m below meth c hE hP hG hD ls hl
  obtain ⟨hx, hb, hr, hml, hts, hown, hnm, hlocks⟩ := hE
  have hown : s.vm.findClass RX7 = some m.cls := hown
  have hS : va_S (cq_in (cl_mdl Y amu mu)) s.heap s.heap [] := va_S.rf
  have hl : lv_has ls 2 [(0, .ref (amu 0))] := hl
  refine lv_iconst (v := 0) hx hb dX7_makeAnew_0 (by decide) ?_
  refine lv_istore_n (lv' := [(1, .int 0), (0, .ref (amu 0))]) hx hb dX7_makeAnew_1 rfl hl (by decide) rfl (fun ls hl => ?_)
  obtain ⟨fin_1, qfin_1⟩ : ∃ z, m_X7_makeAnew_lp2 mu 80 0 mu = some z := by cases h9 : m_X7_makeAnew_lp2 mu 80 0 mu with | some z => exact ⟨z, rfl⟩ | none => exfalso; simp only [m_X7_makeAnew, h9, Option.bind_none, ↓reduceIte, if_true, if_false] at hm; cases hm
  have lp2 : ∀ (n2 k2 : Nat) (s0_2 : MdlS) (H : Heap) (locs : List Loc) (ls : Array Slot), k2 + n2 = 80 → m_X7_makeAnew_lp2 mu n2 k2 s0_2 = some fin_1 → va_P D vwCl (cl_mdl Y amu s0_2) H → va_D (cq_in (cl_mdl Y amu mu)) (cl_mdl Y amu s0_2) → va_S (cq_in (cl_mdl Y amu mu)) s.heap H locs → lv_has ls 2 [(1, .int (nI k2)), (0, .ref (amu 0))] → W p l e (cq_rm 3 71) s m ([.ref (amu 0)] : List Value).toArray below meth c H locs 0 0 (MQ below (cq_W D (none) (cl_mdl Y amu mu) (cl_mdl Y amu r)) ([.ref (amu 0)] : List Value).toArray s 0 0 (cq_in (cl_mdl Y amu mu))) (F0 m 2 ls []) := by
    intro n2; induction n2 with
    | zero =>
      intro k2 s0_2 H locs ls hkn hres2 hP hD hS hl
      have hz : 80 ≤ nI k2 := cq_z (N := 80) rfl (by omega) (by omega)
      have e9 : fin_1 = s0_2 := (Option.some.inj hres2).symm
      subst e9
      refine lv_iload_n hx hb dX7_makeAnew_2 rfl (lv_at hl 0 rfl) ?_
      refine lv_bipush (v := 80) hx hb dX7_makeAnew_3 (by decide) ?_
      refine lv_icmp_ge (tgt := 21) hx hb dX7_makeAnew_5 (by decide) (fun c_2 => ?_) (fun c_2 => ?_)
      · refine lv_iconst (v := 0) hx hb dX7_makeAnew_21 (by decide) ?_
        refine lv_istore_n (lv' := [(1, .int 0), (0, .ref (amu 0))]) hx hb dX7_makeAnew_22 rfl hl (by decide) rfl (fun ls hl => ?_)
        obtain ⟨fin_3, qfin_3⟩ : ∃ z, m_X7_makeAnew_lp23 mu fin_1 fin_1.2.2.2.2.2.2.2.2.2.2.2.2.2.2.1.toNatClampNeg 0 fin_1 = some z := by cases h9 : m_X7_makeAnew_lp23 mu fin_1 fin_1.2.2.2.2.2.2.2.2.2.2.2.2.2.2.1.toNatClampNeg 0 fin_1 with | some z => exact ⟨z, rfl⟩ | none => exfalso; simp only [m_X7_makeAnew, h9, Option.bind_none, qfin_1, Option.bind_some, ↓reduceIte, if_true, if_false] at hm; cases hm
        have lp23 : ∀ (n23 k23 : Nat) (s0_23 : MdlS) (H : Heap) (locs : List Loc) (ls : Array Slot), k23 + n23 = fin_1.2.2.2.2.2.2.2.2.2.2.2.2.2.2.1.toNatClampNeg → m_X7_makeAnew_lp23 mu fin_1 n23 k23 s0_23 = some fin_3 → va_P D vwCl (cl_mdl Y amu s0_23) H → va_D (cq_in (cl_mdl Y amu mu)) (cl_mdl Y amu s0_23) → va_S (cq_in (cl_mdl Y amu mu)) s.heap H locs → lv_has ls 2 [(1, .int (nI k23)), (0, .ref (amu 0))] → W p l e (cq_rm 3 71) s m ([.ref (amu 0)] : List Value).toArray below meth c H locs 0 0 (MQ below (cq_W D (none) (cl_mdl Y amu mu) (cl_mdl Y amu r)) ([.ref (amu 0)] : List Value).toArray s 0 0 (cq_in (cl_mdl Y amu mu))) (F0 m 23 ls []) := by
          intro n23; induction n23 with
          | zero =>
            intro k23 s0_23 H locs ls hkn hres23 hP hD hS hl
            have hz : s0_23.2.2.2.2.2.2.2.2.2.2.2.2.2.2.1 ≤ nI k23 := by by_cases h9 : s0_23.2.2.2.2.2.2.2.2.2.2.2.2.2.2.1 ≤ nI k23; exact h9; exfalso; simp only [m_X7_makeAnew_lp23, eq_false h9, ↓reduceIte, if_false] at hres23; cases hres23
            have hdy := hres23
            simp only [m_X7_makeAnew_lp23, eq_true hz, ↓reduceIte, if_true] at hdy
            have e9 : fin_3 = s0_23 := (Option.some.inj hdy).symm
            subst e9
            refine lv_iload_n hx hb dX7_makeAnew_23 rfl (lv_at hl 0 rfl) ?_
            refine lv_aload_n hx hb dX7_makeAnew_24 rfl (lv_at hl 1 rfl) ?_
            refine va_get (D := D) (ci := 7) (v := .int fin_3.2.2.2.2.2.2.2.2.2.2.2.2.2.2.1) (C := RX7) (T := TX7) (N := 25) hx hb hts (fun _ h => List.mem_cons_of_mem _ (List.mem_append_right _ h)) hown hG.1 hP 0 rfl rfl 14 (by decide) (hts (.fieldLink RX7 103 "CatalogueLoaderModel" "doneMany" "I") (List.mem_of_getElem? (i := 2) rfl)) (fun _ h9 => h9) rfl dX7_makeAnew_25 ?_
            refine lv_icmp_ge (tgt := 42) hx hb dX7_makeAnew_28 (by decide) (fun c_4 => ?_) (fun c_4 => ?_)
            · have h9 : some fin_3 = some r := by have h8 := hm; simp only [m_X7_makeAnew, qfin_1, Option.bind_some, qfin_3, Option.bind_some, ↓reduceIte, if_true, if_false] at h8; exact h8
              have h10 := Option.some.inj h9
              subst h10
              exact cq_wV (wl := cl_mdl Y amu fin_3) hx hb hr hlocks hP hS rfl rfl dX7_makeAnew_42
            · exact absurd hz c_4
          | succ n23 ih23 =>
            intro k23 s0_23 H locs ls hkn hres23 hP hD hS hl
            have hz : ¬ (s0_23.2.2.2.2.2.2.2.2.2.2.2.2.2.2.1 ≤ nI k23) := by by_cases h9 : s0_23.2.2.2.2.2.2.2.2.2.2.2.2.2.2.1 ≤ nI k23; (exfalso; simp only [m_X7_makeAnew_lp23, eq_true h9, ↓reduceIte, if_true] at hres23; cases hres23); exact h9
            refine lv_iload_n hx hb dX7_makeAnew_23 rfl (lv_at hl 0 rfl) ?_
            refine lv_aload_n hx hb dX7_makeAnew_24 rfl (lv_at hl 1 rfl) ?_
            refine va_get (D := D) (ci := 7) (v := .int s0_23.2.2.2.2.2.2.2.2.2.2.2.2.2.2.1) (C := RX7) (T := TX7) (N := 25) hx hb hts (fun _ h => List.mem_cons_of_mem _ (List.mem_append_right _ h)) hown hG.1 hP 0 rfl rfl 14 (by decide) (hts (.fieldLink RX7 103 "CatalogueLoaderModel" "doneMany" "I") (List.mem_of_getElem? (i := 2) rfl)) (fun _ h9 => h9) rfl dX7_makeAnew_25 ?_
            refine lv_icmp_ge (tgt := 42) hx hb dX7_makeAnew_28 (by decide) (fun c_5 => ?_) (fun c_5 => ?_)
            · exact absurd c_5 hz
            · refine lv_aload_n hx hb dX7_makeAnew_31 rfl (lv_at hl 1 rfl) ?_
              refine lv_iload_n hx hb dX7_makeAnew_32 rfl (lv_at hl 0 rfl) ?_
              obtain ⟨r_6, qr_6⟩ : ∃ z, m_X7_perform s0_23 (nI k23) = some z := by cases h9 : m_X7_perform s0_23 (nI k23) with | some z => exact ⟨z, rfl⟩ | none => exfalso; simp only [m_X7_makeAnew_lp23, eq_false hz, h9, Option.bind_none, qfin_1, Option.bind_some, ↓reduceIte, if_true, if_false] at hres23; cases hres23
              refine cq_WV (R := (cq_rm 3 71)) (args := ([.ref (amu 0)] : List Value).toArray) (y := yX7_perform) (bytes := cX7_perform) (cc := cX7_makeAnew) (maxL := 4) (nL := 2) (n := 1) (index := 106) (ret := none) (ws := wsX7_perform) (rm := cq_rm 2 48) (Ts := wsX7_makeAnew) (own := RX7) (D := D) (Y := Y) (W0 := cl_mdl Y amu s0_23) (wl := cl_mdl Y amu s0_23) (v := none) (st0 := [.int (nI k23), .ref (amu 0)]) (As := [.int (nI k23)]) (rest := []) (W1 := cl_mdl Y amu r_6) (C := RX7) (b := amu 0) (cl_mdl Y amu r_6) [] ⟨hx, hb, hml, hown, hts⟩ (ct_X7_perform l D Y amu s0_23 (nI k23) r_6 qr_6) (cwV 1 hts gX7_makeAnew_X7_perform rfl rfl rfl (by decide +kernel) ⟨Nat.le_of_ble_eq_true rfl, Nat.le_of_ble_eq_true rfl⟩) hG hP hD hS [0, 1, 2, 3, 4, 5, 6, 7, 8, 9, 10, 11, 12, 13, 14, 15, 16, 17, 18, 19, 20] rfl (by decide +kernel) ⟨rfl, ⟨[], rfl, rfl⟩, 21, rfl, by decide +kernel⟩ ⟨[amu 0, amu 1, amu 2, amu 3, amu 4, amu 5, amu 6, amu 7, amu 8, amu 9, amu 10, amu 11, amu 12, amu 13, amu 14, amu 15, amu 16, amu 17, amu 18, amu 19, amu 20], rfl, rfl⟩ 0 7 (qc := (RX7, TX7, 25)) (fs := [.ref (amu 1), .ref (amu 2), .ref (amu 3), .ref (amu 4), .ref (amu 5), .int s0_23.2.2.2.2.2.1, .ref (amu 6), .int s0_23.2.2.2.2.2.2.2.1, .ref (amu 7), .ref (amu 8), .ref (amu 9), .ref (amu 10), .ref (amu 11), .int s0_23.2.2.2.2.2.2.2.2.2.2.2.2.2.1, .int s0_23.2.2.2.2.2.2.2.2.2.2.2.2.2.2.1, .ref (amu 12), .ref (amu 13), .ref (amu 14), .ref (amu 15), .ref (amu 16), .ref (amu 17), .ref (amu 18), .ref (amu 19), .ref (amu 20), .int s0_23.2.2.2.2.2.2.2.2.2.2.2.2.2.2.2.2.2.2.2.2.2.2.2.2]) rfl rfl rfl rfl hl.1 rfl (Nat.le_of_ble_eq_true rfl) dX7_makeAnew_33 ⟨Nat.zero_le _, Nat.zero_le _⟩ (fun H locs hP hD hS => ?_)
              change W _ _ _ _ _ _ _ _ _ _ _ _ _ _ _ (F0 m 36 _ [])
              refine lv_iinc (v := nI (k23 + 1)) (lv' := [(1, .int (nI (k23 + 1))), (0, .ref (amu 0))]) hx hb dX7_makeAnew_36 hl (k := 0) rfl (nI_1 k23) (by decide) rfl (fun ls hl => ?_)
              refine lv_goto (tgt := 23) hx hb dX7_makeAnew_39 (by decide) ?_
              exact ih23 (k23 + 1) r_6 _ _ _ (by omega) (Eq.trans (by simp only [m_X7_makeAnew_lp23, eq_false hz, qfin_1, Option.bind_some, qr_6, Option.bind_some, ↓reduceIte, if_true, if_false]) hres23) hP hD hS (lv_sub hl [0, 1] rfl)
        exact lp23 fin_1.2.2.2.2.2.2.2.2.2.2.2.2.2.2.1.toNatClampNeg 0 fin_1 _ _ _ (Nat.zero_add _) qfin_3 hP hD hS (lv_sub hl [0, 1] rfl)
      · exact absurd hz c_2
    | succ n2 ih2 =>
      intro k2 s0_2 H locs ls hkn hres2 hP hD hS hl
      have hz : ¬ (80 ≤ nI k2) := cq_s (N := 80) rfl (by omega) (by omega)
      refine lv_iload_n hx hb dX7_makeAnew_2 rfl (lv_at hl 0 rfl) ?_
      refine lv_bipush (v := 80) hx hb dX7_makeAnew_3 (by decide) ?_
      refine lv_icmp_ge (tgt := 21) hx hb dX7_makeAnew_5 (by decide) (fun c_7 => ?_) (fun c_7 => ?_)
      · exact absurd c_7 hz
      · refine lv_aload_n hx hb dX7_makeAnew_8 rfl (lv_at hl 1 rfl) ?_
        refine va_get (D := D) (ci := 7) (v := .ref (amu 15)) (C := RX7) (T := TX7) (N := 25) hx hb hts (fun _ h => List.mem_cons_of_mem _ (List.mem_append_right _ h)) hown hG.1 hP 0 rfl rfl 18 (by decide) (hts (.fieldLink RX7 53 "CatalogueLoaderModel" "isIn" "[Z") (List.mem_of_getElem? (i := 1) rfl)) (fun _ h9 => h9) rfl dX7_makeAnew_9 ?_
        refine lv_iload_n hx hb dX7_makeAnew_12 rfl (lv_at hl 0 rfl) ?_
        refine lv_iconst (v := 0) hx hb dX7_makeAnew_13 (by decide) ?_
        have h_8 : inb (nI k2) 80 = true := by by_cases h9 : inb (nI k2) 80 = true; exact h9; exfalso; simp only [m_X7_makeAnew_lp2, eq_false h9, ↓reduceIte, if_true, if_false] at hres2; cases hres2
        refine va_zast hx hb hG.1 hP hD hS 15 1 rfl rfl (inb_in h_8) dX7_makeAnew_14 (fun H locs hP hD hS => ?_)
        have hP : va_P D vwCl (cl_mdl Y amu (s0_2.1, s0_2.2.1, s0_2.2.2.1, s0_2.2.2.2.1, s0_2.2.2.2.2.1, s0_2.2.2.2.2.2.1, s0_2.2.2.2.2.2.2.1, s0_2.2.2.2.2.2.2.2.1, s0_2.2.2.2.2.2.2.2.2.1, s0_2.2.2.2.2.2.2.2.2.2.1, s0_2.2.2.2.2.2.2.2.2.2.2.1, s0_2.2.2.2.2.2.2.2.2.2.2.2.1, s0_2.2.2.2.2.2.2.2.2.2.2.2.2.1, s0_2.2.2.2.2.2.2.2.2.2.2.2.2.2.1, s0_2.2.2.2.2.2.2.2.2.2.2.2.2.2.2.1, s0_2.2.2.2.2.2.2.2.2.2.2.2.2.2.2.2.1, s0_2.2.2.2.2.2.2.2.2.2.2.2.2.2.2.2.2.1, s0_2.2.2.2.2.2.2.2.2.2.2.2.2.2.2.2.2.2.1, upd s0_2.2.2.2.2.2.2.2.2.2.2.2.2.2.2.2.2.2.2.1 (nI k2).toNatClampNeg (vp_nar .boolean 0), s0_2.2.2.2.2.2.2.2.2.2.2.2.2.2.2.2.2.2.2.2.1, s0_2.2.2.2.2.2.2.2.2.2.2.2.2.2.2.2.2.2.2.2.2.1, s0_2.2.2.2.2.2.2.2.2.2.2.2.2.2.2.2.2.2.2.2.2.2.1, s0_2.2.2.2.2.2.2.2.2.2.2.2.2.2.2.2.2.2.2.2.2.2.2.1, s0_2.2.2.2.2.2.2.2.2.2.2.2.2.2.2.2.2.2.2.2.2.2.2.2.1, s0_2.2.2.2.2.2.2.2.2.2.2.2.2.2.2.2.2.2.2.2.2.2.2.2.2)) H := hP
        have hD : va_D (cq_in (cl_mdl Y amu mu)) (cl_mdl Y amu (s0_2.1, s0_2.2.1, s0_2.2.2.1, s0_2.2.2.2.1, s0_2.2.2.2.2.1, s0_2.2.2.2.2.2.1, s0_2.2.2.2.2.2.2.1, s0_2.2.2.2.2.2.2.2.1, s0_2.2.2.2.2.2.2.2.2.1, s0_2.2.2.2.2.2.2.2.2.2.1, s0_2.2.2.2.2.2.2.2.2.2.2.1, s0_2.2.2.2.2.2.2.2.2.2.2.2.1, s0_2.2.2.2.2.2.2.2.2.2.2.2.2.1, s0_2.2.2.2.2.2.2.2.2.2.2.2.2.2.1, s0_2.2.2.2.2.2.2.2.2.2.2.2.2.2.2.1, s0_2.2.2.2.2.2.2.2.2.2.2.2.2.2.2.2.1, s0_2.2.2.2.2.2.2.2.2.2.2.2.2.2.2.2.2.1, s0_2.2.2.2.2.2.2.2.2.2.2.2.2.2.2.2.2.2.1, upd s0_2.2.2.2.2.2.2.2.2.2.2.2.2.2.2.2.2.2.2.1 (nI k2).toNatClampNeg (vp_nar .boolean 0), s0_2.2.2.2.2.2.2.2.2.2.2.2.2.2.2.2.2.2.2.2.1, s0_2.2.2.2.2.2.2.2.2.2.2.2.2.2.2.2.2.2.2.2.2.1, s0_2.2.2.2.2.2.2.2.2.2.2.2.2.2.2.2.2.2.2.2.2.2.1, s0_2.2.2.2.2.2.2.2.2.2.2.2.2.2.2.2.2.2.2.2.2.2.2.1, s0_2.2.2.2.2.2.2.2.2.2.2.2.2.2.2.2.2.2.2.2.2.2.2.2.1, s0_2.2.2.2.2.2.2.2.2.2.2.2.2.2.2.2.2.2.2.2.2.2.2.2.2)) := hD
        refine lv_iinc (v := nI (k2 + 1)) (lv' := [(1, .int (nI (k2 + 1))), (0, .ref (amu 0))]) hx hb dX7_makeAnew_15 hl (k := 0) rfl (nI_1 k2) (by decide) rfl (fun ls hl => ?_)
        refine lv_goto (tgt := 2) hx hb dX7_makeAnew_18 (by decide) ?_
        exact ih2 (k2 + 1) (s0_2.1, s0_2.2.1, s0_2.2.2.1, s0_2.2.2.2.1, s0_2.2.2.2.2.1, s0_2.2.2.2.2.2.1, s0_2.2.2.2.2.2.2.1, s0_2.2.2.2.2.2.2.2.1, s0_2.2.2.2.2.2.2.2.2.1, s0_2.2.2.2.2.2.2.2.2.2.1, s0_2.2.2.2.2.2.2.2.2.2.2.1, s0_2.2.2.2.2.2.2.2.2.2.2.2.1, s0_2.2.2.2.2.2.2.2.2.2.2.2.2.1, s0_2.2.2.2.2.2.2.2.2.2.2.2.2.2.1, s0_2.2.2.2.2.2.2.2.2.2.2.2.2.2.2.1, s0_2.2.2.2.2.2.2.2.2.2.2.2.2.2.2.2.1, s0_2.2.2.2.2.2.2.2.2.2.2.2.2.2.2.2.2.1, s0_2.2.2.2.2.2.2.2.2.2.2.2.2.2.2.2.2.2.1, upd s0_2.2.2.2.2.2.2.2.2.2.2.2.2.2.2.2.2.2.2.1 (nI k2).toNatClampNeg (vp_nar .boolean 0), s0_2.2.2.2.2.2.2.2.2.2.2.2.2.2.2.2.2.2.2.2.1, s0_2.2.2.2.2.2.2.2.2.2.2.2.2.2.2.2.2.2.2.2.2.1, s0_2.2.2.2.2.2.2.2.2.2.2.2.2.2.2.2.2.2.2.2.2.2.1, s0_2.2.2.2.2.2.2.2.2.2.2.2.2.2.2.2.2.2.2.2.2.2.2.1, s0_2.2.2.2.2.2.2.2.2.2.2.2.2.2.2.2.2.2.2.2.2.2.2.2.1, s0_2.2.2.2.2.2.2.2.2.2.2.2.2.2.2.2.2.2.2.2.2.2.2.2.2) _ _ _ (by omega) (Eq.trans (by simp only [m_X7_makeAnew_lp2, eq_true h_8, ↓reduceIte, if_true, if_false]) hres2) hP hD hS (lv_sub hl [0, 1] rfl)
  exact lp2 80 0 mu _ _ _ (Nat.zero_add _) qfin_1 hP hD hS (lv_sub hl [0, 1] rfl)

def m_X7_isRecord (mu : MdlS) (record : Int32) : Option (Int32) := (if m_X7_in record 0 79 = 0 then some 0 else (if inb record 80 = true then (if mu.2.2.2.2.2.2.2.2.2.2.2.2.2.2.2.2.2.2.1 record.toNatClampNeg = 0 then some 0 else some 1) else none))
set_option maxHeartbeats 4000000 in
set_option maxRecDepth 100000 in
theorem ct_X7_isRecord (l : Launch) (D : va_G) (Y : cq_Y) (amu : Nat → Nat) (mu : MdlS) (record : Int32) (r : Int32) (hm : m_X7_isRecord mu record = some r) : cq_MR l yX7_isRecord wsX7_isRecord (cq_rm 1 22) D Y (cl_mdl Y amu mu) [.ref (amu 0), .int record] (some (.int r)) := by
  refine cq_body (cc := cX7_isRecord) (maxL := 2) (ret := (some .boolean)) (by decide) rfl (Nat.le_of_ble_eq_true rfl) ?_
  intro p e s m below meth c hE hP hG hD ls hl
  obtain ⟨hx, hb, hr, hml, hts, hown, hnm, hlocks⟩ := hE
  have hown : s.vm.findClass RX7 = some m.cls := hown
  have hl : lv_has ls 2 [(0, .ref (amu 0)), (1, .int record)] := hl
  refine lv_iload_n hx hb dX7_isRecord_0 rfl (lv_at hl 1 rfl) ?_
  refine lv_iconst (v := 0) hx hb dX7_isRecord_1 (by decide) ?_
  refine lv_bipush (v := 79) hx hb dX7_isRecord_2 (by decide) ?_
  refine cq_RS (R := (cq_rm 1 22)) (args := ([.ref (amu 0), .int record] : List Value).toArray) (y := yX7_in) (bytes := cX7_in) (cc := cX7_isRecord) (maxL := 3) (nL := 2) (n := 3) (index := 78) (ret := (some .boolean)) (ws := wsX7_in) (rm := cq_rm 0 0) (Ts := wsX7_isRecord) (own := RX7) (D := D) (Y := Y) (W0 := ([] : va_W)) (wl := cl_mdl Y amu mu) (v := some (.int (m_X7_in record 0 79))) (st0 := [.int 79, .int 0, .int record]) (As := [.int record, .int 0, .int 79]) (rest := []) ⟨hx, hb, hml, hown, hts⟩ (ct_X7_in l D Y  record 0 79) (va_cwS 3 hts gX7_isRecord_X7_in rfl rfl rfl (by decide +kernel) ⟨Nat.le_of_ble_eq_true rfl, Nat.le_of_ble_eq_true rfl⟩) hG hP hD [] rfl (by decide +kernel) rfl hl.1 rfl (Nat.le_of_ble_eq_true rfl) dX7_isRecord_4 ⟨Nat.zero_le _, Nat.zero_le _⟩ ?_
  change W _ _ _ _ _ _ _ _ _ _ _ _ _ _ _ (F0 m 7 _ (.int (m_X7_in record 0 79) :: []))
  refine lv_if_eq (tgt := 23) hx hb dX7_isRecord_7 (by decide) (fun c_1 => ?_) (fun c_1 => ?_)
  · refine lv_iconst (v := 0) hx hb dX7_isRecord_23 (by decide) ?_
    have h9 : some 0 = some r := by have h8 := hm; simp only [m_X7_isRecord, eq_true c_1, ↓reduceIte, if_true, if_false] at h8; exact h8
    have h10 := Option.some.inj h9
    subst h10
    exact cq_rI hx hb hr hlocks rfl rfl dX7_isRecord_24
  · refine lv_aload_n hx hb dX7_isRecord_10 rfl (lv_at hl 0 rfl) ?_
    refine va_get (D := D) (ci := 7) (v := .ref (amu 15)) (C := RX7) (T := TX7) (N := 25) hx hb hts (fun _ h => List.mem_cons_of_mem _ (List.mem_append_right _ h)) hown hG.1 hP 0 rfl rfl 18 (by decide) (hts (.fieldLink RX7 53 "CatalogueLoaderModel" "isIn" "[Z") (List.mem_of_getElem? (i := 1) rfl)) (fun _ h9 => h9) rfl dX7_isRecord_11 ?_
    refine lv_iload_n hx hb dX7_isRecord_14 rfl (lv_at hl 1 rfl) ?_
    have h_2 : inb record 80 = true := by by_cases h9 : inb record 80 = true; exact h9; exfalso; simp only [m_X7_isRecord, eq_false c_1, eq_false h9, ↓reduceIte, if_true, if_false] at hm; cases hm
    refine va_zald hx hb hG.1 hP 15 1 rfl rfl (inb_in h_2) dX7_isRecord_15 ?_
    refine lv_if_eq (tgt := 23) hx hb dX7_isRecord_16 (by decide) (fun c_3 => ?_) (fun c_3 => ?_)
    · refine lv_iconst (v := 0) hx hb dX7_isRecord_23 (by decide) ?_
      have h9 : some 0 = some r := by have h8 := hm; simp only [m_X7_isRecord, eq_false c_1, eq_true h_2, eq_true c_3, ↓reduceIte, if_true, if_false] at h8; exact h8
      have h10 := Option.some.inj h9
      subst h10
      exact cq_rI hx hb hr hlocks rfl rfl dX7_isRecord_24
    · refine lv_iconst (v := 1) hx hb dX7_isRecord_19 (by decide) ?_
      refine lv_goto (tgt := 24) hx hb dX7_isRecord_20 (by decide) ?_
      have h9 : some 1 = some r := by have h8 := hm; simp only [m_X7_isRecord, eq_false c_1, eq_true h_2, eq_false c_3, ↓reduceIte, if_true, if_false] at h8; exact h8
      have h10 := Option.some.inj h9
      subst h10
      exact cq_rI hx hb hr hlocks rfl rfl dX7_isRecord_24

def m_X7_recordMany_lp4 (mu : MdlS) : Nat → Nat → Int32 → Option (Int32)
  | 0, k4, x1_4 => some x1_4
  | n4 + 1, k4, x1_4 => (if inb (nI k4) 80 = true then (if mu.2.2.2.2.2.2.2.2.2.2.2.2.2.2.2.2.2.2.1 (nI k4).toNatClampNeg = 0 then (let x_6 := x1_4 + 0; m_X7_recordMany_lp4 mu n4 (k4 + 1) x_6) else (let x_7 := x1_4 + 1; m_X7_recordMany_lp4 mu n4 (k4 + 1) x_7)) else none)
def m_X7_recordMany (mu : MdlS) : Option (Int32) := (m_X7_recordMany_lp4 mu 80 0 0).bind (fun fin_1 => some fin_1)
set_option maxHeartbeats 4000000 in
set_option maxRecDepth 100000 in
theorem ct_X7_recordMany (l : Launch) (D : va_G) (Y : cq_Y) (amu : Nat → Nat) (mu : MdlS) (r : Int32) (hm : m_X7_recordMany mu = some r) : cq_MR l yX7_recordMany wsX7_recordMany (cq_rm 0 0) D Y (cl_mdl Y amu mu) [.ref (amu 0)] (some (.int r)) := by
  refine cq_body (cc := cX7_recordMany) (maxL := 3) (ret := (some .int)) (by decide) rfl (Nat.le_of_ble_eq_true rfl) ?_
  intro p e s m below meth c hE hP hG hD ls hl
  obtain ⟨hx, hb, hr, hml, hts, hown, hnm, hlocks⟩ := hE
  have hown : s.vm.findClass RX7 = some m.cls := hown
  have hl : lv_has ls 3 [(0, .ref (amu 0))] := hl
  refine lv_iconst (v := 0) hx hb dX7_recordMany_0 (by decide) ?_
  refine lv_istore_n (lv' := [(1, .int 0), (0, .ref (amu 0))]) hx hb dX7_recordMany_1 rfl hl (by decide) rfl (fun ls hl => ?_)
  refine lv_iconst (v := 0) hx hb dX7_recordMany_2 (by decide) ?_
  refine lv_istore_n (lv' := [(2, .int 0), (1, .int 0), (0, .ref (amu 0))]) hx hb dX7_recordMany_3 rfl hl (by decide) rfl (fun ls hl => ?_)
  obtain ⟨fin_1, qfin_1⟩ : ∃ z, m_X7_recordMany_lp4 mu 80 0 0 = some z := by cases h9 : m_X7_recordMany_lp4 mu 80 0 0 with | some z => exact ⟨z, rfl⟩ | none => exfalso; simp only [m_X7_recordMany, h9, Option.bind_none, ↓reduceIte, if_true, if_false] at hm; cases hm
  have lp4 : ∀ (n4 k4 : Nat) (x1_4 : Int32) (ls : Array Slot), k4 + n4 = 80 → m_X7_recordMany_lp4 mu n4 k4 x1_4 = some fin_1 → lv_has ls 3 [(2, .int (nI k4)), (1, .int x1_4), (0, .ref (amu 0))] → W p l e (cq_rm 0 0) s m ([.ref (amu 0)] : List Value).toArray below meth c s.heap [] 0 0 (MQ below (cq_R (some (.int r))) ([.ref (amu 0)] : List Value).toArray s 0 0 (fun _ => False)) (F0 m 4 ls []) := by
    intro n4; induction n4 with
    | zero =>
      intro k4 x1_4 ls hkn hres4 hl
      have hz : 80 ≤ nI k4 := cq_z (N := 80) rfl (by omega) (by omega)
      have e9 : fin_1 = x1_4 := (Option.some.inj hres4).symm
      subst e9
      refine lv_iload_n hx hb dX7_recordMany_4 rfl (lv_at hl 0 rfl) ?_
      refine lv_bipush (v := 80) hx hb dX7_recordMany_5 (by decide) ?_
      refine lv_icmp_ge (tgt := 33) hx hb dX7_recordMany_7 (by decide) (fun c_2 => ?_) (fun c_2 => ?_)
      · refine lv_iload_n hx hb dX7_recordMany_33 rfl (lv_at hl 1 rfl) ?_
        have h9 : some fin_1 = some r := by have h8 := hm; simp only [m_X7_recordMany, qfin_1, Option.bind_some, ↓reduceIte, if_true, if_false] at h8; exact h8
        have h10 := Option.some.inj h9
        subst h10
        exact cq_rI hx hb hr hlocks (vp_nar_int _) rfl dX7_recordMany_34
      · exact absurd hz c_2
    | succ n4 ih4 =>
      intro k4 x1_4 ls hkn hres4 hl
      have hz : ¬ (80 ≤ nI k4) := cq_s (N := 80) rfl (by omega) (by omega)
      refine lv_iload_n hx hb dX7_recordMany_4 rfl (lv_at hl 0 rfl) ?_
      refine lv_bipush (v := 80) hx hb dX7_recordMany_5 (by decide) ?_
      refine lv_icmp_ge (tgt := 33) hx hb dX7_recordMany_7 (by decide) (fun c_3 => ?_) (fun c_3 => ?_)
      · exact absurd c_3 hz
      · refine lv_iload_n hx hb dX7_recordMany_10 rfl (lv_at hl 1 rfl) ?_
        refine lv_aload_n hx hb dX7_recordMany_11 rfl (lv_at hl 2 rfl) ?_
        refine va_get (D := D) (ci := 7) (v := .ref (amu 15)) (C := RX7) (T := TX7) (N := 25) hx hb hts (fun _ h => List.mem_cons_of_mem _ (List.mem_append_right _ h)) hown hG.1 hP 0 rfl rfl 18 (by decide) (hts (.fieldLink RX7 53 "CatalogueLoaderModel" "isIn" "[Z") (List.mem_of_getElem? (i := 1) rfl)) (fun _ h9 => h9) rfl dX7_recordMany_12 ?_
        refine lv_iload_n hx hb dX7_recordMany_15 rfl (lv_at hl 0 rfl) ?_
        have h_4 : inb (nI k4) 80 = true := by by_cases h9 : inb (nI k4) 80 = true; exact h9; exfalso; simp only [m_X7_recordMany_lp4, eq_false h9, ↓reduceIte, if_true, if_false] at hres4; cases hres4
        refine va_zald hx hb hG.1 hP 15 1 rfl rfl (inb_in h_4) dX7_recordMany_16 ?_
        refine lv_if_eq (tgt := 24) hx hb dX7_recordMany_17 (by decide) (fun c_5 => ?_) (fun c_5 => ?_)
        · refine lv_iconst (v := 0) hx hb dX7_recordMany_24 (by decide) ?_
          refine lv_iadd hx hb dX7_recordMany_25 ?_
          refine lv_topi (fun x_6 ex_6 => ?_)
          refine lv_istore_n (lv' := [(1, .int x_6), (2, .int (nI k4)), (0, .ref (amu 0))]) hx hb dX7_recordMany_26 rfl hl (by decide) rfl (fun ls hl => ?_)
          refine lv_iinc (v := nI (k4 + 1)) (lv' := [(2, .int (nI (k4 + 1))), (1, .int x_6), (0, .ref (amu 0))]) hx hb dX7_recordMany_27 hl (k := 1) rfl (nI_1 k4) (by decide) rfl (fun ls hl => ?_)
          refine lv_goto (tgt := 4) hx hb dX7_recordMany_30 (by decide) ?_
          exact ih4 (k4 + 1) x_6 _ (by omega) (Eq.trans (by subst ex_6; simp only [m_X7_recordMany_lp4, eq_true h_4, eq_true c_5, ↓reduceIte, if_true, if_false]) hres4) (lv_sub hl [0, 1, 2] rfl)
        · refine lv_iconst (v := 1) hx hb dX7_recordMany_20 (by decide) ?_
          refine lv_goto (tgt := 25) hx hb dX7_recordMany_21 (by decide) ?_
          refine lv_iadd hx hb dX7_recordMany_25 ?_
          refine lv_topi (fun x_7 ex_7 => ?_)
          refine lv_istore_n (lv' := [(1, .int x_7), (2, .int (nI k4)), (0, .ref (amu 0))]) hx hb dX7_recordMany_26 rfl hl (by decide) rfl (fun ls hl => ?_)
          refine lv_iinc (v := nI (k4 + 1)) (lv' := [(2, .int (nI (k4 + 1))), (1, .int x_7), (0, .ref (amu 0))]) hx hb dX7_recordMany_27 hl (k := 1) rfl (nI_1 k4) (by decide) rfl (fun ls hl => ?_)
          refine lv_goto (tgt := 4) hx hb dX7_recordMany_30 (by decide) ?_
          exact ih4 (k4 + 1) x_7 _ (by omega) (Eq.trans (by subst ex_7; simp only [m_X7_recordMany_lp4, eq_true h_4, eq_false c_5, ↓reduceIte, if_true, if_false]) hres4) (lv_sub hl [0, 1, 2] rfl)
  exact lp4 80 0 0 _ (Nat.zero_add _) qfin_1 (lv_sub hl [0, 1, 2] rfl)

def m_X7_sum_lp63 (mu : MdlS) (k4 : Nat) (x1_4 : Int32) (fin_4 : Int32) : Nat → Nat → Int32 → Option (Int32)
  | 0, k63, x3_63 => some x3_63
  | n63 + 1, k63, x3_63 => (if inb ((4 * (nI k4)) + (nI k63)) 320 = true then (if mu.2.2.2.2.2.2.2.2.2.2.2.2.2.2.2.2.2.2.2.2.1 ((4 * (nI k4)) + (nI k63)).toNatClampNeg = (-1) then (let x_16 := x3_63 + 0; m_X7_sum_lp63 mu k4 x1_4 fin_4 n63 (k63 + 1) x_16) else (let x_15 := x3_63 + (mu.2.2.2.2.2.2.2.2.2.2.2.2.2.2.2.2.2.2.2.2.1 ((4 * (nI k4)) + (nI k63)).toNatClampNeg); m_X7_sum_lp63 mu k4 x1_4 fin_4 n63 (k63 + 1) x_15)) else none)
def m_X7_sum_lp15 (mu : MdlS) (k4 : Nat) (x1_4 : Int32) : Nat → Nat → Int32 → Option (Int32)
  | 0, k15, x3_15 => some x3_15
  | n15 + 1, k15, x3_15 => (if inb ((3 * (nI k4)) + (nI k15)) 240 = true then (if mu.2.2.2.2.2.2.2.2.2.2.2.2.2.2.2.2.2.2.2.1 ((3 * (nI k4)) + (nI k15)).toNatClampNeg = (-1) then (let x_21 := x3_15 + 0; m_X7_sum_lp15 mu k4 x1_4 n15 (k15 + 1) x_21) else (let x_20 := x3_15 + (mu.2.2.2.2.2.2.2.2.2.2.2.2.2.2.2.2.2.2.2.1 ((3 * (nI k4)) + (nI k15)).toNatClampNeg); m_X7_sum_lp15 mu k4 x1_4 n15 (k15 + 1) x_20)) else none)
def m_X7_sum_lp4 (mu : MdlS) : Nat → Nat → Int32 → Option (Int32)
  | 0, k4, x1_4 => some x1_4
  | n4 + 1, k4, x1_4 => (m_X7_sum_lp15 mu k4 x1_4 3 0 0).bind (fun fin_4 => (m_X7_sum_lp63 mu k4 x1_4 fin_4 4 0 fin_4).bind (fun fin_6 => (if inb (nI k4) 80 = true then (if mu.2.2.2.2.2.2.2.2.2.2.2.2.2.2.2.2.2.2.1 (nI k4).toNatClampNeg = 0 then (let x_10 := x1_4 + 0; m_X7_sum_lp4 mu n4 (k4 + 1) x_10) else (let x_11 := x1_4 + ((fin_6 * (1 + (nI k4))) + (mu.2.2.2.2.2.2.2.2.2.2.2.2.2.2.2.2.2.2.2.2.2.2.2.1 (nI k4).toNatClampNeg)); m_X7_sum_lp4 mu n4 (k4 + 1) x_11)) else none)))
def m_X7_sum (mu : MdlS) : Option (Int32) := (m_X7_sum_lp4 mu 80 0 0).bind (fun fin_1 => some fin_1)
set_option maxHeartbeats 4000000 in
set_option maxRecDepth 100000 in
theorem ct_X7_sum (l : Launch) (D : va_G) (Y : cq_Y) (amu : Nat → Nat) (mu : MdlS) (r : Int32) (hm : m_X7_sum mu = some r) : cq_MR l yX7_sum wsX7_sum (cq_rm 0 0) D Y (cl_mdl Y amu mu) [.ref (amu 0)] (some (.int r)) := by
  refine cq_body (cc := cX7_sum) (maxL := 5) (ret := (some .int)) (by decide) rfl (Nat.le_of_ble_eq_true rfl) ?_
  intro p e s m below meth c hE hP hG hD ls hl
  obtain ⟨hx, hb, hr, hml, hts, hown, hnm, hlocks⟩ := hE
  have hown : s.vm.findClass RX7 = some m.cls := hown
  have hl : lv_has ls 5 [(0, .ref (amu 0))] := hl
  refine lv_iconst (v := 0) hx hb dX7_sum_0 (by decide) ?_
  refine lv_istore_n (lv' := [(1, .int 0), (0, .ref (amu 0))]) hx hb dX7_sum_1 rfl hl (by decide) rfl (fun ls hl => ?_)
  refine lv_iconst (v := 0) hx hb dX7_sum_2 (by decide) ?_
  refine lv_istore_n (lv' := [(2, .int 0), (1, .int 0), (0, .ref (amu 0))]) hx hb dX7_sum_3 rfl hl (by decide) rfl (fun ls hl => ?_)
  obtain ⟨fin_1, qfin_1⟩ : ∃ z, m_X7_sum_lp4 mu 80 0 0 = some z := by cases h9 : m_X7_sum_lp4 mu 80 0 0 with | some z => exact ⟨z, rfl⟩ | none => exfalso; simp only [m_X7_sum, h9, Option.bind_none, ↓reduceIte, if_true, if_false] at hm; cases hm
  have lp4 : ∀ (n4 k4 : Nat) (x1_4 : Int32) (ls : Array Slot), k4 + n4 = 80 → m_X7_sum_lp4 mu n4 k4 x1_4 = some fin_1 → lv_has ls 5 [(2, .int (nI k4)), (1, .int x1_4), (0, .ref (amu 0))] → W p l e (cq_rm 0 0) s m ([.ref (amu 0)] : List Value).toArray below meth c s.heap [] 0 0 (MQ below (cq_R (some (.int r))) ([.ref (amu 0)] : List Value).toArray s 0 0 (fun _ => False)) (F0 m 4 ls []) := by
    intro n4; induction n4 with
    | zero =>
      intro k4 x1_4 ls hkn hres4 hl
      have hz : 80 ≤ nI k4 := cq_z (N := 80) rfl (by omega) (by omega)
      have e9 : fin_1 = x1_4 := (Option.some.inj hres4).symm
      subst e9
      refine lv_iload_n hx hb dX7_sum_4 rfl (lv_at hl 0 rfl) ?_
      refine lv_bipush (v := 80) hx hb dX7_sum_5 (by decide) ?_
      refine lv_icmp_ge (tgt := 142) hx hb dX7_sum_7 (by decide) (fun c_2 => ?_) (fun c_2 => ?_)
      · refine lv_iload_n hx hb dX7_sum_142 rfl (lv_at hl 1 rfl) ?_
        have h9 : some fin_1 = some r := by have h8 := hm; simp only [m_X7_sum, qfin_1, Option.bind_some, ↓reduceIte, if_true, if_false] at h8; exact h8
        have h10 := Option.some.inj h9
        subst h10
        exact cq_rI hx hb hr hlocks (vp_nar_int _) rfl dX7_sum_143
      · exact absurd hz c_2
    | succ n4 ih4 =>
      intro k4 x1_4 ls hkn hres4 hl
      have hz : ¬ (80 ≤ nI k4) := cq_s (N := 80) rfl (by omega) (by omega)
      refine lv_iload_n hx hb dX7_sum_4 rfl (lv_at hl 0 rfl) ?_
      refine lv_bipush (v := 80) hx hb dX7_sum_5 (by decide) ?_
      refine lv_icmp_ge (tgt := 142) hx hb dX7_sum_7 (by decide) (fun c_3 => ?_) (fun c_3 => ?_)
      · exact absurd c_3 hz
      · refine lv_iconst (v := 0) hx hb dX7_sum_10 (by decide) ?_
        refine lv_istore_n (lv' := [(3, .int 0), (2, .int (nI k4)), (1, .int x1_4), (0, .ref (amu 0))]) hx hb dX7_sum_11 rfl hl (by decide) rfl (fun ls hl => ?_)
        refine lv_iconst (v := 0) hx hb dX7_sum_12 (by decide) ?_
        refine lv_istore (lv' := [(4, .int 0), (3, .int 0), (2, .int (nI k4)), (1, .int x1_4), (0, .ref (amu 0))]) hx hb dX7_sum_13 hl (by decide) rfl (fun ls hl => ?_)
        obtain ⟨fin_4, qfin_4⟩ : ∃ z, m_X7_sum_lp15 mu k4 x1_4 3 0 0 = some z := by cases h9 : m_X7_sum_lp15 mu k4 x1_4 3 0 0 with | some z => exact ⟨z, rfl⟩ | none => exfalso; simp only [m_X7_sum_lp4, h9, Option.bind_none, ↓reduceIte, if_true, if_false] at hres4; cases hres4
        have lp15 : ∀ (n15 k15 : Nat) (x3_15 : Int32) (ls : Array Slot), k15 + n15 = 3 → m_X7_sum_lp15 mu k4 x1_4 n15 k15 x3_15 = some fin_4 → lv_has ls 5 [(4, .int (nI k15)), (3, .int x3_15), (2, .int (nI k4)), (1, .int x1_4), (0, .ref (amu 0))] → W p l e (cq_rm 0 0) s m ([.ref (amu 0)] : List Value).toArray below meth c s.heap [] 0 0 (MQ below (cq_R (some (.int r))) ([.ref (amu 0)] : List Value).toArray s 0 0 (fun _ => False)) (F0 m 15 ls []) := by
          intro n15; induction n15 with
          | zero =>
            intro k15 x3_15 ls hkn hres15 hl
            have hz : 3 ≤ nI k15 := cq_z (N := 3) rfl (by omega) (by omega)
            have e9 : fin_4 = x3_15 := (Option.some.inj hres15).symm
            subst e9
            refine lv_iload hx hb dX7_sum_15 (lv_at hl 0 rfl) ?_
            refine lv_iconst (v := 3) hx hb dX7_sum_17 (by decide) ?_
            refine lv_icmp_ge (tgt := 60) hx hb dX7_sum_18 (by decide) (fun c_5 => ?_) (fun c_5 => ?_)
            · refine lv_iconst (v := 0) hx hb dX7_sum_60 (by decide) ?_
              refine lv_istore (lv' := [(4, .int 0), (3, .int fin_4), (2, .int (nI k4)), (1, .int x1_4), (0, .ref (amu 0))]) hx hb dX7_sum_61 hl (by decide) rfl (fun ls hl => ?_)
              obtain ⟨fin_6, qfin_6⟩ : ∃ z, m_X7_sum_lp63 mu k4 x1_4 fin_4 4 0 fin_4 = some z := by cases h9 : m_X7_sum_lp63 mu k4 x1_4 fin_4 4 0 fin_4 with | some z => exact ⟨z, rfl⟩ | none => exfalso; simp only [m_X7_sum_lp4, h9, Option.bind_none, qfin_4, Option.bind_some, ↓reduceIte, if_true, if_false] at hres4; cases hres4
              have lp63 : ∀ (n63 k63 : Nat) (x3_63 : Int32) (ls : Array Slot), k63 + n63 = 4 → m_X7_sum_lp63 mu k4 x1_4 fin_4 n63 k63 x3_63 = some fin_6 → lv_has ls 5 [(4, .int (nI k63)), (3, .int x3_63), (2, .int (nI k4)), (1, .int x1_4), (0, .ref (amu 0))] → W p l e (cq_rm 0 0) s m ([.ref (amu 0)] : List Value).toArray below meth c s.heap [] 0 0 (MQ below (cq_R (some (.int r))) ([.ref (amu 0)] : List Value).toArray s 0 0 (fun _ => False)) (F0 m 63 ls []) := by
                intro n63; induction n63 with
                | zero =>
                  intro k63 x3_63 ls hkn hres63 hl
                  have hz : 4 ≤ nI k63 := cq_z (N := 4) rfl (by omega) (by omega)
                  have e9 : fin_6 = x3_63 := (Option.some.inj hres63).symm
                  subst e9
                  refine lv_iload hx hb dX7_sum_63 (lv_at hl 0 rfl) ?_
                  refine lv_iconst (v := 4) hx hb dX7_sum_65 (by decide) ?_
                  refine lv_icmp_ge (tgt := 108) hx hb dX7_sum_66 (by decide) (fun c_7 => ?_) (fun c_7 => ?_)
                  · refine lv_iload_n hx hb dX7_sum_108 rfl (lv_at hl 3 rfl) ?_
                    refine lv_aload_n hx hb dX7_sum_109 rfl (lv_at hl 4 rfl) ?_
                    refine va_get (D := D) (ci := 7) (v := .ref (amu 15)) (C := RX7) (T := TX7) (N := 25) hx hb hts (fun _ h => List.mem_cons_of_mem _ (List.mem_append_right _ h)) hown hG.1 hP 0 rfl rfl 18 (by decide) (hts (.fieldLink RX7 53 "CatalogueLoaderModel" "isIn" "[Z") (List.mem_of_getElem? (i := 3) rfl)) (fun _ h9 => h9) rfl dX7_sum_110 ?_
                    refine lv_iload_n hx hb dX7_sum_113 rfl (lv_at hl 2 rfl) ?_
                    have h_8 : inb (nI k4) 80 = true := by by_cases h9 : inb (nI k4) 80 = true; exact h9; exfalso; simp only [m_X7_sum_lp4, eq_false h9, qfin_4, Option.bind_some, qfin_6, Option.bind_some, ↓reduceIte, if_true, if_false] at hres4; cases hres4
                    refine va_zald hx hb hG.1 hP 15 1 rfl rfl (inb_in h_8) dX7_sum_114 ?_
                    refine lv_if_eq (tgt := 133) hx hb dX7_sum_115 (by decide) (fun c_9 => ?_) (fun c_9 => ?_)
                    · refine lv_iconst (v := 0) hx hb dX7_sum_133 (by decide) ?_
                      refine lv_iadd hx hb dX7_sum_134 ?_
                      refine lv_topi (fun x_10 ex_10 => ?_)
                      refine lv_istore_n (lv' := [(1, .int x_10), (4, .int (nI k63)), (3, .int fin_6), (2, .int (nI k4)), (0, .ref (amu 0))]) hx hb dX7_sum_135 rfl hl (by decide) rfl (fun ls hl => ?_)
                      refine lv_iinc (v := nI (k4 + 1)) (lv' := [(2, .int (nI (k4 + 1))), (1, .int x_10), (4, .int (nI k63)), (3, .int fin_6), (0, .ref (amu 0))]) hx hb dX7_sum_136 hl (k := 3) rfl (nI_1 k4) (by decide) rfl (fun ls hl => ?_)
                      refine lv_goto (tgt := 4) hx hb dX7_sum_139 (by decide) ?_
                      exact ih4 (k4 + 1) x_10 _ (by omega) (Eq.trans (by subst ex_10; simp only [m_X7_sum_lp4, eq_true h_8, eq_true c_9, qfin_4, Option.bind_some, qfin_6, Option.bind_some, ↓reduceIte, if_true, if_false]) hres4) (lv_sub hl [0, 1, 4] rfl)
                    · refine lv_iload_n hx hb dX7_sum_118 rfl (lv_at hl 1 rfl) ?_
                      refine lv_iconst (v := 1) hx hb dX7_sum_119 (by decide) ?_
                      refine lv_iload_n hx hb dX7_sum_120 rfl (lv_at hl 2 rfl) ?_
                      refine lv_iadd hx hb dX7_sum_121 ?_
                      refine lv_imul hx hb dX7_sum_122 ?_
                      refine lv_aload_n hx hb dX7_sum_123 rfl (lv_at hl 4 rfl) ?_
                      refine va_get (D := D) (ci := 7) (v := .ref (amu 20)) (C := RX7) (T := TX7) (N := 25) hx hb hts (fun _ h => List.mem_cons_of_mem _ (List.mem_append_right _ h)) hown hG.1 hP 0 rfl rfl 23 (by decide) (hts (.fieldLink RX7 68 "CatalogueLoaderModel" "held" "[I") (List.mem_of_getElem? (i := 4) rfl)) (fun _ h9 => h9) rfl dX7_sum_124 ?_
                      refine lv_iload_n hx hb dX7_sum_127 rfl (lv_at hl 2 rfl) ?_
                      refine va_iald hx hb hG.1 hP 20 0 rfl rfl (inb_in h_8) dX7_sum_128 ?_
                      refine lv_iadd hx hb dX7_sum_129 ?_
                      refine lv_goto (tgt := 134) hx hb dX7_sum_130 (by decide) ?_
                      refine lv_iadd hx hb dX7_sum_134 ?_
                      refine lv_topi (fun x_11 ex_11 => ?_)
                      refine lv_istore_n (lv' := [(1, .int x_11), (4, .int (nI k63)), (3, .int fin_6), (2, .int (nI k4)), (0, .ref (amu 0))]) hx hb dX7_sum_135 rfl hl (by decide) rfl (fun ls hl => ?_)
                      refine lv_iinc (v := nI (k4 + 1)) (lv' := [(2, .int (nI (k4 + 1))), (1, .int x_11), (4, .int (nI k63)), (3, .int fin_6), (0, .ref (amu 0))]) hx hb dX7_sum_136 hl (k := 3) rfl (nI_1 k4) (by decide) rfl (fun ls hl => ?_)
                      refine lv_goto (tgt := 4) hx hb dX7_sum_139 (by decide) ?_
                      exact ih4 (k4 + 1) x_11 _ (by omega) (Eq.trans (by subst ex_11; simp only [m_X7_sum_lp4, eq_true h_8, eq_false c_9, qfin_4, Option.bind_some, qfin_6, Option.bind_some, ↓reduceIte, if_true, if_false]) hres4) (lv_sub hl [0, 1, 4] rfl)
                  · exact absurd hz c_7
                | succ n63 ih63 =>
                  intro k63 x3_63 ls hkn hres63 hl
                  have hz : ¬ (4 ≤ nI k63) := cq_s (N := 4) rfl (by omega) (by omega)
                  refine lv_iload hx hb dX7_sum_63 (lv_at hl 0 rfl) ?_
                  refine lv_iconst (v := 4) hx hb dX7_sum_65 (by decide) ?_
                  refine lv_icmp_ge (tgt := 108) hx hb dX7_sum_66 (by decide) (fun c_12 => ?_) (fun c_12 => ?_)
                  · exact absurd c_12 hz
                  · refine lv_iload_n hx hb dX7_sum_69 rfl (lv_at hl 1 rfl) ?_
                    refine lv_aload_n hx hb dX7_sum_70 rfl (lv_at hl 4 rfl) ?_
                    refine va_get (D := D) (ci := 7) (v := .ref (amu 17)) (C := RX7) (T := TX7) (N := 25) hx hb hts (fun _ h => List.mem_cons_of_mem _ (List.mem_append_right _ h)) hown hG.1 hP 0 rfl rfl 20 (by decide) (hts (.fieldLink RX7 59 "CatalogueLoaderModel" "fields" "[I") (List.mem_of_getElem? (i := 2) rfl)) (fun _ h9 => h9) rfl dX7_sum_71 ?_
                    refine lv_iconst (v := 4) hx hb dX7_sum_74 (by decide) ?_
                    refine lv_iload_n hx hb dX7_sum_75 rfl (lv_at hl 2 rfl) ?_
                    refine lv_imul hx hb dX7_sum_76 ?_
                    refine lv_iload hx hb dX7_sum_77 (lv_at hl 0 rfl) ?_
                    refine lv_iadd hx hb dX7_sum_79 ?_
                    have h_13 : inb ((4 * (nI k4)) + (nI k63)) 320 = true := by by_cases h9 : inb ((4 * (nI k4)) + (nI k63)) 320 = true; exact h9; exfalso; simp only [m_X7_sum_lp63, eq_false h9, qfin_4, Option.bind_some, ↓reduceIte, if_true, if_false] at hres63; cases hres63
                    refine va_iald hx hb hG.1 hP 17 0 rfl rfl (inb_in h_13) dX7_sum_80 ?_
                    refine lv_iconst (v := (-1)) hx hb dX7_sum_81 (by decide) ?_
                    refine lv_icmp_ne (tgt := 89) hx hb dX7_sum_82 (by decide) (fun c_14 => ?_) (fun c_14 => ?_)
                    · refine lv_aload_n hx hb dX7_sum_89 rfl (lv_at hl 4 rfl) ?_
                      refine va_get (D := D) (ci := 7) (v := .ref (amu 17)) (C := RX7) (T := TX7) (N := 25) hx hb hts (fun _ h => List.mem_cons_of_mem _ (List.mem_append_right _ h)) hown hG.1 hP 0 rfl rfl 20 (by decide) (hts (.fieldLink RX7 59 "CatalogueLoaderModel" "fields" "[I") (List.mem_of_getElem? (i := 2) rfl)) (fun _ h9 => h9) rfl dX7_sum_90 ?_
                      refine lv_iconst (v := 4) hx hb dX7_sum_93 (by decide) ?_
                      refine lv_iload_n hx hb dX7_sum_94 rfl (lv_at hl 2 rfl) ?_
                      refine lv_imul hx hb dX7_sum_95 ?_
                      refine lv_iload hx hb dX7_sum_96 (lv_at hl 0 rfl) ?_
                      refine lv_iadd hx hb dX7_sum_98 ?_
                      refine va_iald hx hb hG.1 hP 17 0 rfl rfl (inb_in h_13) dX7_sum_99 ?_
                      refine lv_iadd hx hb dX7_sum_100 ?_
                      refine lv_topi (fun x_15 ex_15 => ?_)
                      refine lv_istore_n (lv' := [(3, .int x_15), (4, .int (nI k63)), (2, .int (nI k4)), (1, .int x1_4), (0, .ref (amu 0))]) hx hb dX7_sum_101 rfl hl (by decide) rfl (fun ls hl => ?_)
                      refine lv_iinc (v := nI (k63 + 1)) (lv' := [(4, .int (nI (k63 + 1))), (3, .int x_15), (2, .int (nI k4)), (1, .int x1_4), (0, .ref (amu 0))]) hx hb dX7_sum_102 hl (k := 1) rfl (nI_1 k63) (by decide) rfl (fun ls hl => ?_)
                      refine lv_goto (tgt := 63) hx hb dX7_sum_105 (by decide) ?_
                      exact ih63 (k63 + 1) x_15 _ (by omega) (Eq.trans (by subst ex_15; simp only [m_X7_sum_lp63, eq_true h_13, eq_false c_14, qfin_4, Option.bind_some, ↓reduceIte, if_true, if_false]) hres63) (lv_sub hl [0, 1, 2, 3, 4] rfl)
                    · refine lv_iconst (v := 0) hx hb dX7_sum_85 (by decide) ?_
                      refine lv_goto (tgt := 100) hx hb dX7_sum_86 (by decide) ?_
                      refine lv_iadd hx hb dX7_sum_100 ?_
                      refine lv_topi (fun x_16 ex_16 => ?_)
                      refine lv_istore_n (lv' := [(3, .int x_16), (4, .int (nI k63)), (2, .int (nI k4)), (1, .int x1_4), (0, .ref (amu 0))]) hx hb dX7_sum_101 rfl hl (by decide) rfl (fun ls hl => ?_)
                      refine lv_iinc (v := nI (k63 + 1)) (lv' := [(4, .int (nI (k63 + 1))), (3, .int x_16), (2, .int (nI k4)), (1, .int x1_4), (0, .ref (amu 0))]) hx hb dX7_sum_102 hl (k := 1) rfl (nI_1 k63) (by decide) rfl (fun ls hl => ?_)
                      refine lv_goto (tgt := 63) hx hb dX7_sum_105 (by decide) ?_
                      exact ih63 (k63 + 1) x_16 _ (by omega) (Eq.trans (by subst ex_16; simp only [m_X7_sum_lp63, eq_true h_13, eq_true c_14, qfin_4, Option.bind_some, ↓reduceIte, if_true, if_false]) hres63) (lv_sub hl [0, 1, 2, 3, 4] rfl)
              exact lp63 4 0 fin_4 _ (Nat.zero_add _) qfin_6 (lv_sub hl [0, 1, 2, 3, 4] rfl)
            · exact absurd hz c_5
          | succ n15 ih15 =>
            intro k15 x3_15 ls hkn hres15 hl
            have hz : ¬ (3 ≤ nI k15) := cq_s (N := 3) rfl (by omega) (by omega)
            refine lv_iload hx hb dX7_sum_15 (lv_at hl 0 rfl) ?_
            refine lv_iconst (v := 3) hx hb dX7_sum_17 (by decide) ?_
            refine lv_icmp_ge (tgt := 60) hx hb dX7_sum_18 (by decide) (fun c_17 => ?_) (fun c_17 => ?_)
            · exact absurd c_17 hz
            · refine lv_iload_n hx hb dX7_sum_21 rfl (lv_at hl 1 rfl) ?_
              refine lv_aload_n hx hb dX7_sum_22 rfl (lv_at hl 4 rfl) ?_
              refine va_get (D := D) (ci := 7) (v := .ref (amu 16)) (C := RX7) (T := TX7) (N := 25) hx hb hts (fun _ h => List.mem_cons_of_mem _ (List.mem_append_right _ h)) hown hG.1 hP 0 rfl rfl 19 (by decide) (hts (.fieldLink RX7 56 "CatalogueLoaderModel" "keys" "[I") (List.mem_of_getElem? (i := 1) rfl)) (fun _ h9 => h9) rfl dX7_sum_23 ?_
              refine lv_iconst (v := 3) hx hb dX7_sum_26 (by decide) ?_
              refine lv_iload_n hx hb dX7_sum_27 rfl (lv_at hl 2 rfl) ?_
              refine lv_imul hx hb dX7_sum_28 ?_
              refine lv_iload hx hb dX7_sum_29 (lv_at hl 0 rfl) ?_
              refine lv_iadd hx hb dX7_sum_31 ?_
              have h_18 : inb ((3 * (nI k4)) + (nI k15)) 240 = true := by by_cases h9 : inb ((3 * (nI k4)) + (nI k15)) 240 = true; exact h9; exfalso; simp only [m_X7_sum_lp15, eq_false h9, ↓reduceIte, if_true, if_false] at hres15; cases hres15
              refine va_iald hx hb hG.1 hP 16 0 rfl rfl (inb_in h_18) dX7_sum_32 ?_
              refine lv_iconst (v := (-1)) hx hb dX7_sum_33 (by decide) ?_
              refine lv_icmp_ne (tgt := 41) hx hb dX7_sum_34 (by decide) (fun c_19 => ?_) (fun c_19 => ?_)
              · refine lv_aload_n hx hb dX7_sum_41 rfl (lv_at hl 4 rfl) ?_
                refine va_get (D := D) (ci := 7) (v := .ref (amu 16)) (C := RX7) (T := TX7) (N := 25) hx hb hts (fun _ h => List.mem_cons_of_mem _ (List.mem_append_right _ h)) hown hG.1 hP 0 rfl rfl 19 (by decide) (hts (.fieldLink RX7 56 "CatalogueLoaderModel" "keys" "[I") (List.mem_of_getElem? (i := 1) rfl)) (fun _ h9 => h9) rfl dX7_sum_42 ?_
                refine lv_iconst (v := 3) hx hb dX7_sum_45 (by decide) ?_
                refine lv_iload_n hx hb dX7_sum_46 rfl (lv_at hl 2 rfl) ?_
                refine lv_imul hx hb dX7_sum_47 ?_
                refine lv_iload hx hb dX7_sum_48 (lv_at hl 0 rfl) ?_
                refine lv_iadd hx hb dX7_sum_50 ?_
                refine va_iald hx hb hG.1 hP 16 0 rfl rfl (inb_in h_18) dX7_sum_51 ?_
                refine lv_iadd hx hb dX7_sum_52 ?_
                refine lv_topi (fun x_20 ex_20 => ?_)
                refine lv_istore_n (lv' := [(3, .int x_20), (4, .int (nI k15)), (2, .int (nI k4)), (1, .int x1_4), (0, .ref (amu 0))]) hx hb dX7_sum_53 rfl hl (by decide) rfl (fun ls hl => ?_)
                refine lv_iinc (v := nI (k15 + 1)) (lv' := [(4, .int (nI (k15 + 1))), (3, .int x_20), (2, .int (nI k4)), (1, .int x1_4), (0, .ref (amu 0))]) hx hb dX7_sum_54 hl (k := 1) rfl (nI_1 k15) (by decide) rfl (fun ls hl => ?_)
                refine lv_goto (tgt := 15) hx hb dX7_sum_57 (by decide) ?_
                exact ih15 (k15 + 1) x_20 _ (by omega) (Eq.trans (by subst ex_20; simp only [m_X7_sum_lp15, eq_true h_18, eq_false c_19, ↓reduceIte, if_true, if_false]) hres15) (lv_sub hl [0, 1, 2, 3, 4] rfl)
              · refine lv_iconst (v := 0) hx hb dX7_sum_37 (by decide) ?_
                refine lv_goto (tgt := 52) hx hb dX7_sum_38 (by decide) ?_
                refine lv_iadd hx hb dX7_sum_52 ?_
                refine lv_topi (fun x_21 ex_21 => ?_)
                refine lv_istore_n (lv' := [(3, .int x_21), (4, .int (nI k15)), (2, .int (nI k4)), (1, .int x1_4), (0, .ref (amu 0))]) hx hb dX7_sum_53 rfl hl (by decide) rfl (fun ls hl => ?_)
                refine lv_iinc (v := nI (k15 + 1)) (lv' := [(4, .int (nI (k15 + 1))), (3, .int x_21), (2, .int (nI k4)), (1, .int x1_4), (0, .ref (amu 0))]) hx hb dX7_sum_54 hl (k := 1) rfl (nI_1 k15) (by decide) rfl (fun ls hl => ?_)
                refine lv_goto (tgt := 15) hx hb dX7_sum_57 (by decide) ?_
                exact ih15 (k15 + 1) x_21 _ (by omega) (Eq.trans (by subst ex_21; simp only [m_X7_sum_lp15, eq_true h_18, eq_true c_19, ↓reduceIte, if_true, if_false]) hres15) (lv_sub hl [0, 1, 2, 3, 4] rfl)
        exact lp15 3 0 0 _ (Nat.zero_add _) qfin_4 (lv_sub hl [0, 1, 2, 3, 4] rfl)
  exact lp4 80 0 0 _ (Nat.zero_add _) qfin_1 (lv_sub hl [0, 1, 2] rfl)
