def m_L_hits_lp20 (qv : FL) (qn : FI) (qq : FI) (draft : Int64) (k4 : Nat) : Nat → Nat → Int32 → Int32 → Option (Int32 × Int32)
  | 0, k20, x7_20, x6_20 => (if qn (1 : Int32).toNatClampNeg ≤ nI k20 then some (x7_20, x6_20) else none)
  | n20 + 1, k20, x7_20, x6_20 => (if qn (1 : Int32).toNatClampNeg ≤ nI k20 then none else (if inb (nI k20) 40 = true then (if m_L_isIn (qv (nI k20).toNatClampNeg) = 0 then (let x_12 := x6_20 + 0; m_L_hits_lp20 qv qn qq draft k4 n20 (k20 + 1) x7_20 x_12) else (if inb (nI k4) 12 = true then (if m_L_key draft (qq (nI k4).toNatClampNeg) ≤ 0 then (let x_17 := x6_20 + 0; m_L_hits_lp20 qv qn qq draft k4 n20 (k20 + 1) x7_20 x_17) else (if m_L_key (qv (nI k20).toNatClampNeg) (qq (nI k4).toNatClampNeg) = m_L_key draft (qq (nI k4).toNatClampNeg) then (let x_24 := x6_20 + 1; m_L_hits_lp20 qv qn qq draft k4 n20 (k20 + 1) (nI k20) x_24) else (let x_21 := x6_20 + 0; m_L_hits_lp20 qv qn qq draft k4 n20 (k20 + 1) x7_20 x_21))) else none)) else none))
def m_L_hits_lp4 (qv : FL) (qn : FI) (qq : FI) (draft : Int64) : Nat → Nat → Option (Int32)
  | 0, k4 => some (-1)
  | n4 + 1, k4 => (m_L_hits_lp20 qv qn qq draft k4 (qn (1 : Int32).toNatClampNeg).toNatClampNeg 0 (-1) 0).bind (fun fin_4 => (if fin_4.2 ≤ 0 then m_L_hits_lp4 qv qn qq draft n4 (k4 + 1)  else (if fin_4.2 = 1 then some fin_4.1 else some (-2))))
def m_L_hits (qv : FL) (qn : FI) (qq : FI) (draft : Int64) : Option (Int32) := m_L_hits_lp4 qv qn qq draft 3 9 
set_option maxHeartbeats 4000000 in
set_option maxRecDepth 100000 in
theorem ct_L_hits (l : Launch) (D : va_G) (Y : cq_Y) (qvb : Nat) (qv : FL) (qnb : Nat) (qn : FI) (qqb : Nat) (qq : FI) (draft : Int64) (r : Int32) (hm : m_L_hits qv qn qq draft = some r) : cq_MR l yL_hits wsL_hits (cq_rm 1 22) D Y (cl_lar Y qvb 40 qv ++ (cl_arr Y qnb 4 qn ++ (cl_arr Y qqb 12 qq))) [.ref qvb, .ref qnb, .ref qqb, .long draft] (some (.int r)) := by
  refine cq_body (cc := cL_hits) (maxL := 10) (ret := (some .int)) (by decide) rfl (Nat.le_of_ble_eq_true rfl) ?_
  intro p e s m below meth c hE hP hG hD ls hl
  obtain ⟨hx, hb, hr, hml, hts, hown, hnm, hlocks⟩ := hE
  have hown : s.vm.findClass RL = some m.cls := hown
  have hl : lv_has ls 10 [(0, .ref qvb), (1, .ref qnb), (2, .ref qqb), (3, .long draft)] := hl
  refine lv_bipush (v := 9) hx hb dL_hits_0 (by decide) ?_
  refine lv_istore (lv' := [(5, .int 9), (0, .ref qvb), (1, .ref qnb), (2, .ref qqb), (3, .long draft)]) hx hb dL_hits_2 hl (by decide) rfl (fun ls hl => ?_)
  have lp4 : ∀ (n4 k4 : Nat) (ls : Array Slot), k4 + n4 = 12 → m_L_hits_lp4 qv qn qq draft n4 k4  = some r → lv_has ls 10 [(5, .int (nI k4)), (0, .ref qvb), (1, .ref qnb), (2, .ref qqb), (3, .long draft)] → W p l e (cq_rm 1 22) s m ([.ref qvb, .ref qnb, .ref qqb, .long draft] : List Value).toArray below meth c s.heap [] 0 0 (MQ below (cq_R (some (.int r))) ([.ref qvb, .ref qnb, .ref qqb, .long draft] : List Value).toArray s 0 0 (fun _ => False)) (F0 m 4 ls []) := by
    intro n4; induction n4 with
    | zero =>
      intro k4  ls hkn hres4 hl
      have hz : 12 ≤ nI k4 := cq_z (N := 12) rfl (by omega) (by omega)
      refine lv_iload hx hb dL_hits_4 (lv_at hl 0 rfl) ?_
      refine lv_bipush (v := 12) hx hb dL_hits_6 (by decide) ?_
      refine lv_icmp_ge (tgt := 138) hx hb dL_hits_8 (by decide) (fun c_2 => ?_) (fun c_2 => ?_)
      · refine lv_iconst (v := (-1)) hx hb dL_hits_138 (by decide) ?_
        have h9 : some (-1) = some r := by have h8 := hres4; simp only [m_L_hits_lp4, ↓reduceIte, if_true, if_false] at h8; exact h8
        have h10 := Option.some.inj h9
        subst h10
        exact cq_rI hx hb hr hlocks (vp_nar_int _) rfl dL_hits_139
      · exact absurd hz c_2
    | succ n4 ih4 =>
      intro k4  ls hkn hres4 hl
      have hz : ¬ (12 ≤ nI k4) := cq_s (N := 12) rfl (by omega) (by omega)
      refine lv_iload hx hb dL_hits_4 (lv_at hl 0 rfl) ?_
      refine lv_bipush (v := 12) hx hb dL_hits_6 (by decide) ?_
      refine lv_icmp_ge (tgt := 138) hx hb dL_hits_8 (by decide) (fun c_3 => ?_) (fun c_3 => ?_)
      · exact absurd c_3 hz
      · refine lv_iconst (v := 0) hx hb dL_hits_11 (by decide) ?_
        refine lv_istore (lv' := [(6, .int 0), (5, .int (nI k4)), (0, .ref qvb), (1, .ref qnb), (2, .ref qqb), (3, .long draft)]) hx hb dL_hits_12 hl (by decide) rfl (fun ls hl => ?_)
        refine lv_iconst (v := (-1)) hx hb dL_hits_14 (by decide) ?_
        refine lv_istore (lv' := [(7, .int (-1)), (6, .int 0), (5, .int (nI k4)), (0, .ref qvb), (1, .ref qnb), (2, .ref qqb), (3, .long draft)]) hx hb dL_hits_15 hl (by decide) rfl (fun ls hl => ?_)
        refine lv_iconst (v := 0) hx hb dL_hits_17 (by decide) ?_
        refine lv_istore (lv' := [(8, .int 0), (7, .int (-1)), (6, .int 0), (5, .int (nI k4)), (0, .ref qvb), (1, .ref qnb), (2, .ref qqb), (3, .long draft)]) hx hb dL_hits_18 hl (by decide) rfl (fun ls hl => ?_)
        obtain ⟨fin_4, qfin_4⟩ : ∃ z, m_L_hits_lp20 qv qn qq draft k4 (qn (1 : Int32).toNatClampNeg).toNatClampNeg 0 (-1) 0 = some z := by cases h9 : m_L_hits_lp20 qv qn qq draft k4 (qn (1 : Int32).toNatClampNeg).toNatClampNeg 0 (-1) 0 with | some z => exact ⟨z, rfl⟩ | none => exfalso; simp only [m_L_hits_lp4, h9, Option.bind_none, ↓reduceIte, if_true, if_false] at hres4; cases hres4
        have lp20 : ∀ (n20 k20 : Nat) (x7_20 : Int32) (x6_20 : Int32) (ls : Array Slot), k20 + n20 = (qn (1 : Int32).toNatClampNeg).toNatClampNeg → m_L_hits_lp20 qv qn qq draft k4 n20 k20 x7_20 x6_20 = some fin_4 → lv_has ls 10 [(8, .int (nI k20)), (7, .int x7_20), (6, .int x6_20), (5, .int (nI k4)), (0, .ref qvb), (1, .ref qnb), (2, .ref qqb), (3, .long draft)] → W p l e (cq_rm 1 22) s m ([.ref qvb, .ref qnb, .ref qqb, .long draft] : List Value).toArray below meth c s.heap [] 0 0 (MQ below (cq_R (some (.int r))) ([.ref qvb, .ref qnb, .ref qqb, .long draft] : List Value).toArray s 0 0 (fun _ => False)) (F0 m 20 ls []) := by
          intro n20; induction n20 with
          | zero =>
            intro k20 x7_20 x6_20 ls hkn hres20 hl
            have hz : qn (1 : Int32).toNatClampNeg ≤ nI k20 := by by_cases h9 : qn (1 : Int32).toNatClampNeg ≤ nI k20; exact h9; exfalso; simp only [m_L_hits_lp20, eq_false h9, ↓reduceIte, if_false] at hres20; cases hres20
            have hdy := hres20
            simp only [m_L_hits_lp20, eq_true hz, ↓reduceIte, if_true] at hdy
            have e9 : x7_20 = fin_4.1 := by rw [← (Option.some.inj hdy)]
            subst e9
            have e9 : x6_20 = fin_4.2 := by rw [← (Option.some.inj hdy)]
            subst e9
            refine lv_iload hx hb dL_hits_20 (lv_at hl 0 rfl) ?_
            refine lv_aload_n hx hb dL_hits_22 rfl (lv_at hl 5 rfl) ?_
            refine lv_iconst (v := 1) hx hb dL_hits_23 (by decide) ?_
            refine va_iald hx hb hG.1 hP 1 0 rfl rfl (inb_in (by decide)) dL_hits_24 ?_
            refine lv_icmp_ge (tgt := 113) hx hb dL_hits_25 (by decide) (fun c_5 => ?_) (fun c_5 => ?_)
            · refine lv_iload hx hb dL_hits_113 (lv_at hl 2 rfl) ?_
              refine lv_if_le (tgt := 132) hx hb dL_hits_115 (by decide) (fun c_6 => ?_) (fun c_6 => ?_)
              · refine lv_iinc (v := nI (k4 + 1)) (lv' := [(5, .int (nI (k4 + 1))), (8, .int (nI k20)), (7, .int fin_4.1), (6, .int fin_4.2), (0, .ref qvb), (1, .ref qnb), (2, .ref qqb), (3, .long draft)]) hx hb dL_hits_132 hl (k := 3) rfl (nI_1 k4) (by decide) rfl (fun ls hl => ?_)
                refine lv_goto (tgt := 4) hx hb dL_hits_135 (by decide) ?_
                exact ih4 (k4 + 1)  _ (by omega) (Eq.trans (by simp only [m_L_hits_lp4, eq_true c_6, qfin_4, Option.bind_some, ↓reduceIte, if_true, if_false]) hres4) (lv_sub hl [0, 4, 5, 6, 7] rfl)
              · refine lv_iload hx hb dL_hits_118 (lv_at hl 2 rfl) ?_
                refine lv_iconst (v := 1) hx hb dL_hits_120 (by decide) ?_
                refine lv_icmp_ne (tgt := 129) hx hb dL_hits_121 (by decide) (fun c_7 => ?_) (fun c_7 => ?_)
                · refine lv_bipush (v := (-2)) hx hb dL_hits_129 (by decide) ?_
                  have h9 : some (-2) = some r := by have h8 := hres4; simp only [m_L_hits_lp4, eq_false c_6, eq_false c_7, qfin_4, Option.bind_some, ↓reduceIte, if_true, if_false] at h8; exact h8
                  have h10 := Option.some.inj h9
                  subst h10
                  exact cq_rI hx hb hr hlocks (vp_nar_int _) rfl dL_hits_131
                · refine lv_iload hx hb dL_hits_124 (lv_at hl 1 rfl) ?_
                  refine lv_goto (tgt := 131) hx hb dL_hits_126 (by decide) ?_
                  have h9 : some fin_4.1 = some r := by have h8 := hres4; simp only [m_L_hits_lp4, eq_false c_6, eq_true c_7, qfin_4, Option.bind_some, ↓reduceIte, if_true, if_false] at h8; exact h8
                  have h10 := Option.some.inj h9
                  subst h10
                  exact cq_rI hx hb hr hlocks (vp_nar_int _) rfl dL_hits_131
            · exact absurd hz c_5
          | succ n20 ih20 =>
            intro k20 x7_20 x6_20 ls hkn hres20 hl
            have hz : ¬ (qn (1 : Int32).toNatClampNeg ≤ nI k20) := by by_cases h9 : qn (1 : Int32).toNatClampNeg ≤ nI k20; (exfalso; simp only [m_L_hits_lp20, eq_true h9, ↓reduceIte, if_true] at hres20; cases hres20); exact h9
            refine lv_iload hx hb dL_hits_20 (lv_at hl 0 rfl) ?_
            refine lv_aload_n hx hb dL_hits_22 rfl (lv_at hl 5 rfl) ?_
            refine lv_iconst (v := 1) hx hb dL_hits_23 (by decide) ?_
            refine va_iald hx hb hG.1 hP 1 0 rfl rfl (inb_in (by decide)) dL_hits_24 ?_
            refine lv_icmp_ge (tgt := 113) hx hb dL_hits_25 (by decide) (fun c_8 => ?_) (fun c_8 => ?_)
            · exact absurd c_8 hz
            · refine lv_aload_n hx hb dL_hits_28 rfl (lv_at hl 4 rfl) ?_
              refine lv_iload hx hb dL_hits_29 (lv_at hl 0 rfl) ?_
              have h_9 : inb (nI k20) 40 = true := by by_cases h9 : inb (nI k20) 40 = true; exact h9; exfalso; simp only [m_L_hits_lp20, eq_false hz, eq_false h9, ↓reduceIte, if_true, if_false] at hres20; cases hres20
              refine va_lald hx hb hG.1 hP 0 2 rfl rfl (inb_in h_9) dL_hits_31 ?_
              refine cq_RS (R := (cq_rm 1 22)) (args := ([.ref qvb, .ref qnb, .ref qqb, .long draft] : List Value).toArray) (y := yL_isIn) (bytes := cL_isIn) (cc := cL_hits) (maxL := 2) (nL := 10) (n := 1) (index := 15) (ret := (some .boolean)) (ws := wsL_isIn) (rm := cq_rm 0 0) (Ts := wsL_hits) (own := RL) (D := D) (Y := Y) (W0 := ([] : va_W)) (wl := cl_lar Y qvb 40 qv ++ (cl_arr Y qnb 4 qn ++ (cl_arr Y qqb 12 qq))) (v := some (.int (m_L_isIn (qv (nI k20).toNatClampNeg)))) (st0 := [.long (qv (nI k20).toNatClampNeg)]) (As := [.long (qv (nI k20).toNatClampNeg)]) (rest := []) ⟨hx, hb, hml, hown, hts⟩ (ct_L_isIn l D Y  (qv (nI k20).toNatClampNeg)) (va_cwS 1 hts gL_hits_L_isIn rfl rfl rfl (by decide +kernel) ⟨Nat.le_of_ble_eq_true rfl, Nat.le_of_ble_eq_true rfl⟩) hG hP hD [] rfl (by decide +kernel) rfl hl.1 rfl (Nat.le_of_ble_eq_true rfl) dL_hits_32 ⟨Nat.zero_le _, Nat.zero_le _⟩ ?_
              change W _ _ _ _ _ _ _ _ _ _ _ _ _ _ _ (F0 m 35 _ (.int (m_L_isIn (qv (nI k20).toNatClampNeg)) :: []))
              refine lv_if_eq (tgt := 75) hx hb dL_hits_35 (by decide) (fun c_10 => ?_) (fun c_10 => ?_)
              · refine lv_iconst (v := 0) hx hb dL_hits_75 (by decide) ?_
                refine lv_istore (lv' := [(9, .int 0), (8, .int (nI k20)), (7, .int x7_20), (6, .int x6_20), (5, .int (nI k4)), (0, .ref qvb), (1, .ref qnb), (2, .ref qqb), (3, .long draft)]) hx hb dL_hits_76 hl (by decide) rfl (fun ls hl => ?_)
                refine lv_iload hx hb dL_hits_78 (lv_at hl 3 rfl) ?_
                refine lv_iload hx hb dL_hits_80 (lv_at hl 0 rfl) ?_
                refine lv_if_eq (tgt := 89) hx hb dL_hits_82 (by decide) (fun c_11 => ?_) (fun c_11 => ?_)
                · refine lv_iconst (v := 0) hx hb dL_hits_89 (by decide) ?_
                  refine lv_iadd hx hb dL_hits_90 ?_
                  refine lv_topi (fun x_12 ex_12 => ?_)
                  refine lv_istore (lv' := [(6, .int x_12), (9, .int 0), (8, .int (nI k20)), (7, .int x7_20), (5, .int (nI k4)), (0, .ref qvb), (1, .ref qnb), (2, .ref qqb), (3, .long draft)]) hx hb dL_hits_91 hl (by decide) rfl (fun ls hl => ?_)
                  refine lv_iload hx hb dL_hits_93 (lv_at hl 1 rfl) ?_
                  refine lv_if_eq (tgt := 103) hx hb dL_hits_95 (by decide) (fun c_13 => ?_) (fun c_13 => ?_)
                  · refine lv_iload hx hb dL_hits_103 (lv_at hl 3 rfl) ?_
                    refine lv_istore (lv' := [(7, .int x7_20), (6, .int x_12), (9, .int 0), (8, .int (nI k20)), (5, .int (nI k4)), (0, .ref qvb), (1, .ref qnb), (2, .ref qqb), (3, .long draft)]) hx hb dL_hits_105 hl (by decide) rfl (fun ls hl => ?_)
                    refine lv_iinc (v := nI (k20 + 1)) (lv' := [(8, .int (nI (k20 + 1))), (7, .int x7_20), (6, .int x_12), (9, .int 0), (5, .int (nI k4)), (0, .ref qvb), (1, .ref qnb), (2, .ref qqb), (3, .long draft)]) hx hb dL_hits_107 hl (k := 3) rfl (nI_1 k20) (by decide) rfl (fun ls hl => ?_)
                    refine lv_goto (tgt := 20) hx hb dL_hits_110 (by decide) ?_
                    exact ih20 (k20 + 1) x7_20 x_12 _ (by omega) (Eq.trans (by subst ex_12; simp only [m_L_hits_lp20, eq_false hz, eq_true h_9, eq_true c_10, ↓reduceIte, if_true, if_false]) hres20) (lv_sub hl [0, 1, 2, 4, 5, 6, 7, 8] rfl)
                  · exact absurd c_13 (by decide)
                · exact absurd c_11 (by decide)
              · refine lv_lload_n hx hb dL_hits_38 rfl (lv_at hl 7 rfl) ?_
                refine lv_aload_n hx hb dL_hits_39 rfl (lv_at hl 6 rfl) ?_
                refine lv_iload hx hb dL_hits_40 (lv_at hl 3 rfl) ?_
                have h_14 : inb (nI k4) 12 = true := by by_cases h9 : inb (nI k4) 12 = true; exact h9; exfalso; simp only [m_L_hits_lp20, eq_false hz, eq_true h_9, eq_false c_10, eq_false h9, ↓reduceIte, if_true, if_false] at hres20; cases hres20
                refine va_iald hx hb hG.1 hP 2 0 rfl rfl (inb_in h_14) dL_hits_42 ?_
                refine cq_RS (R := (cq_rm 1 22)) (args := ([.ref qvb, .ref qnb, .ref qqb, .long draft] : List Value).toArray) (y := yL_key) (bytes := cL_key) (cc := cL_hits) (maxL := 3) (nL := 10) (n := 2) (index := 21) (ret := (some .int)) (ws := wsL_key) (rm := cq_rm 0 0) (Ts := wsL_hits) (own := RL) (D := D) (Y := Y) (W0 := ([] : va_W)) (wl := cl_lar Y qvb 40 qv ++ (cl_arr Y qnb 4 qn ++ (cl_arr Y qqb 12 qq))) (v := some (.int (m_L_key draft (qq (nI k4).toNatClampNeg)))) (st0 := [.int (qq (nI k4).toNatClampNeg), .long draft]) (As := [.long draft, .int (qq (nI k4).toNatClampNeg)]) (rest := []) ⟨hx, hb, hml, hown, hts⟩ (ct_L_key l D Y  draft (qq (nI k4).toNatClampNeg)) (va_cwS 2 hts gL_hits_L_key rfl rfl rfl (by decide +kernel) ⟨Nat.le_of_ble_eq_true rfl, Nat.le_of_ble_eq_true rfl⟩) hG hP hD [] rfl (by decide +kernel) rfl hl.1 rfl (Nat.le_of_ble_eq_true rfl) dL_hits_43 ⟨Nat.zero_le _, Nat.zero_le _⟩ ?_
                change W _ _ _ _ _ _ _ _ _ _ _ _ _ _ _ (F0 m 46 _ (.int (m_L_key draft (qq (nI k4).toNatClampNeg)) :: []))
                refine lv_if_le (tgt := 75) hx hb dL_hits_46 (by decide) (fun c_15 => ?_) (fun c_15 => ?_)
                · refine lv_iconst (v := 0) hx hb dL_hits_75 (by decide) ?_
                  refine lv_istore (lv' := [(9, .int 0), (8, .int (nI k20)), (7, .int x7_20), (6, .int x6_20), (5, .int (nI k4)), (0, .ref qvb), (1, .ref qnb), (2, .ref qqb), (3, .long draft)]) hx hb dL_hits_76 hl (by decide) rfl (fun ls hl => ?_)
                  refine lv_iload hx hb dL_hits_78 (lv_at hl 3 rfl) ?_
                  refine lv_iload hx hb dL_hits_80 (lv_at hl 0 rfl) ?_
                  refine lv_if_eq (tgt := 89) hx hb dL_hits_82 (by decide) (fun c_16 => ?_) (fun c_16 => ?_)
                  · refine lv_iconst (v := 0) hx hb dL_hits_89 (by decide) ?_
                    refine lv_iadd hx hb dL_hits_90 ?_
                    refine lv_topi (fun x_17 ex_17 => ?_)
                    refine lv_istore (lv' := [(6, .int x_17), (9, .int 0), (8, .int (nI k20)), (7, .int x7_20), (5, .int (nI k4)), (0, .ref qvb), (1, .ref qnb), (2, .ref qqb), (3, .long draft)]) hx hb dL_hits_91 hl (by decide) rfl (fun ls hl => ?_)
                    refine lv_iload hx hb dL_hits_93 (lv_at hl 1 rfl) ?_
                    refine lv_if_eq (tgt := 103) hx hb dL_hits_95 (by decide) (fun c_18 => ?_) (fun c_18 => ?_)
                    · refine lv_iload hx hb dL_hits_103 (lv_at hl 3 rfl) ?_
                      refine lv_istore (lv' := [(7, .int x7_20), (6, .int x_17), (9, .int 0), (8, .int (nI k20)), (5, .int (nI k4)), (0, .ref qvb), (1, .ref qnb), (2, .ref qqb), (3, .long draft)]) hx hb dL_hits_105 hl (by decide) rfl (fun ls hl => ?_)
                      refine lv_iinc (v := nI (k20 + 1)) (lv' := [(8, .int (nI (k20 + 1))), (7, .int x7_20), (6, .int x_17), (9, .int 0), (5, .int (nI k4)), (0, .ref qvb), (1, .ref qnb), (2, .ref qqb), (3, .long draft)]) hx hb dL_hits_107 hl (k := 3) rfl (nI_1 k20) (by decide) rfl (fun ls hl => ?_)
                      refine lv_goto (tgt := 20) hx hb dL_hits_110 (by decide) ?_
                      exact ih20 (k20 + 1) x7_20 x_17 _ (by omega) (Eq.trans (by subst ex_17; simp only [m_L_hits_lp20, eq_false hz, eq_true h_9, eq_false c_10, eq_true h_14, eq_true c_15, ↓reduceIte, if_true, if_false]) hres20) (lv_sub hl [0, 1, 2, 4, 5, 6, 7, 8] rfl)
                    · exact absurd c_18 (by decide)
                  · exact absurd c_16 (by decide)
                · refine lv_aload_n hx hb dL_hits_49 rfl (lv_at hl 4 rfl) ?_
                  refine lv_iload hx hb dL_hits_50 (lv_at hl 0 rfl) ?_
                  refine va_lald hx hb hG.1 hP 0 2 rfl rfl (inb_in h_9) dL_hits_52 ?_
                  refine lv_aload_n hx hb dL_hits_53 rfl (lv_at hl 6 rfl) ?_
                  refine lv_iload hx hb dL_hits_54 (lv_at hl 3 rfl) ?_
                  refine va_iald hx hb hG.1 hP 2 0 rfl rfl (inb_in h_14) dL_hits_56 ?_
                  refine cq_RS (R := (cq_rm 1 22)) (args := ([.ref qvb, .ref qnb, .ref qqb, .long draft] : List Value).toArray) (y := yL_key) (bytes := cL_key) (cc := cL_hits) (maxL := 3) (nL := 10) (n := 2) (index := 21) (ret := (some .int)) (ws := wsL_key) (rm := cq_rm 0 0) (Ts := wsL_hits) (own := RL) (D := D) (Y := Y) (W0 := ([] : va_W)) (wl := cl_lar Y qvb 40 qv ++ (cl_arr Y qnb 4 qn ++ (cl_arr Y qqb 12 qq))) (v := some (.int (m_L_key (qv (nI k20).toNatClampNeg) (qq (nI k4).toNatClampNeg)))) (st0 := [.int (qq (nI k4).toNatClampNeg), .long (qv (nI k20).toNatClampNeg)]) (As := [.long (qv (nI k20).toNatClampNeg), .int (qq (nI k4).toNatClampNeg)]) (rest := []) ⟨hx, hb, hml, hown, hts⟩ (ct_L_key l D Y  (qv (nI k20).toNatClampNeg) (qq (nI k4).toNatClampNeg)) (va_cwS 2 hts gL_hits_L_key rfl rfl rfl (by decide +kernel) ⟨Nat.le_of_ble_eq_true rfl, Nat.le_of_ble_eq_true rfl⟩) hG hP hD [] rfl (by decide +kernel) rfl hl.1 rfl (Nat.le_of_ble_eq_true rfl) dL_hits_57 ⟨Nat.zero_le _, Nat.zero_le _⟩ ?_
                  change W _ _ _ _ _ _ _ _ _ _ _ _ _ _ _ (F0 m 60 _ (.int (m_L_key (qv (nI k20).toNatClampNeg) (qq (nI k4).toNatClampNeg)) :: []))
                  refine lv_lload_n hx hb dL_hits_60 rfl (lv_at hl 7 rfl) ?_
                  refine lv_aload_n hx hb dL_hits_61 rfl (lv_at hl 6 rfl) ?_
                  refine lv_iload hx hb dL_hits_62 (lv_at hl 3 rfl) ?_
                  refine va_iald hx hb hG.1 hP 2 0 rfl rfl (inb_in h_14) dL_hits_64 ?_
                  refine cq_RS (R := (cq_rm 1 22)) (args := ([.ref qvb, .ref qnb, .ref qqb, .long draft] : List Value).toArray) (y := yL_key) (bytes := cL_key) (cc := cL_hits) (maxL := 3) (nL := 10) (n := 2) (index := 21) (ret := (some .int)) (ws := wsL_key) (rm := cq_rm 0 0) (Ts := wsL_hits) (own := RL) (D := D) (Y := Y) (W0 := ([] : va_W)) (wl := cl_lar Y qvb 40 qv ++ (cl_arr Y qnb 4 qn ++ (cl_arr Y qqb 12 qq))) (v := some (.int (m_L_key draft (qq (nI k4).toNatClampNeg)))) (st0 := [.int (qq (nI k4).toNatClampNeg), .long draft, .int (m_L_key (qv (nI k20).toNatClampNeg) (qq (nI k4).toNatClampNeg))]) (As := [.long draft, .int (qq (nI k4).toNatClampNeg)]) (rest := [.int (m_L_key (qv (nI k20).toNatClampNeg) (qq (nI k4).toNatClampNeg))]) ⟨hx, hb, hml, hown, hts⟩ (ct_L_key l D Y  draft (qq (nI k4).toNatClampNeg)) (va_cwS 2 hts gL_hits_L_key rfl rfl rfl (by decide +kernel) ⟨Nat.le_of_ble_eq_true rfl, Nat.le_of_ble_eq_true rfl⟩) hG hP hD [] rfl (by decide +kernel) rfl hl.1 rfl (Nat.le_of_ble_eq_true rfl) dL_hits_65 ⟨Nat.zero_le _, Nat.zero_le _⟩ ?_
                  change W _ _ _ _ _ _ _ _ _ _ _ _ _ _ _ (F0 m 68 _ (.int (m_L_key draft (qq (nI k4).toNatClampNeg)) :: [.int (m_L_key (qv (nI k20).toNatClampNeg) (qq (nI k4).toNatClampNeg))]))
                  refine lv_icmp_ne (tgt := 75) hx hb dL_hits_68 (by decide) (fun c_19 => ?_) (fun c_19 => ?_)
                  · refine lv_iconst (v := 0) hx hb dL_hits_75 (by decide) ?_
                    refine lv_istore (lv' := [(9, .int 0), (8, .int (nI k20)), (7, .int x7_20), (6, .int x6_20), (5, .int (nI k4)), (0, .ref qvb), (1, .ref qnb), (2, .ref qqb), (3, .long draft)]) hx hb dL_hits_76 hl (by decide) rfl (fun ls hl => ?_)
                    refine lv_iload hx hb dL_hits_78 (lv_at hl 3 rfl) ?_
                    refine lv_iload hx hb dL_hits_80 (lv_at hl 0 rfl) ?_
                    refine lv_if_eq (tgt := 89) hx hb dL_hits_82 (by decide) (fun c_20 => ?_) (fun c_20 => ?_)
                    · refine lv_iconst (v := 0) hx hb dL_hits_89 (by decide) ?_
                      refine lv_iadd hx hb dL_hits_90 ?_
                      refine lv_topi (fun x_21 ex_21 => ?_)
                      refine lv_istore (lv' := [(6, .int x_21), (9, .int 0), (8, .int (nI k20)), (7, .int x7_20), (5, .int (nI k4)), (0, .ref qvb), (1, .ref qnb), (2, .ref qqb), (3, .long draft)]) hx hb dL_hits_91 hl (by decide) rfl (fun ls hl => ?_)
                      refine lv_iload hx hb dL_hits_93 (lv_at hl 1 rfl) ?_
                      refine lv_if_eq (tgt := 103) hx hb dL_hits_95 (by decide) (fun c_22 => ?_) (fun c_22 => ?_)
                      · refine lv_iload hx hb dL_hits_103 (lv_at hl 3 rfl) ?_
                        refine lv_istore (lv' := [(7, .int x7_20), (6, .int x_21), (9, .int 0), (8, .int (nI k20)), (5, .int (nI k4)), (0, .ref qvb), (1, .ref qnb), (2, .ref qqb), (3, .long draft)]) hx hb dL_hits_105 hl (by decide) rfl (fun ls hl => ?_)
                        refine lv_iinc (v := nI (k20 + 1)) (lv' := [(8, .int (nI (k20 + 1))), (7, .int x7_20), (6, .int x_21), (9, .int 0), (5, .int (nI k4)), (0, .ref qvb), (1, .ref qnb), (2, .ref qqb), (3, .long draft)]) hx hb dL_hits_107 hl (k := 3) rfl (nI_1 k20) (by decide) rfl (fun ls hl => ?_)
                        refine lv_goto (tgt := 20) hx hb dL_hits_110 (by decide) ?_
                        exact ih20 (k20 + 1) x7_20 x_21 _ (by omega) (Eq.trans (by subst ex_21; simp only [m_L_hits_lp20, eq_false hz, eq_true h_9, eq_false c_10, eq_true h_14, eq_false c_15, eq_false c_19, ↓reduceIte, if_true, if_false]) hres20) (lv_sub hl [0, 1, 2, 4, 5, 6, 7, 8] rfl)
                      · exact absurd c_22 (by decide)
                    · exact absurd c_20 (by decide)
                  · refine lv_iconst (v := 1) hx hb dL_hits_71 (by decide) ?_
                    refine lv_goto (tgt := 76) hx hb dL_hits_72 (by decide) ?_
                    refine lv_istore (lv' := [(9, .int 1), (8, .int (nI k20)), (7, .int x7_20), (6, .int x6_20), (5, .int (nI k4)), (0, .ref qvb), (1, .ref qnb), (2, .ref qqb), (3, .long draft)]) hx hb dL_hits_76 hl (by decide) rfl (fun ls hl => ?_)
                    refine lv_iload hx hb dL_hits_78 (lv_at hl 3 rfl) ?_
                    refine lv_iload hx hb dL_hits_80 (lv_at hl 0 rfl) ?_
                    refine lv_if_eq (tgt := 89) hx hb dL_hits_82 (by decide) (fun c_23 => ?_) (fun c_23 => ?_)
                    · exact absurd c_23 (by decide)
                    · refine lv_iconst (v := 1) hx hb dL_hits_85 (by decide) ?_
                      refine lv_goto (tgt := 90) hx hb dL_hits_86 (by decide) ?_
                      refine lv_iadd hx hb dL_hits_90 ?_
                      refine lv_topi (fun x_24 ex_24 => ?_)
                      refine lv_istore (lv' := [(6, .int x_24), (9, .int 1), (8, .int (nI k20)), (7, .int x7_20), (5, .int (nI k4)), (0, .ref qvb), (1, .ref qnb), (2, .ref qqb), (3, .long draft)]) hx hb dL_hits_91 hl (by decide) rfl (fun ls hl => ?_)
                      refine lv_iload hx hb dL_hits_93 (lv_at hl 1 rfl) ?_
                      refine lv_if_eq (tgt := 103) hx hb dL_hits_95 (by decide) (fun c_25 => ?_) (fun c_25 => ?_)
                      · exact absurd c_25 (by decide)
                      · refine lv_iload hx hb dL_hits_98 (lv_at hl 2 rfl) ?_
                        refine lv_goto (tgt := 105) hx hb dL_hits_100 (by decide) ?_
                        refine lv_istore (lv' := [(7, .int (nI k20)), (6, .int x_24), (9, .int 1), (8, .int (nI k20)), (5, .int (nI k4)), (0, .ref qvb), (1, .ref qnb), (2, .ref qqb), (3, .long draft)]) hx hb dL_hits_105 hl (by decide) rfl (fun ls hl => ?_)
                        refine lv_iinc (v := nI (k20 + 1)) (lv' := [(8, .int (nI (k20 + 1))), (7, .int (nI k20)), (6, .int x_24), (9, .int 1), (5, .int (nI k4)), (0, .ref qvb), (1, .ref qnb), (2, .ref qqb), (3, .long draft)]) hx hb dL_hits_107 hl (k := 3) rfl (nI_1 k20) (by decide) rfl (fun ls hl => ?_)
                        refine lv_goto (tgt := 20) hx hb dL_hits_110 (by decide) ?_
                        exact ih20 (k20 + 1) (nI k20) x_24 _ (by omega) (Eq.trans (by subst ex_24; simp only [m_L_hits_lp20, eq_false hz, eq_true h_9, eq_false c_10, eq_true h_14, eq_false c_15, eq_true c_19, ↓reduceIte, if_true, if_false]) hres20) (lv_sub hl [0, 1, 2, 4, 5, 6, 7, 8] rfl)
        exact lp20 (qn (1 : Int32).toNatClampNeg).toNatClampNeg 0 (-1) 0 _ (Nat.zero_add _) qfin_4 (lv_sub hl [0, 1, 2, 3, 4, 5, 6, 7] rfl)
  exact lp4 3 9  _ (by rfl) (by have h8 := hm; simp only [m_L_hits, ↓reduceIte, if_true, if_false] at h8; exact h8) (lv_sub hl [0, 1, 2, 3, 4] rfl)

def m_L_many_lp4 (qv : FL) : Nat → Nat → Int32 → Option (Int32)
  | 0, k4, x1_4 => some x1_4
  | n4 + 1, k4, x1_4 => (if inb (nI k4) 40 = true then (if m_L_isIn (qv (nI k4).toNatClampNeg) = 0 then (let x_6 := x1_4 + 0; m_L_many_lp4 qv n4 (k4 + 1) x_6) else (let x_7 := x1_4 + 1; m_L_many_lp4 qv n4 (k4 + 1) x_7)) else none)
def m_L_many (qv : FL) : Option (Int32) := (m_L_many_lp4 qv 40 0 0).bind (fun fin_1 => some fin_1)
set_option maxHeartbeats 4000000 in
set_option maxRecDepth 100000 in
theorem ct_L_many (l : Launch) (D : va_G) (Y : cq_Y) (qvb : Nat) (qv : FL) (r : Int32) (hm : m_L_many qv = some r) : cq_MR l yL_many wsL_many (cq_rm 1 21) D Y (cl_lar Y qvb 40 qv) [.ref qvb] (some (.int r)) := by
  refine cq_body (cc := cL_many) (maxL := 3) (ret := (some .int)) (by decide) rfl (Nat.le_of_ble_eq_true rfl) ?_
  intro p e s m below meth c hE hP hG hD ls hl
  obtain ⟨hx, hb, hr, hml, hts, hown, hnm, hlocks⟩ := hE
  have hown : s.vm.findClass RL = some m.cls := hown
  have hl : lv_has ls 3 [(0, .ref qvb)] := hl
  refine lv_iconst (v := 0) hx hb dL_many_0 (by decide) ?_
  refine lv_istore_n (lv' := [(1, .int 0), (0, .ref qvb)]) hx hb dL_many_1 rfl hl (by decide) rfl (fun ls hl => ?_)
  refine lv_iconst (v := 0) hx hb dL_many_2 (by decide) ?_
  refine lv_istore_n (lv' := [(2, .int 0), (1, .int 0), (0, .ref qvb)]) hx hb dL_many_3 rfl hl (by decide) rfl (fun ls hl => ?_)
  obtain ⟨fin_1, qfin_1⟩ : ∃ z, m_L_many_lp4 qv 40 0 0 = some z := by cases h9 : m_L_many_lp4 qv 40 0 0 with | some z => exact ⟨z, rfl⟩ | none => exfalso; simp only [m_L_many, h9, Option.bind_none, ↓reduceIte, if_true, if_false] at hm; cases hm
  have lp4 : ∀ (n4 k4 : Nat) (x1_4 : Int32) (ls : Array Slot), k4 + n4 = 40 → m_L_many_lp4 qv n4 k4 x1_4 = some fin_1 → lv_has ls 3 [(2, .int (nI k4)), (1, .int x1_4), (0, .ref qvb)] → W p l e (cq_rm 1 21) s m ([.ref qvb] : List Value).toArray below meth c s.heap [] 0 0 (MQ below (cq_R (some (.int r))) ([.ref qvb] : List Value).toArray s 0 0 (fun _ => False)) (F0 m 4 ls []) := by
    intro n4; induction n4 with
    | zero =>
      intro k4 x1_4 ls hkn hres4 hl
      have hz : 40 ≤ nI k4 := cq_z (N := 40) rfl (by omega) (by omega)
      have e9 : fin_1 = x1_4 := (Option.some.inj hres4).symm
      subst e9
      refine lv_iload_n hx hb dL_many_4 rfl (lv_at hl 0 rfl) ?_
      refine lv_bipush (v := 40) hx hb dL_many_5 (by decide) ?_
      refine lv_icmp_ge (tgt := 33) hx hb dL_many_7 (by decide) (fun c_2 => ?_) (fun c_2 => ?_)
      · refine lv_iload_n hx hb dL_many_33 rfl (lv_at hl 1 rfl) ?_
        have h9 : some fin_1 = some r := by have h8 := hm; simp only [m_L_many, qfin_1, Option.bind_some, ↓reduceIte, if_true, if_false] at h8; exact h8
        have h10 := Option.some.inj h9
        subst h10
        exact cq_rI hx hb hr hlocks (vp_nar_int _) rfl dL_many_34
      · exact absurd hz c_2
    | succ n4 ih4 =>
      intro k4 x1_4 ls hkn hres4 hl
      have hz : ¬ (40 ≤ nI k4) := cq_s (N := 40) rfl (by omega) (by omega)
      refine lv_iload_n hx hb dL_many_4 rfl (lv_at hl 0 rfl) ?_
      refine lv_bipush (v := 40) hx hb dL_many_5 (by decide) ?_
      refine lv_icmp_ge (tgt := 33) hx hb dL_many_7 (by decide) (fun c_3 => ?_) (fun c_3 => ?_)
      · exact absurd c_3 hz
      · refine lv_iload_n hx hb dL_many_10 rfl (lv_at hl 1 rfl) ?_
        refine lv_aload_n hx hb dL_many_11 rfl (lv_at hl 2 rfl) ?_
        refine lv_iload_n hx hb dL_many_12 rfl (lv_at hl 0 rfl) ?_
        have h_4 : inb (nI k4) 40 = true := by by_cases h9 : inb (nI k4) 40 = true; exact h9; exfalso; simp only [m_L_many_lp4, eq_false h9, ↓reduceIte, if_true, if_false] at hres4; cases hres4
        refine va_lald hx hb hG.1 hP 0 2 rfl rfl (inb_in h_4) dL_many_13 ?_
        refine cq_RS (R := (cq_rm 1 21)) (args := ([.ref qvb] : List Value).toArray) (y := yL_isIn) (bytes := cL_isIn) (cc := cL_many) (maxL := 2) (nL := 3) (n := 1) (index := 15) (ret := (some .boolean)) (ws := wsL_isIn) (rm := cq_rm 0 0) (Ts := wsL_many) (own := RL) (D := D) (Y := Y) (W0 := ([] : va_W)) (wl := cl_lar Y qvb 40 qv) (v := some (.int (m_L_isIn (qv (nI k4).toNatClampNeg)))) (st0 := [.long (qv (nI k4).toNatClampNeg), .int x1_4]) (As := [.long (qv (nI k4).toNatClampNeg)]) (rest := [.int x1_4]) ⟨hx, hb, hml, hown, hts⟩ (ct_L_isIn l D Y  (qv (nI k4).toNatClampNeg)) (va_cwS 1 hts gL_many_L_isIn rfl rfl rfl (by decide +kernel) ⟨Nat.le_of_ble_eq_true rfl, Nat.le_of_ble_eq_true rfl⟩) hG hP hD [] rfl (by decide +kernel) rfl hl.1 rfl (Nat.le_of_ble_eq_true rfl) dL_many_14 ⟨Nat.zero_le _, Nat.zero_le _⟩ ?_
        change W _ _ _ _ _ _ _ _ _ _ _ _ _ _ _ (F0 m 17 _ (.int (m_L_isIn (qv (nI k4).toNatClampNeg)) :: [.int x1_4]))
        refine lv_if_eq (tgt := 24) hx hb dL_many_17 (by decide) (fun c_5 => ?_) (fun c_5 => ?_)
        · refine lv_iconst (v := 0) hx hb dL_many_24 (by decide) ?_
          refine lv_iadd hx hb dL_many_25 ?_
          refine lv_topi (fun x_6 ex_6 => ?_)
          refine lv_istore_n (lv' := [(1, .int x_6), (2, .int (nI k4)), (0, .ref qvb)]) hx hb dL_many_26 rfl hl (by decide) rfl (fun ls hl => ?_)
          refine lv_iinc (v := nI (k4 + 1)) (lv' := [(2, .int (nI (k4 + 1))), (1, .int x_6), (0, .ref qvb)]) hx hb dL_many_27 hl (k := 1) rfl (nI_1 k4) (by decide) rfl (fun ls hl => ?_)
          refine lv_goto (tgt := 4) hx hb dL_many_30 (by decide) ?_
          exact ih4 (k4 + 1) x_6 _ (by omega) (Eq.trans (by subst ex_6; simp only [m_L_many_lp4, eq_true h_4, eq_true c_5, ↓reduceIte, if_true, if_false]) hres4) (lv_sub hl [0, 1, 2] rfl)
        · refine lv_iconst (v := 1) hx hb dL_many_20 (by decide) ?_
          refine lv_goto (tgt := 25) hx hb dL_many_21 (by decide) ?_
          refine lv_iadd hx hb dL_many_25 ?_
          refine lv_topi (fun x_7 ex_7 => ?_)
          refine lv_istore_n (lv' := [(1, .int x_7), (2, .int (nI k4)), (0, .ref qvb)]) hx hb dL_many_26 rfl hl (by decide) rfl (fun ls hl => ?_)
          refine lv_iinc (v := nI (k4 + 1)) (lv' := [(2, .int (nI (k4 + 1))), (1, .int x_7), (0, .ref qvb)]) hx hb dL_many_27 hl (k := 1) rfl (nI_1 k4) (by decide) rfl (fun ls hl => ?_)
          refine lv_goto (tgt := 4) hx hb dL_many_30 (by decide) ?_
          exact ih4 (k4 + 1) x_7 _ (by omega) (Eq.trans (by subst ex_7; simp only [m_L_many_lp4, eq_true h_4, eq_false c_5, ↓reduceIte, if_true, if_false]) hres4) (lv_sub hl [0, 1, 2] rfl)
  exact lp4 40 0 0 _ (Nat.zero_add _) qfin_1 (lv_sub hl [0, 1, 2] rfl)

def m_L_adds (qe : FI) (qn : FI) (kind : Int32) (one : Int32) (other : Int32) : Option ((FI × FI)) := (if inb (qn (2 : Int32).toNatClampNeg) 64 = true then (if kind ≤ 0 then some (upd qe (qn (2 : Int32).toNatClampNeg).toNatClampNeg ((kind + (8 * one)) + (1024 * other)), upd (upd qn (2 : Int32).toNatClampNeg ((qn (2 : Int32).toNatClampNeg) + 1)) (3 : Int32).toNatClampNeg (((upd qn (2 : Int32).toNatClampNeg ((qn (2 : Int32).toNatClampNeg) + 1)) (3 : Int32).toNatClampNeg) + 0)) else some (upd qe (qn (2 : Int32).toNatClampNeg).toNatClampNeg ((kind + (8 * one)) + (1024 * other)), upd (upd qn (2 : Int32).toNatClampNeg ((qn (2 : Int32).toNatClampNeg) + 1)) (3 : Int32).toNatClampNeg (((upd qn (2 : Int32).toNatClampNeg ((qn (2 : Int32).toNatClampNeg) + 1)) (3 : Int32).toNatClampNeg) + 1))) else none)
set_option maxHeartbeats 4000000 in
set_option maxRecDepth 100000 in
theorem ct_L_adds (l : Launch) (D : va_G) (Y : cq_Y) (qeb : Nat) (qe : FI) (qnb : Nat) (qn : FI) (kind : Int32) (one : Int32) (other : Int32) (r : (FI × FI)) (hm : m_L_adds qe qn kind one other = some r) : cq_MW l yL_adds wsL_adds (cq_rm 0 0) D Y (cl_arr Y qeb 64 qe ++ (cl_arr Y qnb 4 qn)) [.ref qeb, .ref qnb, .int kind, .int one, .int other] (none) (cl_arr Y qeb 64 r.1 ++ (cl_arr Y qnb 4 r.2)) := by
  refine cq_body (cc := cL_adds) (maxL := 5) (ret := none) (by decide) rfl (Nat.le_of_ble_eq_true rfl) ?_
  intro p e s m below meth c hE hP hG hD ls hl
  obtain ⟨hx, hb, hr, hml, hts, hown, hnm, hlocks⟩ := hE
  have hown : s.vm.findClass RL = some m.cls := hown
  have hS : va_S (cq_in (cl_arr Y qeb 64 qe ++ (cl_arr Y qnb 4 qn))) s.heap s.heap [] := va_S.rf
  have hl : lv_has ls 5 [(0, .ref qeb), (1, .ref qnb), (2, .int kind), (3, .int one), (4, .int other)] := hl
  refine lv_aload_n hx hb dL_adds_0 rfl (lv_at hl 0 rfl) ?_
  refine lv_aload_n hx hb dL_adds_1 rfl (lv_at hl 1 rfl) ?_
  refine lv_iconst (v := 2) hx hb dL_adds_2 (by decide) ?_
  refine va_iald hx hb hG.1 hP 1 0 rfl rfl (inb_in (by decide)) dL_adds_3 ?_
  refine lv_iload_n hx hb dL_adds_4 rfl (lv_at hl 2 rfl) ?_
  refine lv_bipush (v := 8) hx hb dL_adds_5 (by decide) ?_
  refine lv_iload_n hx hb dL_adds_7 rfl (lv_at hl 3 rfl) ?_
  refine lv_imul hx hb dL_adds_8 ?_
  refine lv_iadd hx hb dL_adds_9 ?_
  refine lv_sipush (v := 1024) hx hb dL_adds_10 (by decide) ?_
  refine lv_iload hx hb dL_adds_13 (lv_at hl 4 rfl) ?_
  refine lv_imul hx hb dL_adds_15 ?_
  refine lv_iadd hx hb dL_adds_16 ?_
  have h_1 : inb (qn (2 : Int32).toNatClampNeg) 64 = true := by by_cases h9 : inb (qn (2 : Int32).toNatClampNeg) 64 = true; exact h9; exfalso; simp only [m_L_adds, eq_false h9, ↓reduceIte, if_true, if_false] at hm; cases hm
  refine va_iast hx hb hG.1 hP hD hS 0 0 rfl rfl (inb_in h_1) dL_adds_17 (fun H locs hP hD hS => ?_)
  have hP : va_P D vwCl (cl_arr Y qeb 64 (upd qe (qn (2 : Int32).toNatClampNeg).toNatClampNeg ((kind + (8 * one)) + (1024 * other))) ++ (cl_arr Y qnb 4 qn)) H := hP
  have hD : va_D (cq_in (cl_arr Y qeb 64 qe ++ (cl_arr Y qnb 4 qn))) (cl_arr Y qeb 64 (upd qe (qn (2 : Int32).toNatClampNeg).toNatClampNeg ((kind + (8 * one)) + (1024 * other))) ++ (cl_arr Y qnb 4 qn)) := hD
  refine lv_aload_n hx hb dL_adds_18 rfl (lv_at hl 1 rfl) ?_
  refine lv_iconst (v := 2) hx hb dL_adds_19 (by decide) ?_
  refine lv_dup2_11 hx hb dL_adds_20 rfl rfl ?_
  refine va_iald hx hb hG.1 hP 1 0 rfl rfl (inb_in (by decide)) dL_adds_21 ?_
  refine lv_iconst (v := 1) hx hb dL_adds_22 (by decide) ?_
  refine lv_iadd hx hb dL_adds_23 ?_
  refine va_iast hx hb hG.1 hP hD hS 1 0 rfl rfl (inb_in (by decide)) dL_adds_24 (fun H locs hP hD hS => ?_)
  have hP : va_P D vwCl (cl_arr Y qeb 64 (upd qe (qn (2 : Int32).toNatClampNeg).toNatClampNeg ((kind + (8 * one)) + (1024 * other))) ++ (cl_arr Y qnb 4 (upd qn (2 : Int32).toNatClampNeg ((qn (2 : Int32).toNatClampNeg) + 1)))) H := hP
  have hD : va_D (cq_in (cl_arr Y qeb 64 qe ++ (cl_arr Y qnb 4 qn))) (cl_arr Y qeb 64 (upd qe (qn (2 : Int32).toNatClampNeg).toNatClampNeg ((kind + (8 * one)) + (1024 * other))) ++ (cl_arr Y qnb 4 (upd qn (2 : Int32).toNatClampNeg ((qn (2 : Int32).toNatClampNeg) + 1)))) := hD
  refine lv_aload_n hx hb dL_adds_25 rfl (lv_at hl 1 rfl) ?_
  refine lv_iconst (v := 3) hx hb dL_adds_26 (by decide) ?_
  refine lv_dup2_11 hx hb dL_adds_27 rfl rfl ?_
  refine va_iald hx hb hG.1 hP 1 0 rfl rfl (inb_in (by decide)) dL_adds_28 ?_
  refine lv_iload_n hx hb dL_adds_29 rfl (lv_at hl 2 rfl) ?_
  refine lv_if_le (tgt := 37) hx hb dL_adds_30 (by decide) (fun c_2 => ?_) (fun c_2 => ?_)
  · refine lv_iconst (v := 0) hx hb dL_adds_37 (by decide) ?_
    refine lv_iadd hx hb dL_adds_38 ?_
    refine va_iast hx hb hG.1 hP hD hS 1 0 rfl rfl (inb_in (by decide)) dL_adds_39 (fun H locs hP hD hS => ?_)
    have hP : va_P D vwCl (cl_arr Y qeb 64 (upd qe (qn (2 : Int32).toNatClampNeg).toNatClampNeg ((kind + (8 * one)) + (1024 * other))) ++ (cl_arr Y qnb 4 (upd (upd qn (2 : Int32).toNatClampNeg ((qn (2 : Int32).toNatClampNeg) + 1)) (3 : Int32).toNatClampNeg (((upd qn (2 : Int32).toNatClampNeg ((qn (2 : Int32).toNatClampNeg) + 1)) (3 : Int32).toNatClampNeg) + 0)))) H := hP
    have hD : va_D (cq_in (cl_arr Y qeb 64 qe ++ (cl_arr Y qnb 4 qn))) (cl_arr Y qeb 64 (upd qe (qn (2 : Int32).toNatClampNeg).toNatClampNeg ((kind + (8 * one)) + (1024 * other))) ++ (cl_arr Y qnb 4 (upd (upd qn (2 : Int32).toNatClampNeg ((qn (2 : Int32).toNatClampNeg) + 1)) (3 : Int32).toNatClampNeg (((upd qn (2 : Int32).toNatClampNeg ((qn (2 : Int32).toNatClampNeg) + 1)) (3 : Int32).toNatClampNeg) + 0)))) := hD
    have h9 : some (upd qe (qn (2 : Int32).toNatClampNeg).toNatClampNeg ((kind + (8 * one)) + (1024 * other)), upd (upd qn (2 : Int32).toNatClampNeg ((qn (2 : Int32).toNatClampNeg) + 1)) (3 : Int32).toNatClampNeg (((upd qn (2 : Int32).toNatClampNeg ((qn (2 : Int32).toNatClampNeg) + 1)) (3 : Int32).toNatClampNeg) + 0)) = some r := by have h8 := hm; simp only [m_L_adds, eq_true h_1, eq_true c_2, ↓reduceIte, if_true, if_false] at h8; exact h8
    have h10 := Option.some.inj h9
    subst h10
    exact cq_wV (wl := cl_arr Y qeb 64 (upd qe (qn (2 : Int32).toNatClampNeg).toNatClampNeg ((kind + (8 * one)) + (1024 * other))) ++ (cl_arr Y qnb 4 (upd (upd qn (2 : Int32).toNatClampNeg ((qn (2 : Int32).toNatClampNeg) + 1)) (3 : Int32).toNatClampNeg (((upd qn (2 : Int32).toNatClampNeg ((qn (2 : Int32).toNatClampNeg) + 1)) (3 : Int32).toNatClampNeg) + 0)))) hx hb hr hlocks hP hS rfl rfl dL_adds_40
  · refine lv_iconst (v := 1) hx hb dL_adds_33 (by decide) ?_
    refine lv_goto (tgt := 38) hx hb dL_adds_34 (by decide) ?_
    refine lv_iadd hx hb dL_adds_38 ?_
    refine va_iast hx hb hG.1 hP hD hS 1 0 rfl rfl (inb_in (by decide)) dL_adds_39 (fun H locs hP hD hS => ?_)
    have hP : va_P D vwCl (cl_arr Y qeb 64 (upd qe (qn (2 : Int32).toNatClampNeg).toNatClampNeg ((kind + (8 * one)) + (1024 * other))) ++ (cl_arr Y qnb 4 (upd (upd qn (2 : Int32).toNatClampNeg ((qn (2 : Int32).toNatClampNeg) + 1)) (3 : Int32).toNatClampNeg (((upd qn (2 : Int32).toNatClampNeg ((qn (2 : Int32).toNatClampNeg) + 1)) (3 : Int32).toNatClampNeg) + 1)))) H := hP
    have hD : va_D (cq_in (cl_arr Y qeb 64 qe ++ (cl_arr Y qnb 4 qn))) (cl_arr Y qeb 64 (upd qe (qn (2 : Int32).toNatClampNeg).toNatClampNeg ((kind + (8 * one)) + (1024 * other))) ++ (cl_arr Y qnb 4 (upd (upd qn (2 : Int32).toNatClampNeg ((qn (2 : Int32).toNatClampNeg) + 1)) (3 : Int32).toNatClampNeg (((upd qn (2 : Int32).toNatClampNeg ((qn (2 : Int32).toNatClampNeg) + 1)) (3 : Int32).toNatClampNeg) + 1)))) := hD
    have h9 : some (upd qe (qn (2 : Int32).toNatClampNeg).toNatClampNeg ((kind + (8 * one)) + (1024 * other)), upd (upd qn (2 : Int32).toNatClampNeg ((qn (2 : Int32).toNatClampNeg) + 1)) (3 : Int32).toNatClampNeg (((upd qn (2 : Int32).toNatClampNeg ((qn (2 : Int32).toNatClampNeg) + 1)) (3 : Int32).toNatClampNeg) + 1)) = some r := by have h8 := hm; simp only [m_L_adds, eq_true h_1, eq_false c_2, ↓reduceIte, if_true, if_false] at h8; exact h8
    have h10 := Option.some.inj h9
    subst h10
    exact cq_wV (wl := cl_arr Y qeb 64 (upd qe (qn (2 : Int32).toNatClampNeg).toNatClampNeg ((kind + (8 * one)) + (1024 * other))) ++ (cl_arr Y qnb 4 (upd (upd qn (2 : Int32).toNatClampNeg ((qn (2 : Int32).toNatClampNeg) + 1)) (3 : Int32).toNatClampNeg (((upd qn (2 : Int32).toNatClampNeg ((qn (2 : Int32).toNatClampNeg) + 1)) (3 : Int32).toNatClampNeg) + 1)))) hx hb hr hlocks hP hS rfl rfl dL_adds_40
