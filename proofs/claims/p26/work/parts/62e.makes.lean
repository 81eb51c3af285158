def m_L_makes_lp29 (qv : FL) (qh : FI) (qe : FI) (qn : FI) (qq : FI) (ql : FL) (qb : FI) (qt : FI) (qu : FI) (fin_1 : FL × FI) : Nat → Nat → FL → FI → FI → Option (FL × FI × FI)
  | 0, k29, s0_29, s1_29, s7_29 => (if qn (2 : Int32).toNatClampNeg ≤ nI k29 then some (s0_29, s1_29, s7_29) else none)
  | n29 + 1, k29, s0_29, s1_29, s7_29 => (if qn (2 : Int32).toNatClampNeg ≤ nI k29 then none else (if inb (nI k29) 64 = true then (let x_7 := (qe (nI k29).toNatClampNeg) - (qe (nI k29).toNatClampNeg) / (8 : Int32) * (8 : Int32); (let x_8 := ((qe (nI k29).toNatClampNeg) / (8 : Int32)) - ((qe (nI k29).toNatClampNeg) / (8 : Int32)) / (128 : Int32) * (128 : Int32); (let x_9 := (qe (nI k29).toNatClampNeg) / (1024 : Int32); (if x_7 = 0 then (m_L_loads s0_29 s1_29 qn qq ql qb s7_29 qu x_8).bind (fun r_27 => m_L_makes_lp29 qv qh qe qn qq ql qb qt qu fin_1 n29 (k29 + 1) r_27.1 r_27.2.1 r_27.2.2) else (if inb x_8 40 = true then (if m_L_isIn (s0_29 x_8.toNatClampNeg) = 0 then m_L_makes_lp29 qv qh qe qn qq ql qb qt qu fin_1 n29 (k29 + 1) s0_29 s1_29 s7_29 else (if x_7 = 3 then m_L_makes_lp29 qv qh qe qn qq ql qb qt qu fin_1 n29 (k29 + 1) s0_29 (upd s1_29 x_8.toNatClampNeg ((s1_29 x_8.toNatClampNeg) + 1)) s7_29 else (if x_7 = 4 then (if inb x_9 40 = true then (if m_L_isIn (s0_29 x_9.toNatClampNeg) = 0 then (if 3 ≤ x_7 then m_L_makes_lp29 qv qh qe qn qq ql qb qt qu fin_1 n29 (k29 + 1) s0_29 s1_29 s7_29 else (if x_7 = 1 then m_L_makes_lp29 qv qh qe qn qq ql qb qt qu fin_1 n29 (k29 + 1) (vp_updL s0_29 x_8.toNatClampNeg ((s0_29 x_8.toNatClampNeg) ||| ((1 : Int64) <<< ((58 + x_9).toInt64 &&& 63)))) s1_29 s7_29 else m_L_makes_lp29 qv qh qe qn qq ql qb qt qu fin_1 n29 (k29 + 1) (vp_updL s0_29 x_8.toNatClampNeg ((s0_29 x_8.toNatClampNeg) &&& (((1 : Int64) <<< ((58 + x_9).toInt64 &&& 63)) ^^^ (-1 : Int64)))) s1_29 s7_29)) else (m_L_merges s0_29 s1_29 x_8 x_9).bind (fun r_26 => m_L_makes_lp29 qv qh qe qn qq ql qb qt qu fin_1 n29 (k29 + 1) r_26.1 r_26.2 s7_29)) else none) else (if 3 ≤ x_7 then m_L_makes_lp29 qv qh qe qn qq ql qb qt qu fin_1 n29 (k29 + 1) s0_29 s1_29 s7_29 else (if x_7 = 1 then m_L_makes_lp29 qv qh qe qn qq ql qb qt qu fin_1 n29 (k29 + 1) (vp_updL s0_29 x_8.toNatClampNeg ((s0_29 x_8.toNatClampNeg) ||| ((1 : Int64) <<< ((58 + x_9).toInt64 &&& 63)))) s1_29 s7_29 else m_L_makes_lp29 qv qh qe qn qq ql qb qt qu fin_1 n29 (k29 + 1) (vp_updL s0_29 x_8.toNatClampNeg ((s0_29 x_8.toNatClampNeg) &&& (((1 : Int64) <<< ((58 + x_9).toInt64 &&& 63)) ^^^ (-1 : Int64)))) s1_29 s7_29))))) else none))))) else none))
def m_L_makes_lp3 (qv : FL) (qh : FI) (qe : FI) (qn : FI) (qq : FI) (ql : FL) (qb : FI) (qt : FI) (qu : FI) : Nat → Nat → FL → FI → Option (FL × FI)
  | 0, k3, s0_3, s1_3 => some (s0_3, s1_3)
  | n3 + 1, k3, s0_3, s1_3 => (if inb (nI k3) 40 = true then m_L_makes_lp3 qv qh qe qn qq ql qb qt qu n3 (k3 + 1) (vp_updL s0_3 (nI k3).toNatClampNeg (0 : Int64)) (upd s1_3 (nI k3).toNatClampNeg 0) else none)
def m_L_makes (qv : FL) (qh : FI) (qe : FI) (qn : FI) (qq : FI) (ql : FL) (qb : FI) (qt : FI) (qu : FI) : Option ((FL × FI × FI)) := (m_L_makes_lp3 qv qh qe qn qq ql qb qt qu 40 0 qv qh).bind (fun fin_1 => (m_L_makes_lp29 qv qh qe qn qq ql qb qt qu fin_1 (qn (2 : Int32).toNatClampNeg).toNatClampNeg 0 fin_1.1 fin_1.2 qt).bind (fun fin_3 => some (fin_3.1, fin_3.2.1, fin_3.2.2)))
set_option maxHeartbeats 4000000 in
set_option maxRecDepth 100000 in
theorem ct_L_makes (l : Launch) (D : va_G) (Y : cq_Y) (qvb : Nat) (qv : FL) (qhb : Nat) (qh : FI) (qeb : Nat) (qe : FI) (qnb : Nat) (qn : FI) (qqb : Nat) (qq : FI) (qlb : Nat) (ql : FL) (qbb : Nat) (qb : FI) (qtb : Nat) (qt : FI) (qub : Nat) (qu : FI) (r : (FL × FI × FI)) (hm : m_L_makes qv qh qe qn qq ql qb qt qu = some r) : cq_MW l yL_makes wsL_makes (cq_rm 3 85) D Y (cl_lar Y qvb 40 qv ++ (cl_arr Y qhb 40 qh ++ (cl_arr Y qeb 64 qe ++ (cl_arr Y qnb 4 qn ++ (cl_arr Y qqb 12 qq ++ (cl_lar Y qlb 40 ql ++ (cl_arr Y qbb 40 qb ++ (cl_arr Y qtb 40 qt ++ (cl_arr Y qub 1 qu))))))))) [.ref qvb, .ref qhb, .ref qeb, .ref qnb, .ref qqb, .ref qlb, .ref qbb, .ref qtb, .ref qub] (none) (cl_lar Y qvb 40 r.1 ++ (cl_arr Y qhb 40 r.2.1 ++ (cl_arr Y qeb 64 qe ++ (cl_arr Y qnb 4 qn ++ (cl_arr Y qqb 12 qq ++ (cl_lar Y qlb 40 ql ++ (cl_arr Y qbb 40 qb ++ (cl_arr Y qtb 40 r.2.2 ++ (cl_arr Y qub 1 qu))))))))) := by
  refine cq_body (cc := cL_makes) (maxL := 13) (ret := none) (by decide) rfl (Nat.le_of_ble_eq_true rfl) ?_
  intro p e s m below meth c hE hP hG hD ls hl
  obtain ⟨hx, hb, hr, hml, hts, hown, hnm, hlocks⟩ := hE
  have hown : s.vm.findClass RL = some m.cls := hown
  have hS : va_S (cq_in (cl_lar Y qvb 40 qv ++ (cl_arr Y qhb 40 qh ++ (cl_arr Y qeb 64 qe ++ (cl_arr Y qnb 4 qn ++ (cl_arr Y qqb 12 qq ++ (cl_lar Y qlb 40 ql ++ (cl_arr Y qbb 40 qb ++ (cl_arr Y qtb 40 qt ++ (cl_arr Y qub 1 qu)))))))))) s.heap s.heap [] := va_S.rf
  have hl : lv_has ls 13 [(0, .ref qvb), (1, .ref qhb), (2, .ref qeb), (3, .ref qnb), (4, .ref qqb), (5, .ref qlb), (6, .ref qbb), (7, .ref qtb), (8, .ref qub)] := hl
  refine lv_iconst (v := 0) hx hb dL_makes_0 (by decide) ?_
  refine lv_istore (lv' := [(9, .int 0), (0, .ref qvb), (1, .ref qhb), (2, .ref qeb), (3, .ref qnb), (4, .ref qqb), (5, .ref qlb), (6, .ref qbb), (7, .ref qtb), (8, .ref qub)]) hx hb dL_makes_1 hl (by decide) rfl (fun ls hl => ?_)
  obtain ⟨fin_1, qfin_1⟩ : ∃ z, m_L_makes_lp3 qv qh qe qn qq ql qb qt qu 40 0 qv qh = some z := by cases h9 : m_L_makes_lp3 qv qh qe qn qq ql qb qt qu 40 0 qv qh with | some z => exact ⟨z, rfl⟩ | none => exfalso; simp only [m_L_makes, h9, Option.bind_none, ↓reduceIte, if_true, if_false] at hm; cases hm
  have lp3 : ∀ (n3 k3 : Nat) (s0_3 : FL) (s1_3 : FI) (H : Heap) (locs : List Loc) (ls : Array Slot), k3 + n3 = 40 → m_L_makes_lp3 qv qh qe qn qq ql qb qt qu n3 k3 s0_3 s1_3 = some fin_1 → va_P D vwCl (cl_lar Y qvb 40 s0_3 ++ (cl_arr Y qhb 40 s1_3 ++ (cl_arr Y qeb 64 qe ++ (cl_arr Y qnb 4 qn ++ (cl_arr Y qqb 12 qq ++ (cl_lar Y qlb 40 ql ++ (cl_arr Y qbb 40 qb ++ (cl_arr Y qtb 40 qt ++ (cl_arr Y qub 1 qu))))))))) H → va_D (cq_in (cl_lar Y qvb 40 qv ++ (cl_arr Y qhb 40 qh ++ (cl_arr Y qeb 64 qe ++ (cl_arr Y qnb 4 qn ++ (cl_arr Y qqb 12 qq ++ (cl_lar Y qlb 40 ql ++ (cl_arr Y qbb 40 qb ++ (cl_arr Y qtb 40 qt ++ (cl_arr Y qub 1 qu)))))))))) (cl_lar Y qvb 40 s0_3 ++ (cl_arr Y qhb 40 s1_3 ++ (cl_arr Y qeb 64 qe ++ (cl_arr Y qnb 4 qn ++ (cl_arr Y qqb 12 qq ++ (cl_lar Y qlb 40 ql ++ (cl_arr Y qbb 40 qb ++ (cl_arr Y qtb 40 qt ++ (cl_arr Y qub 1 qu))))))))) → va_S (cq_in (cl_lar Y qvb 40 qv ++ (cl_arr Y qhb 40 qh ++ (cl_arr Y qeb 64 qe ++ (cl_arr Y qnb 4 qn ++ (cl_arr Y qqb 12 qq ++ (cl_lar Y qlb 40 ql ++ (cl_arr Y qbb 40 qb ++ (cl_arr Y qtb 40 qt ++ (cl_arr Y qub 1 qu)))))))))) s.heap H locs → lv_has ls 13 [(9, .int (nI k3)), (0, .ref qvb), (1, .ref qhb), (2, .ref qeb), (3, .ref qnb), (4, .ref qqb), (5, .ref qlb), (6, .ref qbb), (7, .ref qtb), (8, .ref qub)] → W p l e (cq_rm 3 85) s m ([.ref qvb, .ref qhb, .ref qeb, .ref qnb, .ref qqb, .ref qlb, .ref qbb, .ref qtb, .ref qub] : List Value).toArray below meth c H locs 0 0 (MQ below (cq_W D (none) (cl_lar Y qvb 40 qv ++ (cl_arr Y qhb 40 qh ++ (cl_arr Y qeb 64 qe ++ (cl_arr Y qnb 4 qn ++ (cl_arr Y qqb 12 qq ++ (cl_lar Y qlb 40 ql ++ (cl_arr Y qbb 40 qb ++ (cl_arr Y qtb 40 qt ++ (cl_arr Y qub 1 qu))))))))) (cl_lar Y qvb 40 r.1 ++ (cl_arr Y qhb 40 r.2.1 ++ (cl_arr Y qeb 64 qe ++ (cl_arr Y qnb 4 qn ++ (cl_arr Y qqb 12 qq ++ (cl_lar Y qlb 40 ql ++ (cl_arr Y qbb 40 qb ++ (cl_arr Y qtb 40 r.2.2 ++ (cl_arr Y qub 1 qu)))))))))) ([.ref qvb, .ref qhb, .ref qeb, .ref qnb, .ref qqb, .ref qlb, .ref qbb, .ref qtb, .ref qub] : List Value).toArray s 0 0 (cq_in (cl_lar Y qvb 40 qv ++ (cl_arr Y qhb 40 qh ++ (cl_arr Y qeb 64 qe ++ (cl_arr Y qnb 4 qn ++ (cl_arr Y qqb 12 qq ++ (cl_lar Y qlb 40 ql ++ (cl_arr Y qbb 40 qb ++ (cl_arr Y qtb 40 qt ++ (cl_arr Y qub 1 qu))))))))))) (F0 m 3 ls []) := by
    intro n3; induction n3 with
    | zero =>
      intro k3 s0_3 s1_3 H locs ls hkn hres3 hP hD hS hl
      have hz : 40 ≤ nI k3 := cq_z (N := 40) rfl (by omega) (by omega)
      have e9 : s0_3 = fin_1.1 := by rw [← (Option.some.inj hres3)]
      subst e9
      have e9 : s1_3 = fin_1.2 := by rw [← (Option.some.inj hres3)]
      subst e9
      refine lv_iload hx hb dL_makes_3 (lv_at hl 0 rfl) ?_
      refine lv_bipush (v := 40) hx hb dL_makes_5 (by decide) ?_
      refine lv_icmp_ge (tgt := 26) hx hb dL_makes_7 (by decide) (fun c_2 => ?_) (fun c_2 => ?_)
      · refine lv_iconst (v := 0) hx hb dL_makes_26 (by decide) ?_
        refine lv_istore (lv' := [(9, .int 0), (0, .ref qvb), (1, .ref qhb), (2, .ref qeb), (3, .ref qnb), (4, .ref qqb), (5, .ref qlb), (6, .ref qbb), (7, .ref qtb), (8, .ref qub)]) hx hb dL_makes_27 hl (by decide) rfl (fun ls hl => ?_)
        obtain ⟨fin_3, qfin_3⟩ : ∃ z, m_L_makes_lp29 qv qh qe qn qq ql qb qt qu fin_1 (qn (2 : Int32).toNatClampNeg).toNatClampNeg 0 fin_1.1 fin_1.2 qt = some z := by cases h9 : m_L_makes_lp29 qv qh qe qn qq ql qb qt qu fin_1 (qn (2 : Int32).toNatClampNeg).toNatClampNeg 0 fin_1.1 fin_1.2 qt with | some z => exact ⟨z, rfl⟩ | none => exfalso; simp only [m_L_makes, h9, Option.bind_none, qfin_1, Option.bind_some, ↓reduceIte, if_true, if_false] at hm; cases hm
        have lp29 : ∀ (n29 k29 : Nat) (s0_29 : FL) (s1_29 : FI) (s7_29 : FI) (H : Heap) (locs : List Loc) (ls : Array Slot), k29 + n29 = (qn (2 : Int32).toNatClampNeg).toNatClampNeg → m_L_makes_lp29 qv qh qe qn qq ql qb qt qu fin_1 n29 k29 s0_29 s1_29 s7_29 = some fin_3 → va_P D vwCl (cl_lar Y qvb 40 s0_29 ++ (cl_arr Y qhb 40 s1_29 ++ (cl_arr Y qeb 64 qe ++ (cl_arr Y qnb 4 qn ++ (cl_arr Y qqb 12 qq ++ (cl_lar Y qlb 40 ql ++ (cl_arr Y qbb 40 qb ++ (cl_arr Y qtb 40 s7_29 ++ (cl_arr Y qub 1 qu))))))))) H → va_D (cq_in (cl_lar Y qvb 40 qv ++ (cl_arr Y qhb 40 qh ++ (cl_arr Y qeb 64 qe ++ (cl_arr Y qnb 4 qn ++ (cl_arr Y qqb 12 qq ++ (cl_lar Y qlb 40 ql ++ (cl_arr Y qbb 40 qb ++ (cl_arr Y qtb 40 qt ++ (cl_arr Y qub 1 qu)))))))))) (cl_lar Y qvb 40 s0_29 ++ (cl_arr Y qhb 40 s1_29 ++ (cl_arr Y qeb 64 qe ++ (cl_arr Y qnb 4 qn ++ (cl_arr Y qqb 12 qq ++ (cl_lar Y qlb 40 ql ++ (cl_arr Y qbb 40 qb ++ (cl_arr Y qtb 40 s7_29 ++ (cl_arr Y qub 1 qu))))))))) → va_S (cq_in (cl_lar Y qvb 40 qv ++ (cl_arr Y qhb 40 qh ++ (cl_arr Y qeb 64 qe ++ (cl_arr Y qnb 4 qn ++ (cl_arr Y qqb 12 qq ++ (cl_lar Y qlb 40 ql ++ (cl_arr Y qbb 40 qb ++ (cl_arr Y qtb 40 qt ++ (cl_arr Y qub 1 qu)))))))))) s.heap H locs → lv_has ls 13 [(9, .int (nI k29)), (0, .ref qvb), (1, .ref qhb), (2, .ref qeb), (3, .ref qnb), (4, .ref qqb), (5, .ref qlb), (6, .ref qbb), (7, .ref qtb), (8, .ref qub)] → W p l e (cq_rm 3 85) s m ([.ref qvb, .ref qhb, .ref qeb, .ref qnb, .ref qqb, .ref qlb, .ref qbb, .ref qtb, .ref qub] : List Value).toArray below meth c H locs 0 0 (MQ below (cq_W D (none) (cl_lar Y qvb 40 qv ++ (cl_arr Y qhb 40 qh ++ (cl_arr Y qeb 64 qe ++ (cl_arr Y qnb 4 qn ++ (cl_arr Y qqb 12 qq ++ (cl_lar Y qlb 40 ql ++ (cl_arr Y qbb 40 qb ++ (cl_arr Y qtb 40 qt ++ (cl_arr Y qub 1 qu))))))))) (cl_lar Y qvb 40 r.1 ++ (cl_arr Y qhb 40 r.2.1 ++ (cl_arr Y qeb 64 qe ++ (cl_arr Y qnb 4 qn ++ (cl_arr Y qqb 12 qq ++ (cl_lar Y qlb 40 ql ++ (cl_arr Y qbb 40 qb ++ (cl_arr Y qtb 40 r.2.2 ++ (cl_arr Y qub 1 qu)))))))))) ([.ref qvb, .ref qhb, .ref qeb, .ref qnb, .ref qqb, .ref qlb, .ref qbb, .ref qtb, .ref qub] : List Value).toArray s 0 0 (cq_in (cl_lar Y qvb 40 qv ++ (cl_arr Y qhb 40 qh ++ (cl_arr Y qeb 64 qe ++ (cl_arr Y qnb 4 qn ++ (cl_arr Y qqb 12 qq ++ (cl_lar Y qlb 40 ql ++ (cl_arr Y qbb 40 qb ++ (cl_arr Y qtb 40 qt ++ (cl_arr Y qub 1 qu))))))))))) (F0 m 29 ls []) := by
          intro n29; induction n29 with
          | zero =>
            intro k29 s0_29 s1_29 s7_29 H locs ls hkn hres29 hP hD hS hl
            have hz : qn (2 : Int32).toNatClampNeg ≤ nI k29 := by by_cases h9 : qn (2 : Int32).toNatClampNeg ≤ nI k29; exact h9; exfalso; simp only [m_L_makes_lp29, eq_false h9, ↓reduceIte, if_false] at hres29; cases hres29
            have hdy := hres29
            simp only [m_L_makes_lp29, eq_true hz, ↓reduceIte, if_true] at hdy
            have e9 : s0_29 = fin_3.1 := by rw [← (Option.some.inj hdy)]
            subst e9
            have e9 : s1_29 = fin_3.2.1 := by rw [← (Option.some.inj hdy)]
            subst e9
            have e9 : s7_29 = fin_3.2.2 := by rw [← (Option.some.inj hdy)]
            subst e9
            refine lv_iload hx hb dL_makes_29 (lv_at hl 0 rfl) ?_
            refine lv_aload_n hx hb dL_makes_31 rfl (lv_at hl 4 rfl) ?_
            refine lv_iconst (v := 2) hx hb dL_makes_32 (by decide) ?_
            refine va_iald hx hb hG.1 hP 3 0 rfl rfl (inb_in (by decide)) dL_makes_33 ?_
            refine lv_icmp_ge (tgt := 223) hx hb dL_makes_34 (by decide) (fun c_4 => ?_) (fun c_4 => ?_)
            · have h9 : some (fin_3.1, fin_3.2.1, fin_3.2.2) = some r := by have h8 := hm; simp only [m_L_makes, qfin_1, Option.bind_some, qfin_3, Option.bind_some, ↓reduceIte, if_true, if_false] at h8; exact h8
              have h10 := Option.some.inj h9
              subst h10
              exact cq_wV (wl := cl_lar Y qvb 40 fin_3.1 ++ (cl_arr Y qhb 40 fin_3.2.1 ++ (cl_arr Y qeb 64 qe ++ (cl_arr Y qnb 4 qn ++ (cl_arr Y qqb 12 qq ++ (cl_lar Y qlb 40 ql ++ (cl_arr Y qbb 40 qb ++ (cl_arr Y qtb 40 fin_3.2.2 ++ (cl_arr Y qub 1 qu))))))))) hx hb hr hlocks hP hS rfl rfl dL_makes_223
            · exact absurd hz c_4
          | succ n29 ih29 =>
            intro k29 s0_29 s1_29 s7_29 H locs ls hkn hres29 hP hD hS hl
            have hz : ¬ (qn (2 : Int32).toNatClampNeg ≤ nI k29) := by by_cases h9 : qn (2 : Int32).toNatClampNeg ≤ nI k29; (exfalso; simp only [m_L_makes_lp29, eq_true h9, ↓reduceIte, if_true] at hres29; cases hres29); exact h9
            refine lv_iload hx hb dL_makes_29 (lv_at hl 0 rfl) ?_
            refine lv_aload_n hx hb dL_makes_31 rfl (lv_at hl 4 rfl) ?_
            refine lv_iconst (v := 2) hx hb dL_makes_32 (by decide) ?_
            refine va_iald hx hb hG.1 hP 3 0 rfl rfl (inb_in (by decide)) dL_makes_33 ?_
            refine lv_icmp_ge (tgt := 223) hx hb dL_makes_34 (by decide) (fun c_5 => ?_) (fun c_5 => ?_)
            · exact absurd c_5 hz
            · refine lv_aload_n hx hb dL_makes_37 rfl (lv_at hl 3 rfl) ?_
              refine lv_iload hx hb dL_makes_38 (lv_at hl 0 rfl) ?_
              have h_6 : inb (nI k29) 64 = true := by by_cases h9 : inb (nI k29) 64 = true; exact h9; exfalso; simp only [m_L_makes_lp29, eq_false hz, eq_false h9, qfin_1, Option.bind_some, ↓reduceIte, if_true, if_false] at hres29; cases hres29
              refine va_iald hx hb hG.1 hP 2 0 rfl rfl (inb_in h_6) dL_makes_40 ?_
              refine lv_bipush (v := 8) hx hb dL_makes_41 (by decide) ?_
              refine lv_irem hx hb dL_makes_43 (by decide) ?_
              refine lv_topi (fun x_7 ex_7 => ?_)
              refine lv_istore (lv' := [(10, .int x_7), (9, .int (nI k29)), (0, .ref qvb), (1, .ref qhb), (2, .ref qeb), (3, .ref qnb), (4, .ref qqb), (5, .ref qlb), (6, .ref qbb), (7, .ref qtb), (8, .ref qub)]) hx hb dL_makes_44 hl (by decide) rfl (fun ls hl => ?_)
              refine lv_aload_n hx hb dL_makes_46 rfl (lv_at hl 4 rfl) ?_
              refine lv_iload hx hb dL_makes_47 (lv_at hl 1 rfl) ?_
              refine va_iald hx hb hG.1 hP 2 0 rfl rfl (inb_in h_6) dL_makes_49 ?_
              refine lv_bipush (v := 8) hx hb dL_makes_50 (by decide) ?_
              refine lv_idiv hx hb dL_makes_52 (by decide) ?_
              refine lv_sipush (v := 128) hx hb dL_makes_53 (by decide) ?_
              refine lv_irem hx hb dL_makes_56 (by decide) ?_
              refine lv_topi (fun x_8 ex_8 => ?_)
              refine lv_istore (lv' := [(11, .int x_8), (10, .int x_7), (9, .int (nI k29)), (0, .ref qvb), (1, .ref qhb), (2, .ref qeb), (3, .ref qnb), (4, .ref qqb), (5, .ref qlb), (6, .ref qbb), (7, .ref qtb), (8, .ref qub)]) hx hb dL_makes_57 hl (by decide) rfl (fun ls hl => ?_)
              refine lv_aload_n hx hb dL_makes_59 rfl (lv_at hl 5 rfl) ?_
              refine lv_iload hx hb dL_makes_60 (lv_at hl 2 rfl) ?_
              refine va_iald hx hb hG.1 hP 2 0 rfl rfl (inb_in h_6) dL_makes_62 ?_
              refine lv_sipush (v := 1024) hx hb dL_makes_63 (by decide) ?_
              refine lv_idiv hx hb dL_makes_66 (by decide) ?_
              refine lv_topi (fun x_9 ex_9 => ?_)
              refine lv_istore (lv' := [(12, .int x_9), (11, .int x_8), (10, .int x_7), (9, .int (nI k29)), (0, .ref qvb), (1, .ref qhb), (2, .ref qeb), (3, .ref qnb), (4, .ref qqb), (5, .ref qlb), (6, .ref qbb), (7, .ref qtb), (8, .ref qub)]) hx hb dL_makes_67 hl (by decide) rfl (fun ls hl => ?_)
              refine lv_iload hx hb dL_makes_69 (lv_at hl 2 rfl) ?_
              refine lv_if_ne (tgt := 95) hx hb dL_makes_71 (by decide) (fun c_10 => ?_) (fun c_10 => ?_)
              · refine lv_aload_n hx hb dL_makes_95 rfl (lv_at hl 4 rfl) ?_
                refine lv_iload hx hb dL_makes_96 (lv_at hl 1 rfl) ?_
                have h_11 : inb x_8 40 = true := by by_cases h9 : inb x_8 40 = true; exact h9; exfalso; subst ex_9; subst ex_8; subst ex_7; simp only [m_L_makes_lp29, eq_false hz, eq_true h_6, eq_false c_10, eq_false h9, qfin_1, Option.bind_some, ↓reduceIte, if_true, if_false] at hres29; cases hres29
                refine va_lald hx hb hG.1 hP 0 2 rfl rfl (inb_in h_11) dL_makes_98 ?_
                refine cq_RS (R := (cq_rm 3 85)) (args := ([.ref qvb, .ref qhb, .ref qeb, .ref qnb, .ref qqb, .ref qlb, .ref qbb, .ref qtb, .ref qub] : List Value).toArray) (y := yL_isIn) (bytes := cL_isIn) (cc := cL_makes) (maxL := 2) (nL := 13) (n := 1) (index := 15) (ret := (some .boolean)) (ws := wsL_isIn) (rm := cq_rm 0 0) (Ts := wsL_makes) (own := RL) (D := D) (Y := Y) (W0 := ([] : va_W)) (wl := cl_lar Y qvb 40 s0_29 ++ (cl_arr Y qhb 40 s1_29 ++ (cl_arr Y qeb 64 qe ++ (cl_arr Y qnb 4 qn ++ (cl_arr Y qqb 12 qq ++ (cl_lar Y qlb 40 ql ++ (cl_arr Y qbb 40 qb ++ (cl_arr Y qtb 40 s7_29 ++ (cl_arr Y qub 1 qu))))))))) (v := some (.int (m_L_isIn (s0_29 x_8.toNatClampNeg)))) (st0 := [.long (s0_29 x_8.toNatClampNeg)]) (As := [.long (s0_29 x_8.toNatClampNeg)]) (rest := []) ⟨hx, hb, hml, hown, hts⟩ (ct_L_isIn l D Y  (s0_29 x_8.toNatClampNeg)) (va_cwS 1 hts gL_makes_L_isIn rfl rfl rfl (by decide +kernel) ⟨Nat.le_of_ble_eq_true rfl, Nat.le_of_ble_eq_true rfl⟩) hG hP hD [] rfl (by decide +kernel) rfl hl.1 rfl (Nat.le_of_ble_eq_true rfl) dL_makes_99 ⟨Nat.zero_le _, Nat.zero_le _⟩ ?_
                change W _ _ _ _ _ _ _ _ _ _ _ _ _ _ _ (F0 m 102 _ (.int (m_L_isIn (s0_29 x_8.toNatClampNeg)) :: []))
                refine lv_if_eq (tgt := 122) hx hb dL_makes_102 (by decide) (fun c_12 => ?_) (fun c_12 => ?_)
                · refine lv_aload_n hx hb dL_makes_122 rfl (lv_at hl 4 rfl) ?_
                  refine lv_iload hx hb dL_makes_123 (lv_at hl 1 rfl) ?_
                  refine va_lald hx hb hG.1 hP 0 2 rfl rfl (inb_in h_11) dL_makes_125 ?_
                  refine cq_RS (R := (cq_rm 3 85)) (args := ([.ref qvb, .ref qhb, .ref qeb, .ref qnb, .ref qqb, .ref qlb, .ref qbb, .ref qtb, .ref qub] : List Value).toArray) (y := yL_isIn) (bytes := cL_isIn) (cc := cL_makes) (maxL := 2) (nL := 13) (n := 1) (index := 15) (ret := (some .boolean)) (ws := wsL_isIn) (rm := cq_rm 0 0) (Ts := wsL_makes) (own := RL) (D := D) (Y := Y) (W0 := ([] : va_W)) (wl := cl_lar Y qvb 40 s0_29 ++ (cl_arr Y qhb 40 s1_29 ++ (cl_arr Y qeb 64 qe ++ (cl_arr Y qnb 4 qn ++ (cl_arr Y qqb 12 qq ++ (cl_lar Y qlb 40 ql ++ (cl_arr Y qbb 40 qb ++ (cl_arr Y qtb 40 s7_29 ++ (cl_arr Y qub 1 qu))))))))) (v := some (.int (m_L_isIn (s0_29 x_8.toNatClampNeg)))) (st0 := [.long (s0_29 x_8.toNatClampNeg)]) (As := [.long (s0_29 x_8.toNatClampNeg)]) (rest := []) ⟨hx, hb, hml, hown, hts⟩ (ct_L_isIn l D Y  (s0_29 x_8.toNatClampNeg)) (va_cwS 1 hts gL_makes_L_isIn rfl rfl rfl (by decide +kernel) ⟨Nat.le_of_ble_eq_true rfl, Nat.le_of_ble_eq_true rfl⟩) hG hP hD [] rfl (by decide +kernel) rfl hl.1 rfl (Nat.le_of_ble_eq_true rfl) dL_makes_126 ⟨Nat.zero_le _, Nat.zero_le _⟩ ?_
                  change W _ _ _ _ _ _ _ _ _ _ _ _ _ _ _ (F0 m 129 _ (.int (m_L_isIn (s0_29 x_8.toNatClampNeg)) :: []))
                  refine lv_if_eq (tgt := 160) hx hb dL_makes_129 (by decide) (fun c_13 => ?_) (fun c_13 => ?_)
                  · refine lv_aload_n hx hb dL_makes_160 rfl (lv_at hl 4 rfl) ?_
                    refine lv_iload hx hb dL_makes_161 (lv_at hl 1 rfl) ?_
                    refine va_lald hx hb hG.1 hP 0 2 rfl rfl (inb_in h_11) dL_makes_163 ?_
                    refine cq_RS (R := (cq_rm 3 85)) (args := ([.ref qvb, .ref qhb, .ref qeb, .ref qnb, .ref qqb, .ref qlb, .ref qbb, .ref qtb, .ref qub] : List Value).toArray) (y := yL_isIn) (bytes := cL_isIn) (cc := cL_makes) (maxL := 2) (nL := 13) (n := 1) (index := 15) (ret := (some .boolean)) (ws := wsL_isIn) (rm := cq_rm 0 0) (Ts := wsL_makes) (own := RL) (D := D) (Y := Y) (W0 := ([] : va_W)) (wl := cl_lar Y qvb 40 s0_29 ++ (cl_arr Y qhb 40 s1_29 ++ (cl_arr Y qeb 64 qe ++ (cl_arr Y qnb 4 qn ++ (cl_arr Y qqb 12 qq ++ (cl_lar Y qlb 40 ql ++ (cl_arr Y qbb 40 qb ++ (cl_arr Y qtb 40 s7_29 ++ (cl_arr Y qub 1 qu))))))))) (v := some (.int (m_L_isIn (s0_29 x_8.toNatClampNeg)))) (st0 := [.long (s0_29 x_8.toNatClampNeg)]) (As := [.long (s0_29 x_8.toNatClampNeg)]) (rest := []) ⟨hx, hb, hml, hown, hts⟩ (ct_L_isIn l D Y  (s0_29 x_8.toNatClampNeg)) (va_cwS 1 hts gL_makes_L_isIn rfl rfl rfl (by decide +kernel) ⟨Nat.le_of_ble_eq_true rfl, Nat.le_of_ble_eq_true rfl⟩) hG hP hD [] rfl (by decide +kernel) rfl hl.1 rfl (Nat.le_of_ble_eq_true rfl) dL_makes_164 ⟨Nat.zero_le _, Nat.zero_le _⟩ ?_
                    change W _ _ _ _ _ _ _ _ _ _ _ _ _ _ _ (F0 m 167 _ (.int (m_L_isIn (s0_29 x_8.toNatClampNeg)) :: []))
                    refine lv_if_eq (tgt := 217) hx hb dL_makes_167 (by decide) (fun c_14 => ?_) (fun c_14 => ?_)
                    · refine lv_iinc (v := nI (k29 + 1)) (lv' := [(9, .int (nI (k29 + 1))), (12, .int x_9), (11, .int x_8), (10, .int x_7), (0, .ref qvb), (1, .ref qhb), (2, .ref qeb), (3, .ref qnb), (4, .ref qqb), (5, .ref qlb), (6, .ref qbb), (7, .ref qtb), (8, .ref qub)]) hx hb dL_makes_217 hl (k := 3) rfl (nI_1 k29) (by decide) rfl (fun ls hl => ?_)
                      refine lv_goto (tgt := 29) hx hb dL_makes_220 (by decide) ?_
                      exact ih29 (k29 + 1) s0_29 s1_29 s7_29 _ _ _ (by omega) (Eq.trans (by subst ex_9; subst ex_8; subst ex_7; simp only [m_L_makes_lp29, eq_false hz, eq_true h_6, eq_false c_10, eq_true h_11, eq_true c_12, qfin_1, Option.bind_some, ↓reduceIte, if_true, if_false]) hres29) hP hD hS (lv_sub hl [0, 4, 5, 6, 7, 8, 9, 10, 11, 12] rfl)
                    · exact absurd c_12 c_14
                  · exact absurd c_12 c_13
                · refine lv_iload hx hb dL_makes_105 (lv_at hl 2 rfl) ?_
                  refine lv_iconst (v := 3) hx hb dL_makes_107 (by decide) ?_
                  refine lv_icmp_ne (tgt := 122) hx hb dL_makes_108 (by decide) (fun c_15 => ?_) (fun c_15 => ?_)
                  · refine lv_aload_n hx hb dL_makes_122 rfl (lv_at hl 4 rfl) ?_
                    refine lv_iload hx hb dL_makes_123 (lv_at hl 1 rfl) ?_
                    refine va_lald hx hb hG.1 hP 0 2 rfl rfl (inb_in h_11) dL_makes_125 ?_
                    refine cq_RS (R := (cq_rm 3 85)) (args := ([.ref qvb, .ref qhb, .ref qeb, .ref qnb, .ref qqb, .ref qlb, .ref qbb, .ref qtb, .ref qub] : List Value).toArray) (y := yL_isIn) (bytes := cL_isIn) (cc := cL_makes) (maxL := 2) (nL := 13) (n := 1) (index := 15) (ret := (some .boolean)) (ws := wsL_isIn) (rm := cq_rm 0 0) (Ts := wsL_makes) (own := RL) (D := D) (Y := Y) (W0 := ([] : va_W)) (wl := cl_lar Y qvb 40 s0_29 ++ (cl_arr Y qhb 40 s1_29 ++ (cl_arr Y qeb 64 qe ++ (cl_arr Y qnb 4 qn ++ (cl_arr Y qqb 12 qq ++ (cl_lar Y qlb 40 ql ++ (cl_arr Y qbb 40 qb ++ (cl_arr Y qtb 40 s7_29 ++ (cl_arr Y qub 1 qu))))))))) (v := some (.int (m_L_isIn (s0_29 x_8.toNatClampNeg)))) (st0 := [.long (s0_29 x_8.toNatClampNeg)]) (As := [.long (s0_29 x_8.toNatClampNeg)]) (rest := []) ⟨hx, hb, hml, hown, hts⟩ (ct_L_isIn l D Y  (s0_29 x_8.toNatClampNeg)) (va_cwS 1 hts gL_makes_L_isIn rfl rfl rfl (by decide +kernel) ⟨Nat.le_of_ble_eq_true rfl, Nat.le_of_ble_eq_true rfl⟩) hG hP hD [] rfl (by decide +kernel) rfl hl.1 rfl (Nat.le_of_ble_eq_true rfl) dL_makes_126 ⟨Nat.zero_le _, Nat.zero_le _⟩ ?_
                    change W _ _ _ _ _ _ _ _ _ _ _ _ _ _ _ (F0 m 129 _ (.int (m_L_isIn (s0_29 x_8.toNatClampNeg)) :: []))
                    refine lv_if_eq (tgt := 160) hx hb dL_makes_129 (by decide) (fun c_16 => ?_) (fun c_16 => ?_)
                    · exact absurd c_16 c_12
                    · refine lv_iload hx hb dL_makes_132 (lv_at hl 2 rfl) ?_
                      refine lv_iconst (v := 4) hx hb dL_makes_134 (by decide) ?_
                      refine lv_icmp_ne (tgt := 160) hx hb dL_makes_135 (by decide) (fun c_17 => ?_) (fun c_17 => ?_)
                      · refine lv_aload_n hx hb dL_makes_160 rfl (lv_at hl 4 rfl) ?_
                        refine lv_iload hx hb dL_makes_161 (lv_at hl 1 rfl) ?_
                        refine va_lald hx hb hG.1 hP 0 2 rfl rfl (inb_in h_11) dL_makes_163 ?_
                        refine cq_RS (R := (cq_rm 3 85)) (args := ([.ref qvb, .ref qhb, .ref qeb, .ref qnb, .ref qqb, .ref qlb, .ref qbb, .ref qtb, .ref qub] : List Value).toArray) (y := yL_isIn) (bytes := cL_isIn) (cc := cL_makes) (maxL := 2) (nL := 13) (n := 1) (index := 15) (ret := (some .boolean)) (ws := wsL_isIn) (rm := cq_rm 0 0) (Ts := wsL_makes) (own := RL) (D := D) (Y := Y) (W0 := ([] : va_W)) (wl := cl_lar Y qvb 40 s0_29 ++ (cl_arr Y qhb 40 s1_29 ++ (cl_arr Y qeb 64 qe ++ (cl_arr Y qnb 4 qn ++ (cl_arr Y qqb 12 qq ++ (cl_lar Y qlb 40 ql ++ (cl_arr Y qbb 40 qb ++ (cl_arr Y qtb 40 s7_29 ++ (cl_arr Y qub 1 qu))))))))) (v := some (.int (m_L_isIn (s0_29 x_8.toNatClampNeg)))) (st0 := [.long (s0_29 x_8.toNatClampNeg)]) (As := [.long (s0_29 x_8.toNatClampNeg)]) (rest := []) ⟨hx, hb, hml, hown, hts⟩ (ct_L_isIn l D Y  (s0_29 x_8.toNatClampNeg)) (va_cwS 1 hts gL_makes_L_isIn rfl rfl rfl (by decide +kernel) ⟨Nat.le_of_ble_eq_true rfl, Nat.le_of_ble_eq_true rfl⟩) hG hP hD [] rfl (by decide +kernel) rfl hl.1 rfl (Nat.le_of_ble_eq_true rfl) dL_makes_164 ⟨Nat.zero_le _, Nat.zero_le _⟩ ?_
                        change W _ _ _ _ _ _ _ _ _ _ _ _ _ _ _ (F0 m 167 _ (.int (m_L_isIn (s0_29 x_8.toNatClampNeg)) :: []))
                        refine lv_if_eq (tgt := 217) hx hb dL_makes_167 (by decide) (fun c_18 => ?_) (fun c_18 => ?_)
                        · exact absurd c_18 c_12
                        · refine lv_iload hx hb dL_makes_170 (lv_at hl 2 rfl) ?_
                          refine lv_iconst (v := 3) hx hb dL_makes_172 (by decide) ?_
                          refine lv_icmp_ge (tgt := 217) hx hb dL_makes_173 (by decide) (fun c_19 => ?_) (fun c_19 => ?_)
                          · refine lv_iinc (v := nI (k29 + 1)) (lv' := [(9, .int (nI (k29 + 1))), (12, .int x_9), (11, .int x_8), (10, .int x_7), (0, .ref qvb), (1, .ref qhb), (2, .ref qeb), (3, .ref qnb), (4, .ref qqb), (5, .ref qlb), (6, .ref qbb), (7, .ref qtb), (8, .ref qub)]) hx hb dL_makes_217 hl (k := 3) rfl (nI_1 k29) (by decide) rfl (fun ls hl => ?_)
                            refine lv_goto (tgt := 29) hx hb dL_makes_220 (by decide) ?_
                            exact ih29 (k29 + 1) s0_29 s1_29 s7_29 _ _ _ (by omega) (Eq.trans (by subst ex_9; subst ex_8; subst ex_7; simp only [m_L_makes_lp29, eq_false hz, eq_true h_6, eq_false c_10, eq_true h_11, eq_false c_12, eq_false c_15, eq_false c_17, eq_true c_19, qfin_1, Option.bind_some, ↓reduceIte, if_true, if_false]) hres29) hP hD hS (lv_sub hl [0, 4, 5, 6, 7, 8, 9, 10, 11, 12] rfl)
                          · refine lv_aload_n hx hb dL_makes_176 rfl (lv_at hl 4 rfl) ?_
                            refine lv_iload hx hb dL_makes_177 (lv_at hl 1 rfl) ?_
                            refine lv_iload hx hb dL_makes_179 (lv_at hl 2 rfl) ?_
                            refine lv_iconst (v := 1) hx hb dL_makes_181 (by decide) ?_
                            refine lv_icmp_ne (tgt := 200) hx hb dL_makes_182 (by decide) (fun c_20 => ?_) (fun c_20 => ?_)
                            · refine lv_aload_n hx hb dL_makes_200 rfl (lv_at hl 4 rfl) ?_
                              refine lv_iload hx hb dL_makes_201 (lv_at hl 1 rfl) ?_
                              refine va_lald hx hb hG.1 hP 0 2 rfl rfl (inb_in h_11) dL_makes_203 ?_
                              refine lv_lconst (v := 1) hx hb dL_makes_204 (by decide) ?_
                              refine lv_bipush (v := 58) hx hb dL_makes_205 (by decide) ?_
                              refine lv_iload hx hb dL_makes_207 (lv_at hl 0 rfl) ?_
                              refine lv_iadd hx hb dL_makes_209 ?_
                              refine lv_lshl (v := (1 : Int64) <<< ((58 + x_9).toInt64 &&& 63)) hx hb dL_makes_210 rfl ?_
                              refine lv_ldc2 (v := (-1)) hx hb hown (hts (.constantLong RL 13 (-1)) (List.mem_of_getElem? (i := 1) rfl)) dL_makes_211 ?_
                              refine lv_lxor hx hb dL_makes_214 ?_
                              refine lv_land hx hb dL_makes_215 ?_
                              refine va_last hx hb hG.1 hP hD hS 0 2 rfl rfl (inb_in h_11) dL_makes_216 (fun H locs hP hD hS => ?_)
                              have hP : va_P D vwCl (cl_lar Y qvb 40 (vp_updL s0_29 x_8.toNatClampNeg ((s0_29 x_8.toNatClampNeg) &&& (((1 : Int64) <<< ((58 + x_9).toInt64 &&& 63)) ^^^ (-1 : Int64)))) ++ (cl_arr Y qhb 40 s1_29 ++ (cl_arr Y qeb 64 qe ++ (cl_arr Y qnb 4 qn ++ (cl_arr Y qqb 12 qq ++ (cl_lar Y qlb 40 ql ++ (cl_arr Y qbb 40 qb ++ (cl_arr Y qtb 40 s7_29 ++ (cl_arr Y qub 1 qu))))))))) H := hP
                              have hD : va_D (cq_in (cl_lar Y qvb 40 qv ++ (cl_arr Y qhb 40 qh ++ (cl_arr Y qeb 64 qe ++ (cl_arr Y qnb 4 qn ++ (cl_arr Y qqb 12 qq ++ (cl_lar Y qlb 40 ql ++ (cl_arr Y qbb 40 qb ++ (cl_arr Y qtb 40 qt ++ (cl_arr Y qub 1 qu)))))))))) (cl_lar Y qvb 40 (vp_updL s0_29 x_8.toNatClampNeg ((s0_29 x_8.toNatClampNeg) &&& (((1 : Int64) <<< ((58 + x_9).toInt64 &&& 63)) ^^^ (-1 : Int64)))) ++ (cl_arr Y qhb 40 s1_29 ++ (cl_arr Y qeb 64 qe ++ (cl_arr Y qnb 4 qn ++ (cl_arr Y qqb 12 qq ++ (cl_lar Y qlb 40 ql ++ (cl_arr Y qbb 40 qb ++ (cl_arr Y qtb 40 s7_29 ++ (cl_arr Y qub 1 qu))))))))) := hD
                              refine lv_iinc (v := nI (k29 + 1)) (lv' := [(9, .int (nI (k29 + 1))), (12, .int x_9), (11, .int x_8), (10, .int x_7), (0, .ref qvb), (1, .ref qhb), (2, .ref qeb), (3, .ref qnb), (4, .ref qqb), (5, .ref qlb), (6, .ref qbb), (7, .ref qtb), (8, .ref qub)]) hx hb dL_makes_217 hl (k := 3) rfl (nI_1 k29) (by decide) rfl (fun ls hl => ?_)
                              refine lv_goto (tgt := 29) hx hb dL_makes_220 (by decide) ?_
                              exact ih29 (k29 + 1) (vp_updL s0_29 x_8.toNatClampNeg ((s0_29 x_8.toNatClampNeg) &&& (((1 : Int64) <<< ((58 + x_9).toInt64 &&& 63)) ^^^ (-1 : Int64)))) s1_29 s7_29 _ _ _ (by omega) (Eq.trans (by subst ex_9; subst ex_8; subst ex_7; simp only [m_L_makes_lp29, eq_false hz, eq_true h_6, eq_false c_10, eq_true h_11, eq_false c_12, eq_false c_15, eq_false c_17, eq_false c_19, eq_false c_20, qfin_1, Option.bind_some, ↓reduceIte, if_true, if_false]) hres29) hP hD hS (lv_sub hl [0, 4, 5, 6, 7, 8, 9, 10, 11, 12] rfl)
                            · refine lv_aload_n hx hb dL_makes_185 rfl (lv_at hl 4 rfl) ?_
                              refine lv_iload hx hb dL_makes_186 (lv_at hl 1 rfl) ?_
                              refine va_lald hx hb hG.1 hP 0 2 rfl rfl (inb_in h_11) dL_makes_188 ?_
                              refine lv_lconst (v := 1) hx hb dL_makes_189 (by decide) ?_
                              refine lv_bipush (v := 58) hx hb dL_makes_190 (by decide) ?_
                              refine lv_iload hx hb dL_makes_192 (lv_at hl 0 rfl) ?_
                              refine lv_iadd hx hb dL_makes_194 ?_
                              refine lv_lshl (v := (1 : Int64) <<< ((58 + x_9).toInt64 &&& 63)) hx hb dL_makes_195 rfl ?_
                              refine lv_lor hx hb dL_makes_196 ?_
                              refine lv_goto (tgt := 216) hx hb dL_makes_197 (by decide) ?_
                              refine va_last hx hb hG.1 hP hD hS 0 2 rfl rfl (inb_in h_11) dL_makes_216 (fun H locs hP hD hS => ?_)
                              have hP : va_P D vwCl (cl_lar Y qvb 40 (vp_updL s0_29 x_8.toNatClampNeg ((s0_29 x_8.toNatClampNeg) ||| ((1 : Int64) <<< ((58 + x_9).toInt64 &&& 63)))) ++ (cl_arr Y qhb 40 s1_29 ++ (cl_arr Y qeb 64 qe ++ (cl_arr Y qnb 4 qn ++ (cl_arr Y qqb 12 qq ++ (cl_lar Y qlb 40 ql ++ (cl_arr Y qbb 40 qb ++ (cl_arr Y qtb 40 s7_29 ++ (cl_arr Y qub 1 qu))))))))) H := hP
                              have hD : va_D (cq_in (cl_lar Y qvb 40 qv ++ (cl_arr Y qhb 40 qh ++ (cl_arr Y qeb 64 qe ++ (cl_arr Y qnb 4 qn ++ (cl_arr Y qqb 12 qq ++ (cl_lar Y qlb 40 ql ++ (cl_arr Y qbb 40 qb ++ (cl_arr Y qtb 40 qt ++ (cl_arr Y qub 1 qu)))))))))) (cl_lar Y qvb 40 (vp_updL s0_29 x_8.toNatClampNeg ((s0_29 x_8.toNatClampNeg) ||| ((1 : Int64) <<< ((58 + x_9).toInt64 &&& 63)))) ++ (cl_arr Y qhb 40 s1_29 ++ (cl_arr Y qeb 64 qe ++ (cl_arr Y qnb 4 qn ++ (cl_arr Y qqb 12 qq ++ (cl_lar Y qlb 40 ql ++ (cl_arr Y qbb 40 qb ++ (cl_arr Y qtb 40 s7_29 ++ (cl_arr Y qub 1 qu))))))))) := hD
                              refine lv_iinc (v := nI (k29 + 1)) (lv' := [(9, .int (nI (k29 + 1))), (12, .int x_9), (11, .int x_8), (10, .int x_7), (0, .ref qvb), (1, .ref qhb), (2, .ref qeb), (3, .ref qnb), (4, .ref qqb), (5, .ref qlb), (6, .ref qbb), (7, .ref qtb), (8, .ref qub)]) hx hb dL_makes_217 hl (k := 3) rfl (nI_1 k29) (by decide) rfl (fun ls hl => ?_)
                              refine lv_goto (tgt := 29) hx hb dL_makes_220 (by decide) ?_
                              exact ih29 (k29 + 1) (vp_updL s0_29 x_8.toNatClampNeg ((s0_29 x_8.toNatClampNeg) ||| ((1 : Int64) <<< ((58 + x_9).toInt64 &&& 63)))) s1_29 s7_29 _ _ _ (by omega) (Eq.trans (by subst ex_9; subst ex_8; subst ex_7; simp only [m_L_makes_lp29, eq_false hz, eq_true h_6, eq_false c_10, eq_true h_11, eq_false c_12, eq_false c_15, eq_false c_17, eq_false c_19, eq_true c_20, qfin_1, Option.bind_some, ↓reduceIte, if_true, if_false]) hres29) hP hD hS (lv_sub hl [0, 4, 5, 6, 7, 8, 9, 10, 11, 12] rfl)
                      · refine lv_aload_n hx hb dL_makes_138 rfl (lv_at hl 4 rfl) ?_
                        refine lv_iload hx hb dL_makes_139 (lv_at hl 0 rfl) ?_
                        have h_21 : inb x_9 40 = true := by by_cases h9 : inb x_9 40 = true; exact h9; exfalso; subst ex_9; subst ex_8; subst ex_7; simp only [m_L_makes_lp29, eq_false hz, eq_true h_6, eq_false c_10, eq_true h_11, eq_false c_12, eq_false c_15, eq_true c_17, eq_false h9, qfin_1, Option.bind_some, ↓reduceIte, if_true, if_false] at hres29; cases hres29
                        refine va_lald hx hb hG.1 hP 0 2 rfl rfl (inb_in h_21) dL_makes_141 ?_
                        refine cq_RS (R := (cq_rm 3 85)) (args := ([.ref qvb, .ref qhb, .ref qeb, .ref qnb, .ref qqb, .ref qlb, .ref qbb, .ref qtb, .ref qub] : List Value).toArray) (y := yL_isIn) (bytes := cL_isIn) (cc := cL_makes) (maxL := 2) (nL := 13) (n := 1) (index := 15) (ret := (some .boolean)) (ws := wsL_isIn) (rm := cq_rm 0 0) (Ts := wsL_makes) (own := RL) (D := D) (Y := Y) (W0 := ([] : va_W)) (wl := cl_lar Y qvb 40 s0_29 ++ (cl_arr Y qhb 40 s1_29 ++ (cl_arr Y qeb 64 qe ++ (cl_arr Y qnb 4 qn ++ (cl_arr Y qqb 12 qq ++ (cl_lar Y qlb 40 ql ++ (cl_arr Y qbb 40 qb ++ (cl_arr Y qtb 40 s7_29 ++ (cl_arr Y qub 1 qu))))))))) (v := some (.int (m_L_isIn (s0_29 x_9.toNatClampNeg)))) (st0 := [.long (s0_29 x_9.toNatClampNeg)]) (As := [.long (s0_29 x_9.toNatClampNeg)]) (rest := []) ⟨hx, hb, hml, hown, hts⟩ (ct_L_isIn l D Y  (s0_29 x_9.toNatClampNeg)) (va_cwS 1 hts gL_makes_L_isIn rfl rfl rfl (by decide +kernel) ⟨Nat.le_of_ble_eq_true rfl, Nat.le_of_ble_eq_true rfl⟩) hG hP hD [] rfl (by decide +kernel) rfl hl.1 rfl (Nat.le_of_ble_eq_true rfl) dL_makes_142 ⟨Nat.zero_le _, Nat.zero_le _⟩ ?_
                        change W _ _ _ _ _ _ _ _ _ _ _ _ _ _ _ (F0 m 145 _ (.int (m_L_isIn (s0_29 x_9.toNatClampNeg)) :: []))
                        refine lv_if_eq (tgt := 160) hx hb dL_makes_145 (by decide) (fun c_22 => ?_) (fun c_22 => ?_)
                        · refine lv_aload_n hx hb dL_makes_160 rfl (lv_at hl 4 rfl) ?_
                          refine lv_iload hx hb dL_makes_161 (lv_at hl 1 rfl) ?_
                          refine va_lald hx hb hG.1 hP 0 2 rfl rfl (inb_in h_11) dL_makes_163 ?_
                          refine cq_RS (R := (cq_rm 3 85)) (args := ([.ref qvb, .ref qhb, .ref qeb, .ref qnb, .ref qqb, .ref qlb, .ref qbb, .ref qtb, .ref qub] : List Value).toArray) (y := yL_isIn) (bytes := cL_isIn) (cc := cL_makes) (maxL := 2) (nL := 13) (n := 1) (index := 15) (ret := (some .boolean)) (ws := wsL_isIn) (rm := cq_rm 0 0) (Ts := wsL_makes) (own := RL) (D := D) (Y := Y) (W0 := ([] : va_W)) (wl := cl_lar Y qvb 40 s0_29 ++ (cl_arr Y qhb 40 s1_29 ++ (cl_arr Y qeb 64 qe ++ (cl_arr Y qnb 4 qn ++ (cl_arr Y qqb 12 qq ++ (cl_lar Y qlb 40 ql ++ (cl_arr Y qbb 40 qb ++ (cl_arr Y qtb 40 s7_29 ++ (cl_arr Y qub 1 qu))))))))) (v := some (.int (m_L_isIn (s0_29 x_8.toNatClampNeg)))) (st0 := [.long (s0_29 x_8.toNatClampNeg)]) (As := [.long (s0_29 x_8.toNatClampNeg)]) (rest := []) ⟨hx, hb, hml, hown, hts⟩ (ct_L_isIn l D Y  (s0_29 x_8.toNatClampNeg)) (va_cwS 1 hts gL_makes_L_isIn rfl rfl rfl (by decide +kernel) ⟨Nat.le_of_ble_eq_true rfl, Nat.le_of_ble_eq_true rfl⟩) hG hP hD [] rfl (by decide +kernel) rfl hl.1 rfl (Nat.le_of_ble_eq_true rfl) dL_makes_164 ⟨Nat.zero_le _, Nat.zero_le _⟩ ?_
                          change W _ _ _ _ _ _ _ _ _ _ _ _ _ _ _ (F0 m 167 _ (.int (m_L_isIn (s0_29 x_8.toNatClampNeg)) :: []))
                          refine lv_if_eq (tgt := 217) hx hb dL_makes_167 (by decide) (fun c_23 => ?_) (fun c_23 => ?_)
                          · exact absurd c_23 c_12
                          · refine lv_iload hx hb dL_makes_170 (lv_at hl 2 rfl) ?_
                            refine lv_iconst (v := 3) hx hb dL_makes_172 (by decide) ?_
                            refine lv_icmp_ge (tgt := 217) hx hb dL_makes_173 (by decide) (fun c_24 => ?_) (fun c_24 => ?_)
                            · refine lv_iinc (v := nI (k29 + 1)) (lv' := [(9, .int (nI (k29 + 1))), (12, .int x_9), (11, .int x_8), (10, .int x_7), (0, .ref qvb), (1, .ref qhb), (2, .ref qeb), (3, .ref qnb), (4, .ref qqb), (5, .ref qlb), (6, .ref qbb), (7, .ref qtb), (8, .ref qub)]) hx hb dL_makes_217 hl (k := 3) rfl (nI_1 k29) (by decide) rfl (fun ls hl => ?_)
                              refine lv_goto (tgt := 29) hx hb dL_makes_220 (by decide) ?_
                              exact ih29 (k29 + 1) s0_29 s1_29 s7_29 _ _ _ (by omega) (Eq.trans (by subst ex_9; subst ex_8; subst ex_7; simp only [m_L_makes_lp29, eq_false hz, eq_true h_6, eq_false c_10, eq_true h_11, eq_false c_12, eq_false c_15, eq_true c_17, eq_true h_21, eq_true c_22, eq_true c_24, qfin_1, Option.bind_some, ↓reduceIte, if_true, if_false]) hres29) hP hD hS (lv_sub hl [0, 4, 5, 6, 7, 8, 9, 10, 11, 12] rfl)
                            · refine lv_aload_n hx hb dL_makes_176 rfl (lv_at hl 4 rfl) ?_
                              refine lv_iload hx hb dL_makes_177 (lv_at hl 1 rfl) ?_
                              refine lv_iload hx hb dL_makes_179 (lv_at hl 2 rfl) ?_
                              refine lv_iconst (v := 1) hx hb dL_makes_181 (by decide) ?_
                              refine lv_icmp_ne (tgt := 200) hx hb dL_makes_182 (by decide) (fun c_25 => ?_) (fun c_25 => ?_)
                              · refine lv_aload_n hx hb dL_makes_200 rfl (lv_at hl 4 rfl) ?_
                                refine lv_iload hx hb dL_makes_201 (lv_at hl 1 rfl) ?_
                                refine va_lald hx hb hG.1 hP 0 2 rfl rfl (inb_in h_11) dL_makes_203 ?_
                                refine lv_lconst (v := 1) hx hb dL_makes_204 (by decide) ?_
                                refine lv_bipush (v := 58) hx hb dL_makes_205 (by decide) ?_
                                refine lv_iload hx hb dL_makes_207 (lv_at hl 0 rfl) ?_
                                refine lv_iadd hx hb dL_makes_209 ?_
                                refine lv_lshl (v := (1 : Int64) <<< ((58 + x_9).toInt64 &&& 63)) hx hb dL_makes_210 rfl ?_
                                refine lv_ldc2 (v := (-1)) hx hb hown (hts (.constantLong RL 13 (-1)) (List.mem_of_getElem? (i := 1) rfl)) dL_makes_211 ?_
                                refine lv_lxor hx hb dL_makes_214 ?_
                                refine lv_land hx hb dL_makes_215 ?_
                                refine va_last hx hb hG.1 hP hD hS 0 2 rfl rfl (inb_in h_11) dL_makes_216 (fun H locs hP hD hS => ?_)
                                have hP : va_P D vwCl (cl_lar Y qvb 40 (vp_updL s0_29 x_8.toNatClampNeg ((s0_29 x_8.toNatClampNeg) &&& (((1 : Int64) <<< ((58 + x_9).toInt64 &&& 63)) ^^^ (-1 : Int64)))) ++ (cl_arr Y qhb 40 s1_29 ++ (cl_arr Y qeb 64 qe ++ (cl_arr Y qnb 4 qn ++ (cl_arr Y qqb 12 qq ++ (cl_lar Y qlb 40 ql ++ (cl_arr Y qbb 40 qb ++ (cl_arr Y qtb 40 s7_29 ++ (cl_arr Y qub 1 qu))))))))) H := hP
                                have hD : va_D (cq_in (cl_lar Y qvb 40 qv ++ (cl_arr Y qhb 40 qh ++ (cl_arr Y qeb 64 qe ++ (cl_arr Y qnb 4 qn ++ (cl_arr Y qqb 12 qq ++ (cl_lar Y qlb 40 ql ++ (cl_arr Y qbb 40 qb ++ (cl_arr Y qtb 40 qt ++ (cl_arr Y qub 1 qu)))))))))) (cl_lar Y qvb 40 (vp_updL s0_29 x_8.toNatClampNeg ((s0_29 x_8.toNatClampNeg) &&& (((1 : Int64) <<< ((58 + x_9).toInt64 &&& 63)) ^^^ (-1 : Int64)))) ++ (cl_arr Y qhb 40 s1_29 ++ (cl_arr Y qeb 64 qe ++ (cl_arr Y qnb 4 qn ++ (cl_arr Y qqb 12 qq ++ (cl_lar Y qlb 40 ql ++ (cl_arr Y qbb 40 qb ++ (cl_arr Y qtb 40 s7_29 ++ (cl_arr Y qub 1 qu))))))))) := hD
                                refine lv_iinc (v := nI (k29 + 1)) (lv' := [(9, .int (nI (k29 + 1))), (12, .int x_9), (11, .int x_8), (10, .int x_7), (0, .ref qvb), (1, .ref qhb), (2, .ref qeb), (3, .ref qnb), (4, .ref qqb), (5, .ref qlb), (6, .ref qbb), (7, .ref qtb), (8, .ref qub)]) hx hb dL_makes_217 hl (k := 3) rfl (nI_1 k29) (by decide) rfl (fun ls hl => ?_)
                                refine lv_goto (tgt := 29) hx hb dL_makes_220 (by decide) ?_
                                exact ih29 (k29 + 1) (vp_updL s0_29 x_8.toNatClampNeg ((s0_29 x_8.toNatClampNeg) &&& (((1 : Int64) <<< ((58 + x_9).toInt64 &&& 63)) ^^^ (-1 : Int64)))) s1_29 s7_29 _ _ _ (by omega) (Eq.trans (by subst ex_9; subst ex_8; subst ex_7; simp only [m_L_makes_lp29, eq_false hz, eq_true h_6, eq_false c_10, eq_true h_11, eq_false c_12, eq_false c_15, eq_true c_17, eq_true h_21, eq_true c_22, eq_false c_24, eq_false c_25, qfin_1, Option.bind_some, ↓reduceIte, if_true, if_false]) hres29) hP hD hS (lv_sub hl [0, 4, 5, 6, 7, 8, 9, 10, 11, 12] rfl)
                              · refine lv_aload_n hx hb dL_makes_185 rfl (lv_at hl 4 rfl) ?_
                                refine lv_iload hx hb dL_makes_186 (lv_at hl 1 rfl) ?_
                                refine va_lald hx hb hG.1 hP 0 2 rfl rfl (inb_in h_11) dL_makes_188 ?_
                                refine lv_lconst (v := 1) hx hb dL_makes_189 (by decide) ?_
                                refine lv_bipush (v := 58) hx hb dL_makes_190 (by decide) ?_
                                refine lv_iload hx hb dL_makes_192 (lv_at hl 0 rfl) ?_
                                refine lv_iadd hx hb dL_makes_194 ?_
                                refine lv_lshl (v := (1 : Int64) <<< ((58 + x_9).toInt64 &&& 63)) hx hb dL_makes_195 rfl ?_
                                refine lv_lor hx hb dL_makes_196 ?_
                                refine lv_goto (tgt := 216) hx hb dL_makes_197 (by decide) ?_
                                refine va_last hx hb hG.1 hP hD hS 0 2 rfl rfl (inb_in h_11) dL_makes_216 (fun H locs hP hD hS => ?_)
                                have hP : va_P D vwCl (cl_lar Y qvb 40 (vp_updL s0_29 x_8.toNatClampNeg ((s0_29 x_8.toNatClampNeg) ||| ((1 : Int64) <<< ((58 + x_9).toInt64 &&& 63)))) ++ (cl_arr Y qhb 40 s1_29 ++ (cl_arr Y qeb 64 qe ++ (cl_arr Y qnb 4 qn ++ (cl_arr Y qqb 12 qq ++ (cl_lar Y qlb 40 ql ++ (cl_arr Y qbb 40 qb ++ (cl_arr Y qtb 40 s7_29 ++ (cl_arr Y qub 1 qu))))))))) H := hP
                                have hD : va_D (cq_in (cl_lar Y qvb 40 qv ++ (cl_arr Y qhb 40 qh ++ (cl_arr Y qeb 64 qe ++ (cl_arr Y qnb 4 qn ++ (cl_arr Y qqb 12 qq ++ (cl_lar Y qlb 40 ql ++ (cl_arr Y qbb 40 qb ++ (cl_arr Y qtb 40 qt ++ (cl_arr Y qub 1 qu)))))))))) (cl_lar Y qvb 40 (vp_updL s0_29 x_8.toNatClampNeg ((s0_29 x_8.toNatClampNeg) ||| ((1 : Int64) <<< ((58 + x_9).toInt64 &&& 63)))) ++ (cl_arr Y qhb 40 s1_29 ++ (cl_arr Y qeb 64 qe ++ (cl_arr Y qnb 4 qn ++ (cl_arr Y qqb 12 qq ++ (cl_lar Y qlb 40 ql ++ (cl_arr Y qbb 40 qb ++ (cl_arr Y qtb 40 s7_29 ++ (cl_arr Y qub 1 qu))))))))) := hD
                                refine lv_iinc (v := nI (k29 + 1)) (lv' := [(9, .int (nI (k29 + 1))), (12, .int x_9), (11, .int x_8), (10, .int x_7), (0, .ref qvb), (1, .ref qhb), (2, .ref qeb), (3, .ref qnb), (4, .ref qqb), (5, .ref qlb), (6, .ref qbb), (7, .ref qtb), (8, .ref qub)]) hx hb dL_makes_217 hl (k := 3) rfl (nI_1 k29) (by decide) rfl (fun ls hl => ?_)
                                refine lv_goto (tgt := 29) hx hb dL_makes_220 (by decide) ?_
                                exact ih29 (k29 + 1) (vp_updL s0_29 x_8.toNatClampNeg ((s0_29 x_8.toNatClampNeg) ||| ((1 : Int64) <<< ((58 + x_9).toInt64 &&& 63)))) s1_29 s7_29 _ _ _ (by omega) (Eq.trans (by subst ex_9; subst ex_8; subst ex_7; simp only [m_L_makes_lp29, eq_false hz, eq_true h_6, eq_false c_10, eq_true h_11, eq_false c_12, eq_false c_15, eq_true c_17, eq_true h_21, eq_true c_22, eq_false c_24, eq_true c_25, qfin_1, Option.bind_some, ↓reduceIte, if_true, if_false]) hres29) hP hD hS (lv_sub hl [0, 4, 5, 6, 7, 8, 9, 10, 11, 12] rfl)
                        · refine lv_aload_n hx hb dL_makes_148 rfl (lv_at hl 4 rfl) ?_
                          refine lv_aload_n hx hb dL_makes_149 rfl (lv_at hl 5 rfl) ?_
                          refine lv_iload hx hb dL_makes_150 (lv_at hl 1 rfl) ?_
                          refine lv_iload hx hb dL_makes_152 (lv_at hl 0 rfl) ?_
                          obtain ⟨r_26, qr_26⟩ : ∃ z, m_L_merges s0_29 s1_29 x_8 x_9 = some z := by cases h9 : m_L_merges s0_29 s1_29 x_8 x_9 with | some z => exact ⟨z, rfl⟩ | none => exfalso; subst ex_9; subst ex_8; subst ex_7; simp only [m_L_makes_lp29, eq_false hz, eq_true h_6, eq_false c_10, eq_true h_11, eq_false c_12, eq_false c_15, eq_true c_17, eq_true h_21, eq_false c_22, h9, Option.bind_none, qfin_1, Option.bind_some, ↓reduceIte, if_true, if_false] at hres29; cases hres29
                          refine cq_WS (R := (cq_rm 3 85)) (args := ([.ref qvb, .ref qhb, .ref qeb, .ref qnb, .ref qqb, .ref qlb, .ref qbb, .ref qtb, .ref qub] : List Value).toArray) (y := yL_merges) (bytes := cL_merges) (cc := cL_makes) (maxL := 7) (nL := 13) (n := 4) (index := 53) (ret := none) (ws := wsL_merges) (rm := cq_rm 1 26) (Ts := wsL_makes) (own := RL) (D := D) (Y := Y) (W0 := cl_lar Y qvb 40 s0_29 ++ (cl_arr Y qhb 40 s1_29)) (wl := cl_lar Y qvb 40 s0_29 ++ (cl_arr Y qhb 40 s1_29 ++ (cl_arr Y qeb 64 qe ++ (cl_arr Y qnb 4 qn ++ (cl_arr Y qqb 12 qq ++ (cl_lar Y qlb 40 ql ++ (cl_arr Y qbb 40 qb ++ (cl_arr Y qtb 40 s7_29 ++ (cl_arr Y qub 1 qu))))))))) (v := none) (st0 := [.int x_9, .int x_8, .ref qhb, .ref qvb]) (As := [.ref qvb, .ref qhb, .int x_8, .int x_9]) (rest := []) (W1 := cl_lar Y qvb 40 r_26.1 ++ (cl_arr Y qhb 40 r_26.2)) (cl_lar Y qvb 40 r_26.1 ++ (cl_arr Y qhb 40 r_26.2 ++ (cl_arr Y qeb 64 qe ++ (cl_arr Y qnb 4 qn ++ (cl_arr Y qqb 12 qq ++ (cl_lar Y qlb 40 ql ++ (cl_arr Y qbb 40 qb ++ (cl_arr Y qtb 40 s7_29 ++ (cl_arr Y qub 1 qu))))))))) [2, 3, 4, 5, 6, 7, 8] ⟨hx, hb, hml, hown, hts⟩ (ct_L_merges l D Y qvb s0_29 qhb s1_29 x_8 x_9 r_26 qr_26) (va_cwS 4 hts gL_makes_L_merges rfl rfl rfl (by decide +kernel) ⟨Nat.le_of_ble_eq_true rfl, Nat.le_of_ble_eq_true rfl⟩) hG hP hD hS [0, 1] rfl (by decide +kernel) ⟨rfl, ⟨[(qeb, .inl (Y.1, 64, .inl qe)), (qnb, .inl (Y.1, 4, .inl qn)), (qqb, .inl (Y.1, 12, .inl qq)), (qlb, .inl (Y.2.2, 40, .inr (.inl ql))), (qbb, .inl (Y.1, 40, .inl qb)), (qtb, .inl (Y.1, 40, .inl s7_29)), (qub, .inl (Y.1, 1, .inl qu))], rfl, rfl⟩, 9, rfl, by decide +kernel⟩ ⟨[qvb, qhb], rfl, rfl⟩ rfl hl.1 rfl (Nat.le_of_ble_eq_true rfl) dL_makes_154 ⟨Nat.zero_le _, Nat.zero_le _⟩ (fun H locs hP hD hS => ?_)
                          change W _ _ _ _ _ _ _ _ _ _ _ _ _ _ _ (F0 m 157 _ [])
                          refine lv_goto (tgt := 217) hx hb dL_makes_157 (by decide) ?_
                          refine lv_iinc (v := nI (k29 + 1)) (lv' := [(9, .int (nI (k29 + 1))), (12, .int x_9), (11, .int x_8), (10, .int x_7), (0, .ref qvb), (1, .ref qhb), (2, .ref qeb), (3, .ref qnb), (4, .ref qqb), (5, .ref qlb), (6, .ref qbb), (7, .ref qtb), (8, .ref qub)]) hx hb dL_makes_217 hl (k := 3) rfl (nI_1 k29) (by decide) rfl (fun ls hl => ?_)
                          refine lv_goto (tgt := 29) hx hb dL_makes_220 (by decide) ?_
                          exact ih29 (k29 + 1) r_26.1 r_26.2 s7_29 _ _ _ (by omega) (Eq.trans (by subst ex_9; subst ex_8; subst ex_7; simp only [m_L_makes_lp29, eq_false hz, eq_true h_6, eq_false c_10, eq_true h_11, eq_false c_12, eq_false c_15, eq_true c_17, eq_true h_21, eq_false c_22, qfin_1, Option.bind_some, qr_26, Option.bind_some, ↓reduceIte, if_true, if_false]) hres29) hP hD hS (lv_sub hl [0, 4, 5, 6, 7, 8, 9, 10, 11, 12] rfl)
                  · refine lv_aload_n hx hb dL_makes_111 rfl (lv_at hl 5 rfl) ?_
                    refine lv_iload hx hb dL_makes_112 (lv_at hl 1 rfl) ?_
                    refine lv_dup2_11 hx hb dL_makes_114 rfl rfl ?_
                    refine va_iald hx hb hG.1 hP 1 0 rfl rfl (inb_in h_11) dL_makes_115 ?_
                    refine lv_iconst (v := 1) hx hb dL_makes_116 (by decide) ?_
                    refine lv_iadd hx hb dL_makes_117 ?_
                    refine va_iast hx hb hG.1 hP hD hS 1 0 rfl rfl (inb_in h_11) dL_makes_118 (fun H locs hP hD hS => ?_)
                    have hP : va_P D vwCl (cl_lar Y qvb 40 s0_29 ++ (cl_arr Y qhb 40 (upd s1_29 x_8.toNatClampNeg ((s1_29 x_8.toNatClampNeg) + 1)) ++ (cl_arr Y qeb 64 qe ++ (cl_arr Y qnb 4 qn ++ (cl_arr Y qqb 12 qq ++ (cl_lar Y qlb 40 ql ++ (cl_arr Y qbb 40 qb ++ (cl_arr Y qtb 40 s7_29 ++ (cl_arr Y qub 1 qu))))))))) H := hP
                    have hD : va_D (cq_in (cl_lar Y qvb 40 qv ++ (cl_arr Y qhb 40 qh ++ (cl_arr Y qeb 64 qe ++ (cl_arr Y qnb 4 qn ++ (cl_arr Y qqb 12 qq ++ (cl_lar Y qlb 40 ql ++ (cl_arr Y qbb 40 qb ++ (cl_arr Y qtb 40 qt ++ (cl_arr Y qub 1 qu)))))))))) (cl_lar Y qvb 40 s0_29 ++ (cl_arr Y qhb 40 (upd s1_29 x_8.toNatClampNeg ((s1_29 x_8.toNatClampNeg) + 1)) ++ (cl_arr Y qeb 64 qe ++ (cl_arr Y qnb 4 qn ++ (cl_arr Y qqb 12 qq ++ (cl_lar Y qlb 40 ql ++ (cl_arr Y qbb 40 qb ++ (cl_arr Y qtb 40 s7_29 ++ (cl_arr Y qub 1 qu))))))))) := hD
                    refine lv_goto (tgt := 217) hx hb dL_makes_119 (by decide) ?_
                    refine lv_iinc (v := nI (k29 + 1)) (lv' := [(9, .int (nI (k29 + 1))), (12, .int x_9), (11, .int x_8), (10, .int x_7), (0, .ref qvb), (1, .ref qhb), (2, .ref qeb), (3, .ref qnb), (4, .ref qqb), (5, .ref qlb), (6, .ref qbb), (7, .ref qtb), (8, .ref qub)]) hx hb dL_makes_217 hl (k := 3) rfl (nI_1 k29) (by decide) rfl (fun ls hl => ?_)
                    refine lv_goto (tgt := 29) hx hb dL_makes_220 (by decide) ?_
                    exact ih29 (k29 + 1) s0_29 (upd s1_29 x_8.toNatClampNeg ((s1_29 x_8.toNatClampNeg) + 1)) s7_29 _ _ _ (by omega) (Eq.trans (by subst ex_9; subst ex_8; subst ex_7; simp only [m_L_makes_lp29, eq_false hz, eq_true h_6, eq_false c_10, eq_true h_11, eq_false c_12, eq_true c_15, qfin_1, Option.bind_some, ↓reduceIte, if_true, if_false]) hres29) hP hD hS (lv_sub hl [0, 4, 5, 6, 7, 8, 9, 10, 11, 12] rfl)
              · refine lv_aload_n hx hb dL_makes_74 rfl (lv_at hl 4 rfl) ?_
                refine lv_aload_n hx hb dL_makes_75 rfl (lv_at hl 5 rfl) ?_
                refine lv_aload_n hx hb dL_makes_76 rfl (lv_at hl 7 rfl) ?_
                refine lv_aload hx hb dL_makes_77 (lv_at hl 8 rfl) ?_
                refine lv_aload hx hb dL_makes_79 (lv_at hl 9 rfl) ?_
                refine lv_aload hx hb dL_makes_81 (lv_at hl 10 rfl) ?_
                refine lv_aload hx hb dL_makes_83 (lv_at hl 11 rfl) ?_
                refine lv_aload hx hb dL_makes_85 (lv_at hl 12 rfl) ?_
                refine lv_iload hx hb dL_makes_87 (lv_at hl 1 rfl) ?_
                obtain ⟨r_27, qr_27⟩ : ∃ z, m_L_loads s0_29 s1_29 qn qq ql qb s7_29 qu x_8 = some z := by cases h9 : m_L_loads s0_29 s1_29 qn qq ql qb s7_29 qu x_8 with | some z => exact ⟨z, rfl⟩ | none => exfalso; subst ex_9; subst ex_8; subst ex_7; simp only [m_L_makes_lp29, eq_false hz, eq_true h_6, eq_true c_10, h9, Option.bind_none, qfin_1, Option.bind_some, ↓reduceIte, if_true, if_false] at hres29; cases hres29
                refine cq_WS (R := (cq_rm 3 85)) (args := ([.ref qvb, .ref qhb, .ref qeb, .ref qnb, .ref qqb, .ref qlb, .ref qbb, .ref qtb, .ref qub] : List Value).toArray) (y := yL_loads) (bytes := cL_loads) (cc := cL_makes) (maxL := 15) (nL := 13) (n := 9) (index := 49) (ret := none) (ws := wsL_loads) (rm := cq_rm 2 51) (Ts := wsL_makes) (own := RL) (D := D) (Y := Y) (W0 := cl_lar Y qvb 40 s0_29 ++ (cl_arr Y qhb 40 s1_29 ++ (cl_arr Y qnb 4 qn ++ (cl_arr Y qqb 12 qq ++ (cl_lar Y qlb 40 ql ++ (cl_arr Y qbb 40 qb ++ (cl_arr Y qtb 40 s7_29 ++ (cl_arr Y qub 1 qu)))))))) (wl := cl_lar Y qvb 40 s0_29 ++ (cl_arr Y qhb 40 s1_29 ++ (cl_arr Y qeb 64 qe ++ (cl_arr Y qnb 4 qn ++ (cl_arr Y qqb 12 qq ++ (cl_lar Y qlb 40 ql ++ (cl_arr Y qbb 40 qb ++ (cl_arr Y qtb 40 s7_29 ++ (cl_arr Y qub 1 qu))))))))) (v := none) (st0 := [.int x_8, .ref qub, .ref qtb, .ref qbb, .ref qlb, .ref qqb, .ref qnb, .ref qhb, .ref qvb]) (As := [.ref qvb, .ref qhb, .ref qnb, .ref qqb, .ref qlb, .ref qbb, .ref qtb, .ref qub, .int x_8]) (rest := []) (W1 := cl_lar Y qvb 40 r_27.1 ++ (cl_arr Y qhb 40 r_27.2.1 ++ (cl_arr Y qnb 4 qn ++ (cl_arr Y qqb 12 qq ++ (cl_lar Y qlb 40 ql ++ (cl_arr Y qbb 40 qb ++ (cl_arr Y qtb 40 r_27.2.2 ++ (cl_arr Y qub 1 qu)))))))) (cl_lar Y qvb 40 r_27.1 ++ (cl_arr Y qhb 40 r_27.2.1 ++ (cl_arr Y qeb 64 qe ++ (cl_arr Y qnb 4 qn ++ (cl_arr Y qqb 12 qq ++ (cl_lar Y qlb 40 ql ++ (cl_arr Y qbb 40 qb ++ (cl_arr Y qtb 40 r_27.2.2 ++ (cl_arr Y qub 1 qu))))))))) [2] ⟨hx, hb, hml, hown, hts⟩ (ct_L_loads l D Y qvb s0_29 qhb s1_29 qnb qn qqb qq qlb ql qbb qb qtb s7_29 qub qu x_8 r_27 qr_27) (va_cwS 9 hts gL_makes_L_loads rfl rfl rfl (by decide +kernel) ⟨Nat.le_of_ble_eq_true rfl, Nat.le_of_ble_eq_true rfl⟩) hG hP hD hS [0, 1, 3, 4, 5, 6, 7, 8] rfl (by decide +kernel) ⟨rfl, ⟨[(qeb, .inl (Y.1, 64, .inl qe))], rfl, rfl⟩, 9, rfl, by decide +kernel⟩ ⟨[qvb, qhb, qnb, qqb, qlb, qbb, qtb, qub], rfl, rfl⟩ rfl hl.1 rfl (Nat.le_of_ble_eq_true rfl) dL_makes_89 ⟨Nat.zero_le _, Nat.zero_le _⟩ (fun H locs hP hD hS => ?_)
                change W _ _ _ _ _ _ _ _ _ _ _ _ _ _ _ (F0 m 92 _ [])
                refine lv_goto (tgt := 217) hx hb dL_makes_92 (by decide) ?_
                refine lv_iinc (v := nI (k29 + 1)) (lv' := [(9, .int (nI (k29 + 1))), (12, .int x_9), (11, .int x_8), (10, .int x_7), (0, .ref qvb), (1, .ref qhb), (2, .ref qeb), (3, .ref qnb), (4, .ref qqb), (5, .ref qlb), (6, .ref qbb), (7, .ref qtb), (8, .ref qub)]) hx hb dL_makes_217 hl (k := 3) rfl (nI_1 k29) (by decide) rfl (fun ls hl => ?_)
                refine lv_goto (tgt := 29) hx hb dL_makes_220 (by decide) ?_
                exact ih29 (k29 + 1) r_27.1 r_27.2.1 r_27.2.2 _ _ _ (by omega) (Eq.trans (by subst ex_9; subst ex_8; subst ex_7; simp only [m_L_makes_lp29, eq_false hz, eq_true h_6, eq_true c_10, qfin_1, Option.bind_some, qr_27, Option.bind_some, ↓reduceIte, if_true, if_false]) hres29) hP hD hS (lv_sub hl [0, 4, 5, 6, 7, 8, 9, 10, 11, 12] rfl)
        exact lp29 (qn (2 : Int32).toNatClampNeg).toNatClampNeg 0 fin_1.1 fin_1.2 qt _ _ _ (Nat.zero_add _) qfin_3 hP hD hS (lv_sub hl [0, 1, 2, 3, 4, 5, 6, 7, 8, 9] rfl)
      · exact absurd hz c_2
    | succ n3 ih3 =>
      intro k3 s0_3 s1_3 H locs ls hkn hres3 hP hD hS hl
      have hz : ¬ (40 ≤ nI k3) := cq_s (N := 40) rfl (by omega) (by omega)
      refine lv_iload hx hb dL_makes_3 (lv_at hl 0 rfl) ?_
      refine lv_bipush (v := 40) hx hb dL_makes_5 (by decide) ?_
      refine lv_icmp_ge (tgt := 26) hx hb dL_makes_7 (by decide) (fun c_28 => ?_) (fun c_28 => ?_)
      · exact absurd c_28 hz
      · refine lv_aload_n hx hb dL_makes_10 rfl (lv_at hl 1 rfl) ?_
        refine lv_iload hx hb dL_makes_11 (lv_at hl 0 rfl) ?_
        refine lv_lconst (v := 0) hx hb dL_makes_13 (by decide) ?_
        have h_29 : inb (nI k3) 40 = true := by by_cases h9 : inb (nI k3) 40 = true; exact h9; exfalso; simp only [m_L_makes_lp3, eq_false h9, ↓reduceIte, if_true, if_false] at hres3; cases hres3
        refine va_last hx hb hG.1 hP hD hS 0 2 rfl rfl (inb_in h_29) dL_makes_14 (fun H locs hP hD hS => ?_)
        have hP : va_P D vwCl (cl_lar Y qvb 40 (vp_updL s0_3 (nI k3).toNatClampNeg (0 : Int64)) ++ (cl_arr Y qhb 40 s1_3 ++ (cl_arr Y qeb 64 qe ++ (cl_arr Y qnb 4 qn ++ (cl_arr Y qqb 12 qq ++ (cl_lar Y qlb 40 ql ++ (cl_arr Y qbb 40 qb ++ (cl_arr Y qtb 40 qt ++ (cl_arr Y qub 1 qu))))))))) H := hP
        have hD : va_D (cq_in (cl_lar Y qvb 40 qv ++ (cl_arr Y qhb 40 qh ++ (cl_arr Y qeb 64 qe ++ (cl_arr Y qnb 4 qn ++ (cl_arr Y qqb 12 qq ++ (cl_lar Y qlb 40 ql ++ (cl_arr Y qbb 40 qb ++ (cl_arr Y qtb 40 qt ++ (cl_arr Y qub 1 qu)))))))))) (cl_lar Y qvb 40 (vp_updL s0_3 (nI k3).toNatClampNeg (0 : Int64)) ++ (cl_arr Y qhb 40 s1_3 ++ (cl_arr Y qeb 64 qe ++ (cl_arr Y qnb 4 qn ++ (cl_arr Y qqb 12 qq ++ (cl_lar Y qlb 40 ql ++ (cl_arr Y qbb 40 qb ++ (cl_arr Y qtb 40 qt ++ (cl_arr Y qub 1 qu))))))))) := hD
        refine lv_aload_n hx hb dL_makes_15 rfl (lv_at hl 2 rfl) ?_
        refine lv_iload hx hb dL_makes_16 (lv_at hl 0 rfl) ?_
        refine lv_iconst (v := 0) hx hb dL_makes_18 (by decide) ?_
        refine va_iast hx hb hG.1 hP hD hS 1 0 rfl rfl (inb_in h_29) dL_makes_19 (fun H locs hP hD hS => ?_)
        have hP : va_P D vwCl (cl_lar Y qvb 40 (vp_updL s0_3 (nI k3).toNatClampNeg (0 : Int64)) ++ (cl_arr Y qhb 40 (upd s1_3 (nI k3).toNatClampNeg 0) ++ (cl_arr Y qeb 64 qe ++ (cl_arr Y qnb 4 qn ++ (cl_arr Y qqb 12 qq ++ (cl_lar Y qlb 40 ql ++ (cl_arr Y qbb 40 qb ++ (cl_arr Y qtb 40 qt ++ (cl_arr Y qub 1 qu))))))))) H := hP
        have hD : va_D (cq_in (cl_lar Y qvb 40 qv ++ (cl_arr Y qhb 40 qh ++ (cl_arr Y qeb 64 qe ++ (cl_arr Y qnb 4 qn ++ (cl_arr Y qqb 12 qq ++ (cl_lar Y qlb 40 ql ++ (cl_arr Y qbb 40 qb ++ (cl_arr Y qtb 40 qt ++ (cl_arr Y qub 1 qu)))))))))) (cl_lar Y qvb 40 (vp_updL s0_3 (nI k3).toNatClampNeg (0 : Int64)) ++ (cl_arr Y qhb 40 (upd s1_3 (nI k3).toNatClampNeg 0) ++ (cl_arr Y qeb 64 qe ++ (cl_arr Y qnb 4 qn ++ (cl_arr Y qqb 12 qq ++ (cl_lar Y qlb 40 ql ++ (cl_arr Y qbb 40 qb ++ (cl_arr Y qtb 40 qt ++ (cl_arr Y qub 1 qu))))))))) := hD
        refine lv_iinc (v := nI (k3 + 1)) (lv' := [(9, .int (nI (k3 + 1))), (0, .ref qvb), (1, .ref qhb), (2, .ref qeb), (3, .ref qnb), (4, .ref qqb), (5, .ref qlb), (6, .ref qbb), (7, .ref qtb), (8, .ref qub)]) hx hb dL_makes_20 hl (k := 0) rfl (nI_1 k3) (by decide) rfl (fun ls hl => ?_)
        refine lv_goto (tgt := 3) hx hb dL_makes_23 (by decide) ?_
        exact ih3 (k3 + 1) (vp_updL s0_3 (nI k3).toNatClampNeg (0 : Int64)) (upd s1_3 (nI k3).toNatClampNeg 0) _ _ _ (by omega) (Eq.trans (by simp only [m_L_makes_lp3, eq_true h_29, ↓reduceIte, if_true, if_false]) hres3) hP hD hS (lv_sub hl [0, 1, 2, 3, 4, 5, 6, 7, 8, 9] rfl)
  exact lp3 40 0 qv qh _ _ _ (Nat.zero_add _) qfin_1 hP hD hS (lv_sub hl [0, 1, 2, 3, 4, 5, 6, 7, 8, 9] rfl)
