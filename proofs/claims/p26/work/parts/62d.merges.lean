def m_L_merges_lp55 (qv : FL) (qh : FI) (one : Int32) (other : Int32) (x_2 : Int64) (fin_3 : Int64) : Nat → Nat → Int64 → Option (Int64)
  | 0, k55, x4_55 => some x4_55
  | n55 + 1, k55, x4_55 => (if m_L_field x4_55 (nI k55) = 0 then (if inb one 40 = true then (let x_11 : Int64 := m_L_withField x4_55 (nI k55) (m_L_field (qv one.toNatClampNeg) (nI k55)) (m_L_source (qv one.toNatClampNeg) (nI k55)); m_L_merges_lp55 qv qh one other x_2 fin_3 n55 (k55 + 1) x_11) else none) else m_L_merges_lp55 qv qh one other x_2 fin_3 n55 (k55 + 1) x4_55)
def m_L_merges_lp8 (qv : FL) (qh : FI) (one : Int32) (other : Int32) (x_2 : Int64) : Nat → Nat → Int64 → Option (Int64)
  | 0, k8, x4_8 => some x4_8
  | n8 + 1, k8, x4_8 => (if m_L_key x4_8 (nI k8) = 0 then (if inb one 40 = true then (let x_15 : Int64 := m_L_withKey x4_8 (nI k8) (m_L_key (qv one.toNatClampNeg) (nI k8)); m_L_merges_lp8 qv qh one other x_2 n8 (k8 + 1) x_15) else none) else m_L_merges_lp8 qv qh one other x_2 n8 (k8 + 1) x4_8)
def m_L_merges (qv : FL) (qh : FI) (one : Int32) (other : Int32) : Option ((FL × FI)) := (if inb other 40 = true then (let x_2 : Int64 := qv other.toNatClampNeg; (m_L_merges_lp8 qv qh one other x_2 3 0 x_2).bind (fun fin_3 => (m_L_merges_lp55 qv qh one other x_2 fin_3 4 0 fin_3).bind (fun fin_5 => (if inb one 40 = true then some (vp_updL (vp_updL qv other.toNatClampNeg fin_5) one.toNatClampNeg (0 : Int64), upd qh other.toNatClampNeg ((qh other.toNatClampNeg) + (qh one.toNatClampNeg))) else none)))) else none)
set_option maxHeartbeats 4000000 in
set_option maxRecDepth 100000 in
theorem ct_L_merges (l : Launch) (D : va_G) (Y : cq_Y) (qvb : Nat) (qv : FL) (qhb : Nat) (qh : FI) (one : Int32) (other : Int32) (r : (FL × FI)) (hm : m_L_merges qv qh one other = some r) : cq_MW l yL_merges wsL_merges (cq_rm 1 26) D Y (cl_lar Y qvb 40 qv ++ (cl_arr Y qhb 40 qh)) [.ref qvb, .ref qhb, .int one, .int other] (none) (cl_lar Y qvb 40 r.1 ++ (cl_arr Y qhb 40 r.2)) := by
  refine cq_body (cc := cL_merges) (maxL := 7) (ret := none) (by decide) rfl (Nat.le_of_ble_eq_true rfl) ?_
  intro p e s m below meth c hE hP hG hD ls hl
  obtain ⟨hx, hb, hr, hml, hts, hown, hnm, hlocks⟩ := hE
  have hown : s.vm.findClass RL = some m.cls := hown
  have hS : va_S (cq_in (cl_lar Y qvb 40 qv ++ (cl_arr Y qhb 40 qh))) s.heap s.heap [] := va_S.rf
  have hl : lv_has ls 7 [(0, .ref qvb), (1, .ref qhb), (2, .int one), (3, .int other)] := hl
  refine lv_aload_n hx hb dL_merges_0 rfl (lv_at hl 0 rfl) ?_
  refine lv_iload_n hx hb dL_merges_1 rfl (lv_at hl 3 rfl) ?_
  have h_1 : inb other 40 = true := by by_cases h9 : inb other 40 = true; exact h9; exfalso; simp only [m_L_merges, eq_false h9, ↓reduceIte, if_true, if_false] at hm; cases hm
  refine va_lald hx hb hG.1 hP 0 2 rfl rfl (inb_in h_1) dL_merges_2 ?_
  refine lv_topl (fun x_2 ex_2 => ?_)
  refine lv_lstore (lv' := [(4, .long x_2), (0, .ref qvb), (1, .ref qhb), (2, .int one), (3, .int other)]) hx hb dL_merges_3 hl (by decide) rfl (fun ls hl => ?_)
  refine lv_iconst (v := 0) hx hb dL_merges_5 (by decide) ?_
  refine lv_istore (lv' := [(6, .int 0), (4, .long x_2), (0, .ref qvb), (1, .ref qhb), (2, .int one), (3, .int other)]) hx hb dL_merges_6 hl (by decide) rfl (fun ls hl => ?_)
  obtain ⟨fin_3, qfin_3⟩ : ∃ z, m_L_merges_lp8 qv qh one other x_2 3 0 x_2 = some z := by cases h9 : m_L_merges_lp8 qv qh one other x_2 3 0 x_2 with | some z => exact ⟨z, rfl⟩ | none => exfalso; subst ex_2; simp only [m_L_merges, eq_true h_1, h9, Option.bind_none, ↓reduceIte, if_true, if_false] at hm; cases hm
  have lp8 : ∀ (n8 k8 : Nat) (x4_8 : Int64) (H : Heap) (locs : List Loc) (ls : Array Slot), k8 + n8 = 3 → m_L_merges_lp8 qv qh one other x_2 n8 k8 x4_8 = some fin_3 → va_P D vwCl (cl_lar Y qvb 40 qv ++ (cl_arr Y qhb 40 qh)) H → va_D (cq_in (cl_lar Y qvb 40 qv ++ (cl_arr Y qhb 40 qh))) (cl_lar Y qvb 40 qv ++ (cl_arr Y qhb 40 qh)) → va_S (cq_in (cl_lar Y qvb 40 qv ++ (cl_arr Y qhb 40 qh))) s.heap H locs → lv_has ls 7 [(6, .int (nI k8)), (4, .long x4_8), (0, .ref qvb), (1, .ref qhb), (2, .int one), (3, .int other)] → W p l e (cq_rm 1 26) s m ([.ref qvb, .ref qhb, .int one, .int other] : List Value).toArray below meth c H locs 0 0 (MQ below (cq_W D (none) (cl_lar Y qvb 40 qv ++ (cl_arr Y qhb 40 qh)) (cl_lar Y qvb 40 r.1 ++ (cl_arr Y qhb 40 r.2))) ([.ref qvb, .ref qhb, .int one, .int other] : List Value).toArray s 0 0 (cq_in (cl_lar Y qvb 40 qv ++ (cl_arr Y qhb 40 qh)))) (F0 m 8 ls []) := by
    intro n8; induction n8 with
    | zero =>
      intro k8 x4_8 H locs ls hkn hres8 hP hD hS hl
      have hz : 3 ≤ nI k8 := cq_z (N := 3) rfl (by omega) (by omega)
      have e9 : fin_3 = x4_8 := (Option.some.inj hres8).symm
      subst e9
      refine lv_iload hx hb dL_merges_8 (lv_at hl 0 rfl) ?_
      refine lv_iconst (v := 3) hx hb dL_merges_10 (by decide) ?_
      refine lv_icmp_ge (tgt := 52) hx hb dL_merges_11 (by decide) (fun c_4 => ?_) (fun c_4 => ?_)
      · refine lv_iconst (v := 0) hx hb dL_merges_52 (by decide) ?_
        refine lv_istore (lv' := [(6, .int 0), (4, .long fin_3), (0, .ref qvb), (1, .ref qhb), (2, .int one), (3, .int other)]) hx hb dL_merges_53 hl (by decide) rfl (fun ls hl => ?_)
        obtain ⟨fin_5, qfin_5⟩ : ∃ z, m_L_merges_lp55 qv qh one other x_2 fin_3 4 0 fin_3 = some z := by cases h9 : m_L_merges_lp55 qv qh one other x_2 fin_3 4 0 fin_3 with | some z => exact ⟨z, rfl⟩ | none => exfalso; subst ex_2; simp only [m_L_merges, eq_true h_1, h9, Option.bind_none, qfin_3, Option.bind_some, ↓reduceIte, if_true, if_false] at hm; cases hm
        have lp55 : ∀ (n55 k55 : Nat) (x4_55 : Int64) (H : Heap) (locs : List Loc) (ls : Array Slot), k55 + n55 = 4 → m_L_merges_lp55 qv qh one other x_2 fin_3 n55 k55 x4_55 = some fin_5 → va_P D vwCl (cl_lar Y qvb 40 qv ++ (cl_arr Y qhb 40 qh)) H → va_D (cq_in (cl_lar Y qvb 40 qv ++ (cl_arr Y qhb 40 qh))) (cl_lar Y qvb 40 qv ++ (cl_arr Y qhb 40 qh)) → va_S (cq_in (cl_lar Y qvb 40 qv ++ (cl_arr Y qhb 40 qh))) s.heap H locs → lv_has ls 7 [(6, .int (nI k55)), (4, .long x4_55), (0, .ref qvb), (1, .ref qhb), (2, .int one), (3, .int other)] → W p l e (cq_rm 1 26) s m ([.ref qvb, .ref qhb, .int one, .int other] : List Value).toArray below meth c H locs 0 0 (MQ below (cq_W D (none) (cl_lar Y qvb 40 qv ++ (cl_arr Y qhb 40 qh)) (cl_lar Y qvb 40 r.1 ++ (cl_arr Y qhb 40 r.2))) ([.ref qvb, .ref qhb, .int one, .int other] : List Value).toArray s 0 0 (cq_in (cl_lar Y qvb 40 qv ++ (cl_arr Y qhb 40 qh)))) (F0 m 55 ls []) := by
          intro n55; induction n55 with
          | zero =>
            intro k55 x4_55 H locs ls hkn hres55 hP hD hS hl
            have hz : 4 ≤ nI k55 := cq_z (N := 4) rfl (by omega) (by omega)
            have e9 : fin_5 = x4_55 := (Option.some.inj hres55).symm
            subst e9
            refine lv_iload hx hb dL_merges_55 (lv_at hl 0 rfl) ?_
            refine lv_iconst (v := 4) hx hb dL_merges_57 (by decide) ?_
            refine lv_icmp_ge (tgt := 107) hx hb dL_merges_58 (by decide) (fun c_6 => ?_) (fun c_6 => ?_)
            · refine lv_aload_n hx hb dL_merges_107 rfl (lv_at hl 2 rfl) ?_
              refine lv_iload_n hx hb dL_merges_108 rfl (lv_at hl 5 rfl) ?_
              refine lv_lload hx hb dL_merges_109 (lv_at hl 1 rfl) ?_
              refine va_last hx hb hG.1 hP hD hS 0 2 rfl rfl (inb_in h_1) dL_merges_111 (fun H locs hP hD hS => ?_)
              have hP : va_P D vwCl (cl_lar Y qvb 40 (vp_updL qv other.toNatClampNeg fin_5) ++ (cl_arr Y qhb 40 qh)) H := hP
              have hD : va_D (cq_in (cl_lar Y qvb 40 qv ++ (cl_arr Y qhb 40 qh))) (cl_lar Y qvb 40 (vp_updL qv other.toNatClampNeg fin_5) ++ (cl_arr Y qhb 40 qh)) := hD
              refine lv_aload_n hx hb dL_merges_112 rfl (lv_at hl 3 rfl) ?_
              refine lv_iload_n hx hb dL_merges_113 rfl (lv_at hl 5 rfl) ?_
              refine lv_dup2_11 hx hb dL_merges_114 rfl rfl ?_
              refine va_iald hx hb hG.1 hP 1 0 rfl rfl (inb_in h_1) dL_merges_115 ?_
              refine lv_aload_n hx hb dL_merges_116 rfl (lv_at hl 3 rfl) ?_
              refine lv_iload_n hx hb dL_merges_117 rfl (lv_at hl 4 rfl) ?_
              have h_7 : inb one 40 = true := by by_cases h9 : inb one 40 = true; exact h9; exfalso; subst ex_2; simp only [m_L_merges, eq_true h_1, eq_false h9, qfin_3, Option.bind_some, qfin_5, Option.bind_some, ↓reduceIte, if_true, if_false] at hm; cases hm
              refine va_iald hx hb hG.1 hP 1 0 rfl rfl (inb_in h_7) dL_merges_118 ?_
              refine lv_iadd hx hb dL_merges_119 ?_
              refine va_iast hx hb hG.1 hP hD hS 1 0 rfl rfl (inb_in h_1) dL_merges_120 (fun H locs hP hD hS => ?_)
              have hP : va_P D vwCl (cl_lar Y qvb 40 (vp_updL qv other.toNatClampNeg fin_5) ++ (cl_arr Y qhb 40 (upd qh other.toNatClampNeg ((qh other.toNatClampNeg) + (qh one.toNatClampNeg))))) H := hP
              have hD : va_D (cq_in (cl_lar Y qvb 40 qv ++ (cl_arr Y qhb 40 qh))) (cl_lar Y qvb 40 (vp_updL qv other.toNatClampNeg fin_5) ++ (cl_arr Y qhb 40 (upd qh other.toNatClampNeg ((qh other.toNatClampNeg) + (qh one.toNatClampNeg))))) := hD
              refine lv_aload_n hx hb dL_merges_121 rfl (lv_at hl 2 rfl) ?_
              refine lv_iload_n hx hb dL_merges_122 rfl (lv_at hl 4 rfl) ?_
              refine lv_lconst (v := 0) hx hb dL_merges_123 (by decide) ?_
              refine va_last hx hb hG.1 hP hD hS 0 2 rfl rfl (inb_in h_7) dL_merges_124 (fun H locs hP hD hS => ?_)
              have hP : va_P D vwCl (cl_lar Y qvb 40 (vp_updL (vp_updL qv other.toNatClampNeg fin_5) one.toNatClampNeg (0 : Int64)) ++ (cl_arr Y qhb 40 (upd qh other.toNatClampNeg ((qh other.toNatClampNeg) + (qh one.toNatClampNeg))))) H := hP
              have hD : va_D (cq_in (cl_lar Y qvb 40 qv ++ (cl_arr Y qhb 40 qh))) (cl_lar Y qvb 40 (vp_updL (vp_updL qv other.toNatClampNeg fin_5) one.toNatClampNeg (0 : Int64)) ++ (cl_arr Y qhb 40 (upd qh other.toNatClampNeg ((qh other.toNatClampNeg) + (qh one.toNatClampNeg))))) := hD
              have h9 : some (vp_updL (vp_updL qv other.toNatClampNeg fin_5) one.toNatClampNeg (0 : Int64), upd qh other.toNatClampNeg ((qh other.toNatClampNeg) + (qh one.toNatClampNeg))) = some r := by have h8 := hm; subst ex_2; simp only [m_L_merges, eq_true h_1, eq_true h_7, qfin_3, Option.bind_some, qfin_5, Option.bind_some, ↓reduceIte, if_true, if_false] at h8; exact h8
              have h10 := Option.some.inj h9
              subst h10
              exact cq_wV (wl := cl_lar Y qvb 40 (vp_updL (vp_updL qv other.toNatClampNeg fin_5) one.toNatClampNeg (0 : Int64)) ++ (cl_arr Y qhb 40 (upd qh other.toNatClampNeg ((qh other.toNatClampNeg) + (qh one.toNatClampNeg))))) hx hb hr hlocks hP hS rfl rfl dL_merges_125
            · exact absurd hz c_6
          | succ n55 ih55 =>
            intro k55 x4_55 H locs ls hkn hres55 hP hD hS hl
            have hz : ¬ (4 ≤ nI k55) := cq_s (N := 4) rfl (by omega) (by omega)
            refine lv_iload hx hb dL_merges_55 (lv_at hl 0 rfl) ?_
            refine lv_iconst (v := 4) hx hb dL_merges_57 (by decide) ?_
            refine lv_icmp_ge (tgt := 107) hx hb dL_merges_58 (by decide) (fun c_8 => ?_) (fun c_8 => ?_)
            · exact absurd c_8 hz
            · refine lv_lload hx hb dL_merges_61 (lv_at hl 1 rfl) ?_
              refine lv_iload hx hb dL_merges_63 (lv_at hl 0 rfl) ?_
              refine cq_RS (R := (cq_rm 1 26)) (args := ([.ref qvb, .ref qhb, .int one, .int other] : List Value).toArray) (y := yL_field) (bytes := cL_field) (cc := cL_merges) (maxL := 3) (nL := 7) (n := 2) (index := 35) (ret := (some .int)) (ws := wsL_field) (rm := cq_rm 0 0) (Ts := wsL_merges) (own := RL) (D := D) (Y := Y) (W0 := ([] : va_W)) (wl := cl_lar Y qvb 40 qv ++ (cl_arr Y qhb 40 qh)) (v := some (.int (m_L_field x4_55 (nI k55)))) (st0 := [.int (nI k55), .long x4_55]) (As := [.long x4_55, .int (nI k55)]) (rest := []) ⟨hx, hb, hml, hown, hts⟩ (ct_L_field l D Y  x4_55 (nI k55)) (va_cwS 2 hts gL_merges_L_field rfl rfl rfl (by decide +kernel) ⟨Nat.le_of_ble_eq_true rfl, Nat.le_of_ble_eq_true rfl⟩) hG hP hD [] rfl (by decide +kernel) rfl hl.1 rfl (Nat.le_of_ble_eq_true rfl) dL_merges_65 ⟨Nat.zero_le _, Nat.zero_le _⟩ ?_
              change W _ _ _ _ _ _ _ _ _ _ _ _ _ _ _ (F0 m 68 _ (.int (m_L_field x4_55 (nI k55)) :: []))
              refine lv_if_ne (tgt := 97) hx hb dL_merges_68 (by decide) (fun c_9 => ?_) (fun c_9 => ?_)
              · refine lv_lload hx hb dL_merges_97 (lv_at hl 1 rfl) ?_
                refine lv_lstore (lv' := [(4, .long x4_55), (6, .int (nI k55)), (0, .ref qvb), (1, .ref qhb), (2, .int one), (3, .int other)]) hx hb dL_merges_99 hl (by decide) rfl (fun ls hl => ?_)
                refine lv_iinc (v := nI (k55 + 1)) (lv' := [(6, .int (nI (k55 + 1))), (4, .long x4_55), (0, .ref qvb), (1, .ref qhb), (2, .int one), (3, .int other)]) hx hb dL_merges_101 hl (k := 1) rfl (nI_1 k55) (by decide) rfl (fun ls hl => ?_)
                refine lv_goto (tgt := 55) hx hb dL_merges_104 (by decide) ?_
                exact ih55 (k55 + 1) x4_55 _ _ _ (by omega) (Eq.trans (by subst ex_2; simp only [m_L_merges_lp55, eq_true h_1, eq_false c_9, qfin_3, Option.bind_some, ↓reduceIte, if_true, if_false]) hres55) hP hD hS (lv_sub hl [0, 1, 2, 3, 4, 5] rfl)
              · refine lv_lload hx hb dL_merges_71 (lv_at hl 1 rfl) ?_
                refine lv_iload hx hb dL_merges_73 (lv_at hl 0 rfl) ?_
                refine lv_aload_n hx hb dL_merges_75 rfl (lv_at hl 2 rfl) ?_
                refine lv_iload_n hx hb dL_merges_76 rfl (lv_at hl 4 rfl) ?_
                have h_10 : inb one 40 = true := by by_cases h9 : inb one 40 = true; exact h9; exfalso; subst ex_2; simp only [m_L_merges_lp55, eq_true h_1, eq_true c_9, eq_false h9, qfin_3, Option.bind_some, ↓reduceIte, if_true, if_false] at hres55; cases hres55
                refine va_lald hx hb hG.1 hP 0 2 rfl rfl (inb_in h_10) dL_merges_77 ?_
                refine lv_iload hx hb dL_merges_78 (lv_at hl 0 rfl) ?_
                refine cq_RS (R := (cq_rm 1 26)) (args := ([.ref qvb, .ref qhb, .int one, .int other] : List Value).toArray) (y := yL_field) (bytes := cL_field) (cc := cL_merges) (maxL := 3) (nL := 7) (n := 2) (index := 35) (ret := (some .int)) (ws := wsL_field) (rm := cq_rm 0 0) (Ts := wsL_merges) (own := RL) (D := D) (Y := Y) (W0 := ([] : va_W)) (wl := cl_lar Y qvb 40 qv ++ (cl_arr Y qhb 40 qh)) (v := some (.int (m_L_field (qv one.toNatClampNeg) (nI k55)))) (st0 := [.int (nI k55), .long (qv one.toNatClampNeg), .int (nI k55), .long x4_55]) (As := [.long (qv one.toNatClampNeg), .int (nI k55)]) (rest := [.int (nI k55), .long x4_55]) ⟨hx, hb, hml, hown, hts⟩ (ct_L_field l D Y  (qv one.toNatClampNeg) (nI k55)) (va_cwS 2 hts gL_merges_L_field rfl rfl rfl (by decide +kernel) ⟨Nat.le_of_ble_eq_true rfl, Nat.le_of_ble_eq_true rfl⟩) hG hP hD [] rfl (by decide +kernel) rfl hl.1 rfl (Nat.le_of_ble_eq_true rfl) dL_merges_80 ⟨Nat.zero_le _, Nat.zero_le _⟩ ?_
                change W _ _ _ _ _ _ _ _ _ _ _ _ _ _ _ (F0 m 83 _ (.int (m_L_field (qv one.toNatClampNeg) (nI k55)) :: [.int (nI k55), .long x4_55]))
                refine lv_aload_n hx hb dL_merges_83 rfl (lv_at hl 2 rfl) ?_
                refine lv_iload_n hx hb dL_merges_84 rfl (lv_at hl 4 rfl) ?_
                refine va_lald hx hb hG.1 hP 0 2 rfl rfl (inb_in h_10) dL_merges_85 ?_
                refine lv_iload hx hb dL_merges_86 (lv_at hl 0 rfl) ?_
                refine cq_RS (R := (cq_rm 1 26)) (args := ([.ref qvb, .ref qhb, .int one, .int other] : List Value).toArray) (y := yL_source) (bytes := cL_source) (cc := cL_merges) (maxL := 3) (nL := 7) (n := 2) (index := 38) (ret := (some .int)) (ws := wsL_source) (rm := cq_rm 0 0) (Ts := wsL_merges) (own := RL) (D := D) (Y := Y) (W0 := ([] : va_W)) (wl := cl_lar Y qvb 40 qv ++ (cl_arr Y qhb 40 qh)) (v := some (.int (m_L_source (qv one.toNatClampNeg) (nI k55)))) (st0 := [.int (nI k55), .long (qv one.toNatClampNeg), .int (m_L_field (qv one.toNatClampNeg) (nI k55)), .int (nI k55), .long x4_55]) (As := [.long (qv one.toNatClampNeg), .int (nI k55)]) (rest := [.int (m_L_field (qv one.toNatClampNeg) (nI k55)), .int (nI k55), .long x4_55]) ⟨hx, hb, hml, hown, hts⟩ (ct_L_source l D Y  (qv one.toNatClampNeg) (nI k55)) (va_cwS 2 hts gL_merges_L_source rfl rfl rfl (by decide +kernel) ⟨Nat.le_of_ble_eq_true rfl, Nat.le_of_ble_eq_true rfl⟩) hG hP hD [] rfl (by decide +kernel) rfl hl.1 rfl (Nat.le_of_ble_eq_true rfl) dL_merges_88 ⟨Nat.zero_le _, Nat.zero_le _⟩ ?_
                change W _ _ _ _ _ _ _ _ _ _ _ _ _ _ _ (F0 m 91 _ (.int (m_L_source (qv one.toNatClampNeg) (nI k55)) :: [.int (m_L_field (qv one.toNatClampNeg) (nI k55)), .int (nI k55), .long x4_55]))
                refine cq_RS (R := (cq_rm 1 26)) (args := ([.ref qvb, .ref qhb, .int one, .int other] : List Value).toArray) (y := yL_withField) (bytes := cL_withField) (cc := cL_merges) (maxL := 7) (nL := 7) (n := 4) (index := 45) (ret := (some .long)) (ws := wsL_withField) (rm := cq_rm 0 0) (Ts := wsL_merges) (own := RL) (D := D) (Y := Y) (W0 := ([] : va_W)) (wl := cl_lar Y qvb 40 qv ++ (cl_arr Y qhb 40 qh)) (v := some (.long (m_L_withField x4_55 (nI k55) (m_L_field (qv one.toNatClampNeg) (nI k55)) (m_L_source (qv one.toNatClampNeg) (nI k55))))) (st0 := [.int (m_L_source (qv one.toNatClampNeg) (nI k55)), .int (m_L_field (qv one.toNatClampNeg) (nI k55)), .int (nI k55), .long x4_55]) (As := [.long x4_55, .int (nI k55), .int (m_L_field (qv one.toNatClampNeg) (nI k55)), .int (m_L_source (qv one.toNatClampNeg) (nI k55))]) (rest := []) ⟨hx, hb, hml, hown, hts⟩ (ct_L_withField l D Y  x4_55 (nI k55) (m_L_field (qv one.toNatClampNeg) (nI k55)) (m_L_source (qv one.toNatClampNeg) (nI k55))) (va_cwS 4 hts gL_merges_L_withField rfl rfl rfl (by decide +kernel) ⟨Nat.le_of_ble_eq_true rfl, Nat.le_of_ble_eq_true rfl⟩) hG hP hD [] rfl (by decide +kernel) rfl hl.1 rfl (Nat.le_of_ble_eq_true rfl) dL_merges_91 ⟨Nat.zero_le _, Nat.zero_le _⟩ ?_
                change W _ _ _ _ _ _ _ _ _ _ _ _ _ _ _ (F0 m 94 _ (.long (m_L_withField x4_55 (nI k55) (m_L_field (qv one.toNatClampNeg) (nI k55)) (m_L_source (qv one.toNatClampNeg) (nI k55))) :: []))
                refine lv_goto (tgt := 99) hx hb dL_merges_94 (by decide) ?_
                refine lv_topl (fun x_11 ex_11 => ?_)
                refine lv_lstore (lv' := [(4, .long x_11), (6, .int (nI k55)), (0, .ref qvb), (1, .ref qhb), (2, .int one), (3, .int other)]) hx hb dL_merges_99 hl (by decide) rfl (fun ls hl => ?_)
                refine lv_iinc (v := nI (k55 + 1)) (lv' := [(6, .int (nI (k55 + 1))), (4, .long x_11), (0, .ref qvb), (1, .ref qhb), (2, .int one), (3, .int other)]) hx hb dL_merges_101 hl (k := 1) rfl (nI_1 k55) (by decide) rfl (fun ls hl => ?_)
                refine lv_goto (tgt := 55) hx hb dL_merges_104 (by decide) ?_
                exact ih55 (k55 + 1) x_11 _ _ _ (by omega) (Eq.trans (by subst ex_11; subst ex_2; simp only [m_L_merges_lp55, eq_true h_1, eq_true c_9, eq_true h_10, qfin_3, Option.bind_some, ↓reduceIte, if_true, if_false]) hres55) hP hD hS (lv_sub hl [0, 1, 2, 3, 4, 5] rfl)
        exact lp55 4 0 fin_3 _ _ _ (Nat.zero_add _) qfin_5 hP hD hS (lv_sub hl [0, 1, 2, 3, 4, 5] rfl)
      · exact absurd hz c_4
    | succ n8 ih8 =>
      intro k8 x4_8 H locs ls hkn hres8 hP hD hS hl
      have hz : ¬ (3 ≤ nI k8) := cq_s (N := 3) rfl (by omega) (by omega)
      refine lv_iload hx hb dL_merges_8 (lv_at hl 0 rfl) ?_
      refine lv_iconst (v := 3) hx hb dL_merges_10 (by decide) ?_
      refine lv_icmp_ge (tgt := 52) hx hb dL_merges_11 (by decide) (fun c_12 => ?_) (fun c_12 => ?_)
      · exact absurd c_12 hz
      · refine lv_lload hx hb dL_merges_14 (lv_at hl 1 rfl) ?_
        refine lv_iload hx hb dL_merges_16 (lv_at hl 0 rfl) ?_
        refine cq_RS (R := (cq_rm 1 26)) (args := ([.ref qvb, .ref qhb, .int one, .int other] : List Value).toArray) (y := yL_key) (bytes := cL_key) (cc := cL_merges) (maxL := 3) (nL := 7) (n := 2) (index := 21) (ret := (some .int)) (ws := wsL_key) (rm := cq_rm 0 0) (Ts := wsL_merges) (own := RL) (D := D) (Y := Y) (W0 := ([] : va_W)) (wl := cl_lar Y qvb 40 qv ++ (cl_arr Y qhb 40 qh)) (v := some (.int (m_L_key x4_8 (nI k8)))) (st0 := [.int (nI k8), .long x4_8]) (As := [.long x4_8, .int (nI k8)]) (rest := []) ⟨hx, hb, hml, hown, hts⟩ (ct_L_key l D Y  x4_8 (nI k8)) (va_cwS 2 hts gL_merges_L_key rfl rfl rfl (by decide +kernel) ⟨Nat.le_of_ble_eq_true rfl, Nat.le_of_ble_eq_true rfl⟩) hG hP hD [] rfl (by decide +kernel) rfl hl.1 rfl (Nat.le_of_ble_eq_true rfl) dL_merges_18 ⟨Nat.zero_le _, Nat.zero_le _⟩ ?_
        change W _ _ _ _ _ _ _ _ _ _ _ _ _ _ _ (F0 m 21 _ (.int (m_L_key x4_8 (nI k8)) :: []))
        refine lv_if_ne (tgt := 42) hx hb dL_merges_21 (by decide) (fun c_13 => ?_) (fun c_13 => ?_)
        · refine lv_lload hx hb dL_merges_42 (lv_at hl 1 rfl) ?_
          refine lv_lstore (lv' := [(4, .long x4_8), (6, .int (nI k8)), (0, .ref qvb), (1, .ref qhb), (2, .int one), (3, .int other)]) hx hb dL_merges_44 hl (by decide) rfl (fun ls hl => ?_)
          refine lv_iinc (v := nI (k8 + 1)) (lv' := [(6, .int (nI (k8 + 1))), (4, .long x4_8), (0, .ref qvb), (1, .ref qhb), (2, .int one), (3, .int other)]) hx hb dL_merges_46 hl (k := 1) rfl (nI_1 k8) (by decide) rfl (fun ls hl => ?_)
          refine lv_goto (tgt := 8) hx hb dL_merges_49 (by decide) ?_
          exact ih8 (k8 + 1) x4_8 _ _ _ (by omega) (Eq.trans (by subst ex_2; simp only [m_L_merges_lp8, eq_true h_1, eq_false c_13, ↓reduceIte, if_true, if_false]) hres8) hP hD hS (lv_sub hl [0, 1, 2, 3, 4, 5] rfl)
        · refine lv_lload hx hb dL_merges_24 (lv_at hl 1 rfl) ?_
          refine lv_iload hx hb dL_merges_26 (lv_at hl 0 rfl) ?_
          refine lv_aload_n hx hb dL_merges_28 rfl (lv_at hl 2 rfl) ?_
          refine lv_iload_n hx hb dL_merges_29 rfl (lv_at hl 4 rfl) ?_
          have h_14 : inb one 40 = true := by by_cases h9 : inb one 40 = true; exact h9; exfalso; subst ex_2; simp only [m_L_merges_lp8, eq_true h_1, eq_true c_13, eq_false h9, ↓reduceIte, if_true, if_false] at hres8; cases hres8
          refine va_lald hx hb hG.1 hP 0 2 rfl rfl (inb_in h_14) dL_merges_30 ?_
          refine lv_iload hx hb dL_merges_31 (lv_at hl 0 rfl) ?_
          refine cq_RS (R := (cq_rm 1 26)) (args := ([.ref qvb, .ref qhb, .int one, .int other] : List Value).toArray) (y := yL_key) (bytes := cL_key) (cc := cL_merges) (maxL := 3) (nL := 7) (n := 2) (index := 21) (ret := (some .int)) (ws := wsL_key) (rm := cq_rm 0 0) (Ts := wsL_merges) (own := RL) (D := D) (Y := Y) (W0 := ([] : va_W)) (wl := cl_lar Y qvb 40 qv ++ (cl_arr Y qhb 40 qh)) (v := some (.int (m_L_key (qv one.toNatClampNeg) (nI k8)))) (st0 := [.int (nI k8), .long (qv one.toNatClampNeg), .int (nI k8), .long x4_8]) (As := [.long (qv one.toNatClampNeg), .int (nI k8)]) (rest := [.int (nI k8), .long x4_8]) ⟨hx, hb, hml, hown, hts⟩ (ct_L_key l D Y  (qv one.toNatClampNeg) (nI k8)) (va_cwS 2 hts gL_merges_L_key rfl rfl rfl (by decide +kernel) ⟨Nat.le_of_ble_eq_true rfl, Nat.le_of_ble_eq_true rfl⟩) hG hP hD [] rfl (by decide +kernel) rfl hl.1 rfl (Nat.le_of_ble_eq_true rfl) dL_merges_33 ⟨Nat.zero_le _, Nat.zero_le _⟩ ?_
          change W _ _ _ _ _ _ _ _ _ _ _ _ _ _ _ (F0 m 36 _ (.int (m_L_key (qv one.toNatClampNeg) (nI k8)) :: [.int (nI k8), .long x4_8]))
          refine cq_RS (R := (cq_rm 1 26)) (args := ([.ref qvb, .ref qhb, .int one, .int other] : List Value).toArray) (y := yL_withKey) (bytes := cL_withKey) (cc := cL_merges) (maxL := 4) (nL := 7) (n := 3) (index := 31) (ret := (some .long)) (ws := wsL_withKey) (rm := cq_rm 0 0) (Ts := wsL_merges) (own := RL) (D := D) (Y := Y) (W0 := ([] : va_W)) (wl := cl_lar Y qvb 40 qv ++ (cl_arr Y qhb 40 qh)) (v := some (.long (m_L_withKey x4_8 (nI k8) (m_L_key (qv one.toNatClampNeg) (nI k8))))) (st0 := [.int (m_L_key (qv one.toNatClampNeg) (nI k8)), .int (nI k8), .long x4_8]) (As := [.long x4_8, .int (nI k8), .int (m_L_key (qv one.toNatClampNeg) (nI k8))]) (rest := []) ⟨hx, hb, hml, hown, hts⟩ (ct_L_withKey l D Y  x4_8 (nI k8) (m_L_key (qv one.toNatClampNeg) (nI k8))) (va_cwS 3 hts gL_merges_L_withKey rfl rfl rfl (by decide +kernel) ⟨Nat.le_of_ble_eq_true rfl, Nat.le_of_ble_eq_true rfl⟩) hG hP hD [] rfl (by decide +kernel) rfl hl.1 rfl (Nat.le_of_ble_eq_true rfl) dL_merges_36 ⟨Nat.zero_le _, Nat.zero_le _⟩ ?_
          change W _ _ _ _ _ _ _ _ _ _ _ _ _ _ _ (F0 m 39 _ (.long (m_L_withKey x4_8 (nI k8) (m_L_key (qv one.toNatClampNeg) (nI k8))) :: []))
          refine lv_goto (tgt := 44) hx hb dL_merges_39 (by decide) ?_
          refine lv_topl (fun x_15 ex_15 => ?_)
          refine lv_lstore (lv' := [(4, .long x_15), (6, .int (nI k8)), (0, .ref qvb), (1, .ref qhb), (2, .int one), (3, .int other)]) hx hb dL_merges_44 hl (by decide) rfl (fun ls hl => ?_)
          refine lv_iinc (v := nI (k8 + 1)) (lv' := [(6, .int (nI (k8 + 1))), (4, .long x_15), (0, .ref qvb), (1, .ref qhb), (2, .int one), (3, .int other)]) hx hb dL_merges_46 hl (k := 1) rfl (nI_1 k8) (by decide) rfl (fun ls hl => ?_)
          refine lv_goto (tgt := 8) hx hb dL_merges_49 (by decide) ?_
          exact ih8 (k8 + 1) x_15 _ _ _ (by omega) (Eq.trans (by subst ex_15; subst ex_2; simp only [m_L_merges_lp8, eq_true h_1, eq_true c_13, eq_true h_14, ↓reduceIte, if_true, if_false]) hres8) hP hD hS (lv_sub hl [0, 1, 2, 3, 4, 5] rfl)
  exact lp8 3 0 x_2 _ _ _ (Nat.zero_add _) qfin_3 hP hD hS (lv_sub hl [0, 1, 2, 3, 4, 5] rfl)
