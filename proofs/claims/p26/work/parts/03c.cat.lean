
def m_X0_count_lp4 (ct : CatS) : Nat → Nat → Int32 → Int32
  | 0, k4, x1_4 => x1_4
  | n4 + 1, k4, x1_4 => (if m_X0_has ct (nI k4) = 0 then m_X0_count_lp4 ct n4 (k4 + 1) x1_4 else m_X0_count_lp4 ct n4 (k4 + 1) (x1_4 + 1))
def m_X0_count (ct : CatS) : Int32 := (let fin_1 := m_X0_count_lp4 ct 80 0 0; fin_1)
set_option maxHeartbeats 4000000 in
set_option maxRecDepth 100000 in
theorem ct_X0_count (l : Launch) (D : va_G) (Y : cq_Y) (act : Nat → Nat) (ct : CatS) : cq_MR l yX0_count wsX0_count (cq_rm 2 42) D Y (cl_cat Y act ct) [.ref (act 0)] (some (.int (m_X0_count ct))) := by
  refine cq_body (cc := cX0_count) (maxL := 3) (ret := (some .int)) (by decide) rfl (Nat.le_of_ble_eq_true rfl) ?_
  intro p e s m below meth c hE hP hG hD ls hl
  obtain ⟨hx, hb, hr, hml, hts, hown, hnm, hlocks⟩ := hE
  have hown : s.vm.findClass RX0 = some m.cls := hown
  have hl : lv_has ls 3 [(0, .ref (act 0))] := hl
  refine lv_iconst (v := 0) hx hb dX0_count_0 (by decide) ?_
  refine lv_istore_n (lv' := [(1, .int 0), (0, .ref (act 0))]) hx hb dX0_count_1 rfl hl (by decide) rfl (fun ls hl => ?_)
  refine lv_iconst (v := 0) hx hb dX0_count_2 (by decide) ?_
  refine lv_istore_n (lv' := [(2, .int 0), (1, .int 0), (0, .ref (act 0))]) hx hb dX0_count_3 rfl hl (by decide) rfl (fun ls hl => ?_)
  obtain ⟨fin_1, efin_1⟩ : ∃ z, z = m_X0_count_lp4 ct 80 0 0 := ⟨_, rfl⟩
  have lp4 : ∀ (n4 k4 : Nat) (x1_4 : Int32) (ls : Array Slot), k4 + n4 = 80 → m_X0_count_lp4 ct n4 k4 x1_4 = fin_1 → lv_has ls 3 [(2, .int (nI k4)), (1, .int x1_4), (0, .ref (act 0))] → W p l e (cq_rm 2 42) s m ([.ref (act 0)] : List Value).toArray below meth c s.heap [] 0 0 (MQ below (cq_R (some (.int (m_X0_count ct)))) ([.ref (act 0)] : List Value).toArray s 0 0 (fun _ => False)) (F0 m 4 ls []) := by
    intro n4; induction n4 with
    | zero =>
      intro k4 x1_4 ls hkn hres4 hl
      have hz : 80 ≤ nI k4 := cq_z (N := 80) rfl (by omega) (by omega)
      have e9 : fin_1 = x1_4 := hres4.symm
      subst e9
      refine lv_iload_n hx hb dX0_count_4 rfl (lv_at hl 0 rfl) ?_
      refine lv_bipush (v := 80) hx hb dX0_count_5 (by decide) ?_
      refine lv_icmp_ge (tgt := 27) hx hb dX0_count_7 (by decide) (fun c_2 => ?_) (fun c_2 => ?_)
      · refine lv_iload_n hx hb dX0_count_27 rfl (lv_at hl 1 rfl) ?_
        exact cq_rI hx hb hr hlocks (vp_nar_int _) (by subst efin_1; simp only [m_X0_count, ↓reduceIte, if_true, if_false]) dX0_count_28
      · exact absurd hz c_2
    | succ n4 ih4 =>
      intro k4 x1_4 ls hkn hres4 hl
      have hz : ¬ (80 ≤ nI k4) := cq_s (N := 80) rfl (by omega) (by omega)
      refine lv_iload_n hx hb dX0_count_4 rfl (lv_at hl 0 rfl) ?_
      refine lv_bipush (v := 80) hx hb dX0_count_5 (by decide) ?_
      refine lv_icmp_ge (tgt := 27) hx hb dX0_count_7 (by decide) (fun c_3 => ?_) (fun c_3 => ?_)
      · exact absurd c_3 hz
      · refine lv_aload_n hx hb dX0_count_10 rfl (lv_at hl 2 rfl) ?_
        refine lv_iload_n hx hb dX0_count_11 rfl (lv_at hl 0 rfl) ?_
        refine cq_RV (R := (cq_rm 2 42)) (args := ([.ref (act 0)] : List Value).toArray) (y := yX0_has) (bytes := cX0_has) (cc := cX0_count) (maxL := 2) (nL := 3) (n := 1) (index := 53) (ret := (some .boolean)) (ws := wsX0_has) (rm := cq_rm 1 21) (Ts := wsX0_count) (own := RX0) (D := D) (Y := Y) (W0 := cl_cat Y act ct) (wl := cl_cat Y act ct) (v := some (.int (m_X0_has ct (nI k4)))) (st0 := [.int (nI k4), .ref (act 0)]) (As := [.int (nI k4)]) (rest := []) (C := RX0) (b := act 0) ⟨hx, hb, hml, hown, hts⟩ (ct_X0_has l D Y act ct (nI k4)) (cwV 1 hts gX0_count_X0_has rfl rfl rfl (by decide +kernel) ⟨Nat.le_of_ble_eq_true rfl, Nat.le_of_ble_eq_true rfl⟩) hG hP hD [0, 1, 2, 3, 4, 5, 6, 7, 8, 9, 10, 11, 12, 13, 14] rfl (by decide +kernel) 0 0 (qc := (RX0, TX0, 7)) (fs := [.ref (act 1), .ref (act 3), .ref (act 5), .ref (act 7), .ref (act 9), .ref (act 11), .ref (act 13)]) rfl rfl rfl rfl hl.1 rfl (Nat.le_of_ble_eq_true rfl) dX0_count_12 ⟨Nat.zero_le _, Nat.zero_le _⟩ ?_
        change W _ _ _ _ _ _ _ _ _ _ _ _ _ _ _ (F0 m 15 _ (.int (m_X0_has ct (nI k4)) :: []))
        refine lv_if_eq (tgt := 21) hx hb dX0_count_15 (by decide) (fun c_4 => ?_) (fun c_4 => ?_)
        · refine lv_iinc (v := nI (k4 + 1)) (lv' := [(2, .int (nI (k4 + 1))), (1, .int x1_4), (0, .ref (act 0))]) hx hb dX0_count_21 hl (k := 0) rfl (nI_1 k4) (by decide) rfl (fun ls hl => ?_)
          refine lv_goto (tgt := 4) hx hb dX0_count_24 (by decide) ?_
          exact ih4 (k4 + 1) x1_4 _ (by omega) (Eq.trans (by simp only [m_X0_count_lp4, eq_true c_4, ↓reduceIte, if_true, if_false]) hres4) (lv_sub hl [0, 1, 2] rfl)
        · refine lv_iinc (v := x1_4 + 1) (lv' := [(1, .int (x1_4 + 1)), (2, .int (nI k4)), (0, .ref (act 0))]) hx hb dX0_count_18 hl (k := 1) rfl rfl (by decide) rfl (fun ls hl => ?_)
          refine lv_iinc (v := nI (k4 + 1)) (lv' := [(2, .int (nI (k4 + 1))), (1, .int (x1_4 + 1)), (0, .ref (act 0))]) hx hb dX0_count_21 hl (k := 1) rfl (nI_1 k4) (by decide) rfl (fun ls hl => ?_)
          refine lv_goto (tgt := 4) hx hb dX0_count_24 (by decide) ?_
          exact ih4 (k4 + 1) (x1_4 + 1) _ (by omega) (Eq.trans (by simp only [m_X0_count_lp4, eq_false c_4, ↓reduceIte, if_true, if_false]) hres4) (lv_sub hl [0, 1, 2] rfl)
  exact lp4 80 0 0 _ (Nat.zero_add _) efin_1.symm (lv_sub hl [0, 1, 2] rfl)

def m_X0_find_lp12 (ct : CatS) (key : Int32) (value : Int32) : Nat → Nat → Int32 → Int32
  | 0, k12, x3_12 => x3_12
  | n12 + 1, k12, x3_12 => (if m_X4_get 80 ct.1 (nI k12) = 1 then (if m_X1_get 80 3 240 ct.2.1 (nI k12) key = value then (if x3_12 = (-1) then m_X0_find_lp12 ct key value n12 (k12 + 1) (nI k12) else (-2)) else m_X0_find_lp12 ct key value n12 (k12 + 1) x3_12) else m_X0_find_lp12 ct key value n12 (k12 + 1) x3_12)
def m_X0_find (ct : CatS) (key : Int32) (value : Int32) : Int32 := (if value = (-1) then (-1) else m_X0_find_lp12 ct key value 80 0 (-1))
set_option maxHeartbeats 4000000 in
set_option maxRecDepth 100000 in
theorem ct_X0_find (l : Launch) (D : va_G) (Y : cq_Y) (act : Nat → Nat) (ct : CatS) (key : Int32) (value : Int32) : cq_MR l yX0_find wsX0_find (cq_rm 1 23) D Y (cl_cat Y act ct) [.ref (act 0), .int key, .int value] (some (.int (m_X0_find ct key value))) := by
  refine cq_body (cc := cX0_find) (maxL := 5) (ret := (some .int)) (by decide) rfl (Nat.le_of_ble_eq_true rfl) ?_
  intro p e s m below meth c hE hP hG hD ls hl
  obtain ⟨hx, hb, hr, hml, hts, hown, hnm, hlocks⟩ := hE
  have hown : s.vm.findClass RX0 = some m.cls := hown
  have hl : lv_has ls 5 [(0, .ref (act 0)), (1, .int key), (2, .int value)] := hl
  refine lv_iload_n hx hb dX0_find_0 rfl (lv_at hl 2 rfl) ?_
  refine lv_iconst (v := (-1)) hx hb dX0_find_1 (by decide) ?_
  refine lv_icmp_ne (tgt := 7) hx hb dX0_find_2 (by decide) (fun c_1 => ?_) (fun c_1 => ?_)
  · refine lv_iconst (v := (-1)) hx hb dX0_find_7 (by decide) ?_
    refine lv_istore_n (lv' := [(3, .int (-1)), (0, .ref (act 0)), (1, .int key), (2, .int value)]) hx hb dX0_find_8 rfl hl (by decide) rfl (fun ls hl => ?_)
    refine lv_iconst (v := 0) hx hb dX0_find_9 (by decide) ?_
    refine lv_istore (lv' := [(4, .int 0), (3, .int (-1)), (0, .ref (act 0)), (1, .int key), (2, .int value)]) hx hb dX0_find_10 hl (by decide) rfl (fun ls hl => ?_)
    have lp12 : ∀ (n12 k12 : Nat) (x3_12 : Int32) (ls : Array Slot), k12 + n12 = 80 → m_X0_find_lp12 ct key value n12 k12 x3_12 = m_X0_find ct key value → lv_has ls 5 [(4, .int (nI k12)), (3, .int x3_12), (0, .ref (act 0)), (1, .int key), (2, .int value)] → W p l e (cq_rm 1 23) s m ([.ref (act 0), .int key, .int value] : List Value).toArray below meth c s.heap [] 0 0 (MQ below (cq_R (some (.int (m_X0_find ct key value)))) ([.ref (act 0), .int key, .int value] : List Value).toArray s 0 0 (fun _ => False)) (F0 m 12 ls []) := by
      intro n12; induction n12 with
      | zero =>
        intro k12 x3_12 ls hkn hres12 hl
        have hz : 80 ≤ nI k12 := cq_z (N := 80) rfl (by omega) (by omega)
        refine lv_iload hx hb dX0_find_12 (lv_at hl 0 rfl) ?_
        refine lv_bipush (v := 80) hx hb dX0_find_14 (by decide) ?_
        refine lv_icmp_ge (tgt := 63) hx hb dX0_find_16 (by decide) (fun c_3 => ?_) (fun c_3 => ?_)
        · refine lv_iload_n hx hb dX0_find_63 rfl (lv_at hl 1 rfl) ?_
          exact cq_rI hx hb hr hlocks (vp_nar_int _) (by rw [← hres12]; simp only [m_X0_find_lp12, eq_false c_1, ↓reduceIte, if_true, if_false]) dX0_find_64
        · exact absurd hz c_3
      | succ n12 ih12 =>
        intro k12 x3_12 ls hkn hres12 hl
        have hz : ¬ (80 ≤ nI k12) := cq_s (N := 80) rfl (by omega) (by omega)
        refine lv_iload hx hb dX0_find_12 (lv_at hl 0 rfl) ?_
        refine lv_bipush (v := 80) hx hb dX0_find_14 (by decide) ?_
        refine lv_icmp_ge (tgt := 63) hx hb dX0_find_16 (by decide) (fun c_4 => ?_) (fun c_4 => ?_)
        · exact absurd c_4 hz
        · refine lv_aload_n hx hb dX0_find_19 rfl (lv_at hl 2 rfl) ?_
          refine va_get (D := D) (ci := 0) (v := .ref (act 1)) (C := RX0) (T := TX0) (N := 7) hx hb hts (fun _ h => List.mem_cons_of_mem _ (List.mem_append_left _ (List.mem_append_left _ (List.mem_append_right _ h)))) hown hG.1 hP 0 rfl rfl 0 (by decide) (hts (.fieldLink RX0 14 "CatalogueLoader$Catalogue" "there" "LCatalogueLoader$Row;") (List.mem_of_getElem? (i := 1) rfl)) (fun _ h9 => h9) rfl dX0_find_20 ?_
          refine lv_iload hx hb dX0_find_23 (lv_at hl 0 rfl) ?_
          refine cq_RV (R := (cq_rm 1 23)) (args := ([.ref (act 0), .int key, .int value] : List Value).toArray) (y := yX4_get) (bytes := cX4_get) (cc := cX0_find) (maxL := 2) (nL := 5) (n := 1) (index := 49) (ret := (some .int)) (ws := wsX4_get) (rm := cq_rm 0 0) (Ts := wsX0_find) (own := RX0) (D := D) (Y := Y) (W0 := cl_row Y (act 1) (act 2) 80 ct.1) (wl := cl_cat Y act ct) (v := some (.int (m_X4_get 80 ct.1 (nI k12)))) (st0 := [.int (nI k12), .ref (act 1)]) (As := [.int (nI k12)]) (rest := []) (C := RX4) (b := act 1) ⟨hx, hb, hml, hown, hts⟩ (ct_X4_get l D Y (act 1) (act 2) 80 ct.1 (nI k12) (by decide)) (cwV 1 hts gX0_find_X4_get rfl rfl rfl (by decide +kernel) ⟨Nat.le_of_ble_eq_true rfl, Nat.le_of_ble_eq_true rfl⟩) hG hP hD [1, 2] rfl (by decide +kernel) 1 4 (qc := (RX4, TX4, 1)) (fs := [.ref (act 2)]) rfl rfl rfl rfl hl.1 rfl (Nat.le_of_ble_eq_true rfl) dX0_find_25 ⟨Nat.zero_le _, Nat.zero_le _⟩ ?_
          change W _ _ _ _ _ _ _ _ _ _ _ _ _ _ _ (F0 m 28 _ (.int (m_X4_get 80 ct.1 (nI k12)) :: []))
          refine lv_iconst (v := 1) hx hb dX0_find_28 (by decide) ?_
          refine lv_icmp_ne (tgt := 57) hx hb dX0_find_29 (by decide) (fun c_5 => ?_) (fun c_5 => ?_)
          · refine lv_iinc (v := nI (k12 + 1)) (lv' := [(4, .int (nI (k12 + 1))), (3, .int x3_12), (0, .ref (act 0)), (1, .int key), (2, .int value)]) hx hb dX0_find_57 hl (k := 0) rfl (nI_1 k12) (by decide) rfl (fun ls hl => ?_)
            refine lv_goto (tgt := 12) hx hb dX0_find_60 (by decide) ?_
            exact ih12 (k12 + 1) x3_12 _ (by omega) (Eq.trans (by simp only [m_X0_find_lp12, eq_false c_1, eq_false c_5, ↓reduceIte, if_true, if_false]) hres12) (lv_sub hl [0, 1, 2, 3, 4] rfl)
          · refine lv_aload_n hx hb dX0_find_32 rfl (lv_at hl 2 rfl) ?_
            refine va_get (D := D) (ci := 0) (v := .ref (act 3)) (C := RX0) (T := TX0) (N := 7) hx hb hts (fun _ h => List.mem_cons_of_mem _ (List.mem_append_left _ (List.mem_append_left _ (List.mem_append_right _ h)))) hown hG.1 hP 0 rfl rfl 1 (by decide) (hts (.fieldLink RX0 25 "CatalogueLoader$Catalogue" "keys" "LCatalogueLoader$Grid;") (List.mem_of_getElem? (i := 2) rfl)) (fun _ h9 => h9) rfl dX0_find_33 ?_
            refine lv_iload hx hb dX0_find_36 (lv_at hl 0 rfl) ?_
            refine lv_iload_n hx hb dX0_find_38 rfl (lv_at hl 3 rfl) ?_
            refine cq_RV (R := (cq_rm 1 23)) (args := ([.ref (act 0), .int key, .int value] : List Value).toArray) (y := yX1_get) (bytes := cX1_get) (cc := cX0_find) (maxL := 4) (nL := 5) (n := 2) (index := 83) (ret := (some .int)) (ws := wsX1_get) (rm := cq_rm 0 0) (Ts := wsX0_find) (own := RX0) (D := D) (Y := Y) (W0 := cl_grd Y (act 3) (act 4) 80 3 240 ct.2.1) (wl := cl_cat Y act ct) (v := some (.int (m_X1_get 80 3 240 ct.2.1 (nI k12) key))) (st0 := [.int key, .int (nI k12), .ref (act 3)]) (As := [.int (nI k12), .int key]) (rest := []) (C := RX1) (b := act 3) ⟨hx, hb, hml, hown, hts⟩ (ct_X1_get l D Y (act 3) (act 4) 80 3 240 ct.2.1 (nI k12) key (by decide)) (cwV 2 hts gX0_find_X1_get rfl rfl rfl (by decide +kernel) ⟨Nat.le_of_ble_eq_true rfl, Nat.le_of_ble_eq_true rfl⟩) hG hP hD [3, 4] rfl (by decide +kernel) 3 1 (qc := (RX1, TX1, 3)) (fs := [.int 80, .int 3, .ref (act 4)]) rfl rfl rfl rfl hl.1 rfl (Nat.le_of_ble_eq_true rfl) dX0_find_39 ⟨Nat.zero_le _, Nat.zero_le _⟩ ?_
            change W _ _ _ _ _ _ _ _ _ _ _ _ _ _ _ (F0 m 42 _ (.int (m_X1_get 80 3 240 ct.2.1 (nI k12) key) :: []))
            refine lv_iload_n hx hb dX0_find_42 rfl (lv_at hl 4 rfl) ?_
            refine lv_icmp_ne (tgt := 57) hx hb dX0_find_43 (by decide) (fun c_6 => ?_) (fun c_6 => ?_)
            · refine lv_iinc (v := nI (k12 + 1)) (lv' := [(4, .int (nI (k12 + 1))), (3, .int x3_12), (0, .ref (act 0)), (1, .int key), (2, .int value)]) hx hb dX0_find_57 hl (k := 0) rfl (nI_1 k12) (by decide) rfl (fun ls hl => ?_)
              refine lv_goto (tgt := 12) hx hb dX0_find_60 (by decide) ?_
              exact ih12 (k12 + 1) x3_12 _ (by omega) (Eq.trans (by simp only [m_X0_find_lp12, eq_false c_1, eq_true c_5, eq_false c_6, ↓reduceIte, if_true, if_false]) hres12) (lv_sub hl [0, 1, 2, 3, 4] rfl)
            · refine lv_iload_n hx hb dX0_find_46 rfl (lv_at hl 1 rfl) ?_
              refine lv_iconst (v := (-1)) hx hb dX0_find_47 (by decide) ?_
              refine lv_icmp_eq (tgt := 54) hx hb dX0_find_48 (by decide) (fun c_7 => ?_) (fun c_7 => ?_)
              · refine lv_iload hx hb dX0_find_54 (lv_at hl 0 rfl) ?_
                refine lv_istore_n (lv' := [(3, .int (nI k12)), (4, .int (nI k12)), (0, .ref (act 0)), (1, .int key), (2, .int value)]) hx hb dX0_find_56 rfl hl (by decide) rfl (fun ls hl => ?_)
                refine lv_iinc (v := nI (k12 + 1)) (lv' := [(4, .int (nI (k12 + 1))), (3, .int (nI k12)), (0, .ref (act 0)), (1, .int key), (2, .int value)]) hx hb dX0_find_57 hl (k := 1) rfl (nI_1 k12) (by decide) rfl (fun ls hl => ?_)
                refine lv_goto (tgt := 12) hx hb dX0_find_60 (by decide) ?_
                exact ih12 (k12 + 1) (nI k12) _ (by omega) (Eq.trans (by simp only [m_X0_find_lp12, eq_false c_1, eq_true c_5, eq_true c_6, eq_true c_7, ↓reduceIte, if_true, if_false]) hres12) (lv_sub hl [0, 1, 2, 3, 4] rfl)
              · refine lv_bipush (v := (-2)) hx hb dX0_find_51 (by decide) ?_
                exact cq_rI hx hb hr hlocks (vp_nar_int _) (by rw [← hres12]; simp only [m_X0_find_lp12, eq_false c_1, eq_true c_5, eq_true c_6, eq_false c_7, ↓reduceIte, if_true, if_false]) dX0_find_53
    exact lp12 80 0 (-1) _ (Nat.zero_add _) (by simp only [m_X0_find, eq_false c_1, ↓reduceIte, if_true, if_false]) (lv_sub hl [0, 1, 2, 3, 4] rfl)
  · refine lv_iconst (v := (-1)) hx hb dX0_find_5 (by decide) ?_
    exact cq_rI hx hb hr hlocks (vp_nar_int _) (by simp only [m_X0_find, eq_true c_1, ↓reduceIte, if_true, if_false]) dX0_find_6

def m_X0_target_lp3 (ct : CatS) (st : SetS) (ld : LodS) (load : Int32) : Nat → Nat → Int32
  | 0, k3 => load
  | n3 + 1, k3 => (let x_4 := m_X4_get 3 st.2.2 (nI k3); (let x_5 := m_X0_find ct x_4 (m_X1_get 81 3 243 ld.1 load x_4); (if x_5 = (-1) then m_X0_target_lp3 ct st ld load n3 (k3 + 1)  else x_5)))
def m_X0_target (ct : CatS) (st : SetS) (ld : LodS) (load : Int32) : Int32 := m_X0_target_lp3 ct st ld load 3 0 
set_option maxHeartbeats 4000000 in
set_option maxRecDepth 100000 in
theorem ct_X0_target (l : Launch) (D : va_G) (Y : cq_Y) (act : Nat → Nat) (ct : CatS) (ast : Nat → Nat) (st : SetS) (ald : Nat → Nat) (ld : LodS) (load : Int32) : cq_MR l yX0_target wsX0_target (cq_rm 2 47) D Y (cl_cat Y act ct ++ (cl_set Y ast st ++ (cl_lod Y ald ld))) [.ref (act 0), .ref (ast 0), .ref (ald 0), .int load] (some (.int (m_X0_target ct st ld load))) := by
  refine cq_body (cc := cX0_target) (maxL := 7) (ret := (some .int)) (by decide) rfl (Nat.le_of_ble_eq_true rfl) ?_
  intro p e s m below meth c hE hP hG hD ls hl
  obtain ⟨hx, hb, hr, hml, hts, hown, hnm, hlocks⟩ := hE
  have hown : s.vm.findClass RX0 = some m.cls := hown
  have hl : lv_has ls 7 [(0, .ref (act 0)), (1, .ref (ast 0)), (2, .ref (ald 0)), (3, .int load)] := hl
  refine lv_iconst (v := 0) hx hb dX0_target_0 (by decide) ?_
  refine lv_istore (lv' := [(4, .int 0), (0, .ref (act 0)), (1, .ref (ast 0)), (2, .ref (ald 0)), (3, .int load)]) hx hb dX0_target_1 hl (by decide) rfl (fun ls hl => ?_)
  have lp3 : ∀ (n3 k3 : Nat) (ls : Array Slot), k3 + n3 = 3 → m_X0_target_lp3 ct st ld load n3 k3  = m_X0_target ct st ld load → lv_has ls 7 [(4, .int (nI k3)), (0, .ref (act 0)), (1, .ref (ast 0)), (2, .ref (ald 0)), (3, .int load)] → W p l e (cq_rm 2 47) s m ([.ref (act 0), .ref (ast 0), .ref (ald 0), .int load] : List Value).toArray below meth c s.heap [] 0 0 (MQ below (cq_R (some (.int (m_X0_target ct st ld load)))) ([.ref (act 0), .ref (ast 0), .ref (ald 0), .int load] : List Value).toArray s 0 0 (fun _ => False)) (F0 m 3 ls []) := by
    intro n3; induction n3 with
    | zero =>
      intro k3  ls hkn hres3 hl
      have hz : 3 ≤ nI k3 := cq_z (N := 3) rfl (by omega) (by omega)
      refine lv_iload hx hb dX0_target_3 (lv_at hl 0 rfl) ?_
      refine lv_iconst (v := 3) hx hb dX0_target_5 (by decide) ?_
      refine lv_icmp_ge (tgt := 53) hx hb dX0_target_6 (by decide) (fun c_2 => ?_) (fun c_2 => ?_)
      · refine lv_iload_n hx hb dX0_target_53 rfl (lv_at hl 4 rfl) ?_
        exact cq_rI hx hb hr hlocks (vp_nar_int _) (by rw [← hres3]; simp only [m_X0_target_lp3, ↓reduceIte, if_true, if_false]) dX0_target_54
      · exact absurd hz c_2
    | succ n3 ih3 =>
      intro k3  ls hkn hres3 hl
      have hz : ¬ (3 ≤ nI k3) := cq_s (N := 3) rfl (by omega) (by omega)
      refine lv_iload hx hb dX0_target_3 (lv_at hl 0 rfl) ?_
      refine lv_iconst (v := 3) hx hb dX0_target_5 (by decide) ?_
      refine lv_icmp_ge (tgt := 53) hx hb dX0_target_6 (by decide) (fun c_3 => ?_) (fun c_3 => ?_)
      · exact absurd c_3 hz
      · refine lv_aload_n hx hb dX0_target_9 rfl (lv_at hl 2 rfl) ?_
        refine va_getN (D := D) (ci := 5) (v := .ref (ast 5)) (C := RX5) (T := TX5) (N := 3) hx hb hts (fun _ h => List.mem_cons_of_mem _ (List.mem_append_left _ (List.mem_append_left _ (List.mem_append_left _ (List.mem_append_left _ (List.mem_append_right _ h)))))) hown hG.1 hP 15 rfl rfl 2 (by decide) (hG.nest 3 rfl) (fun _ h9 => h9) rfl dX0_target_10 ?_
        refine lv_iload hx hb dX0_target_13 (lv_at hl 0 rfl) ?_
        refine cq_RV (R := (cq_rm 2 47)) (args := ([.ref (act 0), .ref (ast 0), .ref (ald 0), .int load] : List Value).toArray) (y := yX4_get) (bytes := cX4_get) (cc := cX0_target) (maxL := 2) (nL := 7) (n := 1) (index := 49) (ret := (some .int)) (ws := wsX4_get) (rm := cq_rm 0 0) (Ts := wsX0_target) (own := RX0) (D := D) (Y := Y) (W0 := cl_row Y (ast 5) (ast 6) 3 st.2.2) (wl := cl_cat Y act ct ++ (cl_set Y ast st ++ (cl_lod Y ald ld))) (v := some (.int (m_X4_get 3 st.2.2 (nI k3)))) (st0 := [.int (nI k3), .ref (ast 5)]) (As := [.int (nI k3)]) (rest := []) (C := RX4) (b := ast 5) ⟨hx, hb, hml, hown, hts⟩ (ct_X4_get l D Y (ast 5) (ast 6) 3 st.2.2 (nI k3) (by decide)) (cwV 1 hts gX0_target_X4_get rfl rfl rfl (by decide +kernel) ⟨Nat.le_of_ble_eq_true rfl, Nat.le_of_ble_eq_true rfl⟩) hG hP hD [20, 21] rfl (by decide +kernel) 20 4 (qc := (RX4, TX4, 1)) (fs := [.ref (ast 6)]) rfl rfl rfl rfl hl.1 rfl (Nat.le_of_ble_eq_true rfl) dX0_target_15 ⟨Nat.zero_le _, Nat.zero_le _⟩ ?_
        change W _ _ _ _ _ _ _ _ _ _ _ _ _ _ _ (F0 m 18 _ (.int (m_X4_get 3 st.2.2 (nI k3)) :: []))
        refine lv_topi (fun x_4 ex_4 => ?_)
        refine lv_istore (lv' := [(5, .int x_4), (4, .int (nI k3)), (0, .ref (act 0)), (1, .ref (ast 0)), (2, .ref (ald 0)), (3, .int load)]) hx hb dX0_target_18 hl (by decide) rfl (fun ls hl => ?_)
        refine lv_aload_n hx hb dX0_target_20 rfl (lv_at hl 2 rfl) ?_
        refine lv_iload hx hb dX0_target_21 (lv_at hl 0 rfl) ?_
        refine lv_aload_n hx hb dX0_target_23 rfl (lv_at hl 4 rfl) ?_
        refine va_getN (D := D) (ci := 3) (v := .ref (ald 1)) (C := RX3) (T := TX3) (N := 7) hx hb hts (fun _ h => List.mem_cons_of_mem _ (List.mem_append_left _ (List.mem_append_left _ (List.mem_append_left _ (List.mem_append_right _ h))))) hown hG.1 hP 22 rfl rfl 0 (by decide) (hG.nest 5 rfl) (fun _ h9 => h9) rfl dX0_target_24 ?_
        refine lv_iload_n hx hb dX0_target_27 rfl (lv_at hl 5 rfl) ?_
        refine lv_iload hx hb dX0_target_28 (lv_at hl 0 rfl) ?_
        refine cq_RV (R := (cq_rm 2 47)) (args := ([.ref (act 0), .ref (ast 0), .ref (ald 0), .int load] : List Value).toArray) (y := yX1_get) (bytes := cX1_get) (cc := cX0_target) (maxL := 4) (nL := 7) (n := 2) (index := 83) (ret := (some .int)) (ws := wsX1_get) (rm := cq_rm 0 0) (Ts := wsX0_target) (own := RX0) (D := D) (Y := Y) (W0 := cl_grd Y (ald 1) (ald 2) 81 3 243 ld.1) (wl := cl_cat Y act ct ++ (cl_set Y ast st ++ (cl_lod Y ald ld))) (v := some (.int (m_X1_get 81 3 243 ld.1 load x_4))) (st0 := [.int x_4, .int load, .ref (ald 1), .int x_4, .ref (act 0)]) (As := [.int load, .int x_4]) (rest := [.int x_4, .ref (act 0)]) (C := RX1) (b := ald 1) ⟨hx, hb, hml, hown, hts⟩ (ct_X1_get l D Y (ald 1) (ald 2) 81 3 243 ld.1 load x_4 (by decide)) (cwV 2 hts gX0_target_X1_get rfl rfl rfl (by decide +kernel) ⟨Nat.le_of_ble_eq_true rfl, Nat.le_of_ble_eq_true rfl⟩) hG hP hD [23, 24] rfl (by decide +kernel) 23 1 (qc := (RX1, TX1, 3)) (fs := [.int 81, .int 3, .ref (ald 2)]) rfl rfl rfl rfl hl.1 rfl (Nat.le_of_ble_eq_true rfl) dX0_target_30 ⟨Nat.zero_le _, Nat.zero_le _⟩ ?_
        change W _ _ _ _ _ _ _ _ _ _ _ _ _ _ _ (F0 m 33 _ (.int (m_X1_get 81 3 243 ld.1 load x_4) :: [.int x_4, .ref (act 0)]))
        refine cq_RV (R := (cq_rm 2 47)) (args := ([.ref (act 0), .ref (ast 0), .ref (ald 0), .int load] : List Value).toArray) (y := yX0_find) (bytes := cX0_find) (cc := cX0_target) (maxL := 5) (nL := 7) (n := 2) (index := 86) (ret := (some .int)) (ws := wsX0_find) (rm := cq_rm 1 23) (Ts := wsX0_target) (own := RX0) (D := D) (Y := Y) (W0 := cl_cat Y act ct) (wl := cl_cat Y act ct ++ (cl_set Y ast st ++ (cl_lod Y ald ld))) (v := some (.int (m_X0_find ct x_4 (m_X1_get 81 3 243 ld.1 load x_4)))) (st0 := [.int (m_X1_get 81 3 243 ld.1 load x_4), .int x_4, .ref (act 0)]) (As := [.int x_4, .int (m_X1_get 81 3 243 ld.1 load x_4)]) (rest := []) (C := RX0) (b := act 0) ⟨hx, hb, hml, hown, hts⟩ (ct_X0_find l D Y act ct x_4 (m_X1_get 81 3 243 ld.1 load x_4)) (cwV 2 hts gX0_target_X0_find rfl rfl rfl (by decide +kernel) ⟨Nat.le_of_ble_eq_true rfl, Nat.le_of_ble_eq_true rfl⟩) hG hP hD [0, 1, 2, 3, 4, 5, 6, 7, 8, 9, 10, 11, 12, 13, 14] rfl (by decide +kernel) 0 0 (qc := (RX0, TX0, 7)) (fs := [.ref (act 1), .ref (act 3), .ref (act 5), .ref (act 7), .ref (act 9), .ref (act 11), .ref (act 13)]) rfl rfl rfl rfl hl.1 rfl (Nat.le_of_ble_eq_true rfl) dX0_target_33 ⟨Nat.zero_le _, Nat.zero_le _⟩ ?_
        change W _ _ _ _ _ _ _ _ _ _ _ _ _ _ _ (F0 m 36 _ (.int (m_X0_find ct x_4 (m_X1_get 81 3 243 ld.1 load x_4)) :: []))
        refine lv_topi (fun x_5 ex_5 => ?_)
        refine lv_istore (lv' := [(6, .int x_5), (5, .int x_4), (4, .int (nI k3)), (0, .ref (act 0)), (1, .ref (ast 0)), (2, .ref (ald 0)), (3, .int load)]) hx hb dX0_target_36 hl (by decide) rfl (fun ls hl => ?_)
        refine lv_iload hx hb dX0_target_38 (lv_at hl 0 rfl) ?_
        refine lv_iconst (v := (-1)) hx hb dX0_target_40 (by decide) ?_
        refine lv_icmp_eq (tgt := 47) hx hb dX0_target_41 (by decide) (fun c_6 => ?_) (fun c_6 => ?_)
        · refine lv_iinc (v := nI (k3 + 1)) (lv' := [(4, .int (nI (k3 + 1))), (6, .int x_5), (5, .int x_4), (0, .ref (act 0)), (1, .ref (ast 0)), (2, .ref (ald 0)), (3, .int load)]) hx hb dX0_target_47 hl (k := 2) rfl (nI_1 k3) (by decide) rfl (fun ls hl => ?_)
          refine lv_goto (tgt := 3) hx hb dX0_target_50 (by decide) ?_
          exact ih3 (k3 + 1)  _ (by omega) (Eq.trans (by subst ex_5; subst ex_4; simp only [m_X0_target_lp3, eq_true c_6, ↓reduceIte, if_true, if_false]) hres3) (lv_sub hl [0, 3, 4, 5, 6] rfl)
        · refine lv_iload hx hb dX0_target_44 (lv_at hl 0 rfl) ?_
          exact cq_rI hx hb hr hlocks (vp_nar_int _) (by rw [← hres3]; subst ex_5; subst ex_4; simp only [m_X0_target_lp3, eq_false c_6, ↓reduceIte, if_true, if_false]) dX0_target_46
  exact lp3 3 0  _ (Nat.zero_add _) (by simp only [m_X0_target, ↓reduceIte, if_true, if_false]) (lv_sub hl [0, 1, 2, 3, 4] rfl)

def m_X0_layKeys_lp3 (ct : CatS) (ld : LodS) (load : Int32) (record : Int32) : Nat → Nat → CatS → CatS
  | 0, k3, s0_3 => s0_3
  | n3 + 1, k3, s0_3 => (if m_X1_get 80 3 240 s0_3.2.1 record (nI k3) = (-1) then m_X0_layKeys_lp3 ct ld load record n3 (k3 + 1) (s0_3.1, m_X1_set 80 3 240 s0_3.2.1 record (nI k3) (m_X1_get 81 3 243 ld.1 load (nI k3)), s0_3.2.2.1, s0_3.2.2.2.1, s0_3.2.2.2.2.1, s0_3.2.2.2.2.2.1, s0_3.2.2.2.2.2.2) else m_X0_layKeys_lp3 ct ld load record n3 (k3 + 1) s0_3)
def m_X0_layKeys (ct : CatS) (ld : LodS) (load : Int32) (record : Int32) : CatS := (let fin_1 := m_X0_layKeys_lp3 ct ld load record 3 0 ct; fin_1)
set_option maxHeartbeats 4000000 in
set_option maxRecDepth 100000 in
theorem ct_X0_layKeys (l : Launch) (D : va_G) (Y : cq_Y) (act : Nat → Nat) (ct : CatS) (ald : Nat → Nat) (ld : LodS) (load : Int32) (record : Int32) : cq_MW l yX0_layKeys wsX0_layKeys (cq_rm 1 24) D Y (cl_cat Y act ct ++ (cl_lod Y ald ld)) [.ref (act 0), .ref (ald 0), .int load, .int record] (none) (cl_cat Y act (m_X0_layKeys ct ld load record) ++ (cl_lod Y ald ld)) := by
  refine cq_body (cc := cX0_layKeys) (maxL := 5) (ret := none) (by decide) rfl (Nat.le_of_ble_eq_true rfl) ?_
  intro p e s m below meth c hE hP hG hD ls hl
  obtain ⟨hx, hb, hr, hml, hts, hown, hnm, hlocks⟩ := hE
  have hown : s.vm.findClass RX0 = some m.cls := hown
  have hS : va_S (cq_in (cl_cat Y act ct ++ (cl_lod Y ald ld))) s.heap s.heap [] := va_S.rf
  have hl : lv_has ls 5 [(0, .ref (act 0)), (1, .ref (ald 0)), (2, .int load), (3, .int record)] := hl
  refine lv_iconst (v := 0) hx hb dX0_layKeys_0 (by decide) ?_
  refine lv_istore (lv' := [(4, .int 0), (0, .ref (act 0)), (1, .ref (ald 0)), (2, .int load), (3, .int record)]) hx hb dX0_layKeys_1 hl (by decide) rfl (fun ls hl => ?_)
  obtain ⟨fin_1, efin_1⟩ : ∃ z, z = m_X0_layKeys_lp3 ct ld load record 3 0 ct := ⟨_, rfl⟩
  have lp3 : ∀ (n3 k3 : Nat) (s0_3 : CatS) (H : Heap) (locs : List Loc) (ls : Array Slot), k3 + n3 = 3 → m_X0_layKeys_lp3 ct ld load record n3 k3 s0_3 = fin_1 → va_P D vwCl (cl_cat Y act s0_3 ++ (cl_lod Y ald ld)) H → va_D (cq_in (cl_cat Y act ct ++ (cl_lod Y ald ld))) (cl_cat Y act s0_3 ++ (cl_lod Y ald ld)) → va_S (cq_in (cl_cat Y act ct ++ (cl_lod Y ald ld))) s.heap H locs → lv_has ls 5 [(4, .int (nI k3)), (0, .ref (act 0)), (1, .ref (ald 0)), (2, .int load), (3, .int record)] → W p l e (cq_rm 1 24) s m ([.ref (act 0), .ref (ald 0), .int load, .int record] : List Value).toArray below meth c H locs 0 0 (MQ below (cq_W D (none) (cl_cat Y act ct ++ (cl_lod Y ald ld)) (cl_cat Y act (m_X0_layKeys ct ld load record) ++ (cl_lod Y ald ld))) ([.ref (act 0), .ref (ald 0), .int load, .int record] : List Value).toArray s 0 0 (cq_in (cl_cat Y act ct ++ (cl_lod Y ald ld)))) (F0 m 3 ls []) := by
    intro n3; induction n3 with
    | zero =>
      intro k3 s0_3 H locs ls hkn hres3 hP hD hS hl
      have hz : 3 ≤ nI k3 := cq_z (N := 3) rfl (by omega) (by omega)
      have e9 : fin_1 = s0_3 := hres3.symm
      subst e9
      refine lv_iload hx hb dX0_layKeys_3 (lv_at hl 0 rfl) ?_
      refine lv_iconst (v := 3) hx hb dX0_layKeys_5 (by decide) ?_
      refine lv_icmp_ge (tgt := 49) hx hb dX0_layKeys_6 (by decide) (fun c_2 => ?_) (fun c_2 => ?_)
      · exact cq_wV (wl := cl_cat Y act fin_1 ++ (cl_lod Y ald ld)) hx hb hr hlocks hP hS rfl (by subst efin_1; simp only [m_X0_layKeys, ↓reduceIte, if_true, if_false]) dX0_layKeys_49
      · exact absurd hz c_2
    | succ n3 ih3 =>
      intro k3 s0_3 H locs ls hkn hres3 hP hD hS hl
      have hz : ¬ (3 ≤ nI k3) := cq_s (N := 3) rfl (by omega) (by omega)
      refine lv_iload hx hb dX0_layKeys_3 (lv_at hl 0 rfl) ?_
      refine lv_iconst (v := 3) hx hb dX0_layKeys_5 (by decide) ?_
      refine lv_icmp_ge (tgt := 49) hx hb dX0_layKeys_6 (by decide) (fun c_3 => ?_) (fun c_3 => ?_)
      · exact absurd c_3 hz
      · refine lv_aload_n hx hb dX0_layKeys_9 rfl (lv_at hl 1 rfl) ?_
        refine va_get (D := D) (ci := 0) (v := .ref (act 3)) (C := RX0) (T := TX0) (N := 7) hx hb hts (fun _ h => List.mem_cons_of_mem _ (List.mem_append_left _ (List.mem_append_left _ (List.mem_append_right _ h)))) hown hG.1 hP 0 rfl rfl 1 (by decide) (hts (.fieldLink RX0 25 "CatalogueLoader$Catalogue" "keys" "LCatalogueLoader$Grid;") (List.mem_of_getElem? (i := 1) rfl)) (fun _ h9 => h9) rfl dX0_layKeys_10 ?_
        refine lv_iload_n hx hb dX0_layKeys_13 rfl (lv_at hl 4 rfl) ?_
        refine lv_iload hx hb dX0_layKeys_14 (lv_at hl 0 rfl) ?_
        refine cq_RV (R := (cq_rm 1 24)) (args := ([.ref (act 0), .ref (ald 0), .int load, .int record] : List Value).toArray) (y := yX1_get) (bytes := cX1_get) (cc := cX0_layKeys) (maxL := 4) (nL := 5) (n := 2) (index := 83) (ret := (some .int)) (ws := wsX1_get) (rm := cq_rm 0 0) (Ts := wsX0_layKeys) (own := RX0) (D := D) (Y := Y) (W0 := cl_grd Y (act 3) (act 4) 80 3 240 s0_3.2.1) (wl := cl_cat Y act s0_3 ++ (cl_lod Y ald ld)) (v := some (.int (m_X1_get 80 3 240 s0_3.2.1 record (nI k3)))) (st0 := [.int (nI k3), .int record, .ref (act 3)]) (As := [.int record, .int (nI k3)]) (rest := []) (C := RX1) (b := act 3) ⟨hx, hb, hml, hown, hts⟩ (ct_X1_get l D Y (act 3) (act 4) 80 3 240 s0_3.2.1 record (nI k3) (by decide)) (cwV 2 hts gX0_layKeys_X1_get rfl rfl rfl (by decide +kernel) ⟨Nat.le_of_ble_eq_true rfl, Nat.le_of_ble_eq_true rfl⟩) hG hP hD [3, 4] rfl (by decide +kernel) 3 1 (qc := (RX1, TX1, 3)) (fs := [.int 80, .int 3, .ref (act 4)]) rfl rfl rfl rfl hl.1 rfl (Nat.le_of_ble_eq_true rfl) dX0_layKeys_16 ⟨Nat.zero_le _, Nat.zero_le _⟩ ?_
        change W _ _ _ _ _ _ _ _ _ _ _ _ _ _ _ (F0 m 19 _ (.int (m_X1_get 80 3 240 s0_3.2.1 record (nI k3)) :: []))
        refine lv_iconst (v := (-1)) hx hb dX0_layKeys_19 (by decide) ?_
        refine lv_icmp_ne (tgt := 43) hx hb dX0_layKeys_20 (by decide) (fun c_4 => ?_) (fun c_4 => ?_)
        · refine lv_iinc (v := nI (k3 + 1)) (lv' := [(4, .int (nI (k3 + 1))), (0, .ref (act 0)), (1, .ref (ald 0)), (2, .int load), (3, .int record)]) hx hb dX0_layKeys_43 hl (k := 0) rfl (nI_1 k3) (by decide) rfl (fun ls hl => ?_)
          refine lv_goto (tgt := 3) hx hb dX0_layKeys_46 (by decide) ?_
          exact ih3 (k3 + 1) s0_3 _ _ _ (by omega) (Eq.trans (by simp only [m_X0_layKeys_lp3, eq_false c_4, ↓reduceIte, if_true, if_false]) hres3) hP hD hS (lv_sub hl [0, 1, 2, 3, 4] rfl)
        · refine lv_aload_n hx hb dX0_layKeys_23 rfl (lv_at hl 1 rfl) ?_
          refine va_get (D := D) (ci := 0) (v := .ref (act 3)) (C := RX0) (T := TX0) (N := 7) hx hb hts (fun _ h => List.mem_cons_of_mem _ (List.mem_append_left _ (List.mem_append_left _ (List.mem_append_right _ h)))) hown hG.1 hP 0 rfl rfl 1 (by decide) (hts (.fieldLink RX0 25 "CatalogueLoader$Catalogue" "keys" "LCatalogueLoader$Grid;") (List.mem_of_getElem? (i := 1) rfl)) (fun _ h9 => h9) rfl dX0_layKeys_24 ?_
          refine lv_iload_n hx hb dX0_layKeys_27 rfl (lv_at hl 4 rfl) ?_
          refine lv_iload hx hb dX0_layKeys_28 (lv_at hl 0 rfl) ?_
          refine lv_aload_n hx hb dX0_layKeys_30 rfl (lv_at hl 2 rfl) ?_
          refine va_getN (D := D) (ci := 3) (v := .ref (ald 1)) (C := RX3) (T := TX3) (N := 7) hx hb hts (fun _ h => List.mem_cons_of_mem _ (List.mem_append_left _ (List.mem_append_right _ h))) hown hG.1 hP 15 rfl rfl 0 (by decide) (hG.nest 5 rfl) (fun _ h9 => h9) rfl dX0_layKeys_31 ?_
          refine lv_iload_n hx hb dX0_layKeys_34 rfl (lv_at hl 3 rfl) ?_
          refine lv_iload hx hb dX0_layKeys_35 (lv_at hl 0 rfl) ?_
          refine cq_RV (R := (cq_rm 1 24)) (args := ([.ref (act 0), .ref (ald 0), .int load, .int record] : List Value).toArray) (y := yX1_get) (bytes := cX1_get) (cc := cX0_layKeys) (maxL := 4) (nL := 5) (n := 2) (index := 83) (ret := (some .int)) (ws := wsX1_get) (rm := cq_rm 0 0) (Ts := wsX0_layKeys) (own := RX0) (D := D) (Y := Y) (W0 := cl_grd Y (ald 1) (ald 2) 81 3 243 ld.1) (wl := cl_cat Y act s0_3 ++ (cl_lod Y ald ld)) (v := some (.int (m_X1_get 81 3 243 ld.1 load (nI k3)))) (st0 := [.int (nI k3), .int load, .ref (ald 1), .int (nI k3), .int record, .ref (act 3)]) (As := [.int load, .int (nI k3)]) (rest := [.int (nI k3), .int record, .ref (act 3)]) (C := RX1) (b := ald 1) ⟨hx, hb, hml, hown, hts⟩ (ct_X1_get l D Y (ald 1) (ald 2) 81 3 243 ld.1 load (nI k3) (by decide)) (cwV 2 hts gX0_layKeys_X1_get rfl rfl rfl (by decide +kernel) ⟨Nat.le_of_ble_eq_true rfl, Nat.le_of_ble_eq_true rfl⟩) hG hP hD [16, 17] rfl (by decide +kernel) 16 1 (qc := (RX1, TX1, 3)) (fs := [.int 81, .int 3, .ref (ald 2)]) rfl rfl rfl rfl hl.1 rfl (Nat.le_of_ble_eq_true rfl) dX0_layKeys_37 ⟨Nat.zero_le _, Nat.zero_le _⟩ ?_
          change W _ _ _ _ _ _ _ _ _ _ _ _ _ _ _ (F0 m 40 _ (.int (m_X1_get 81 3 243 ld.1 load (nI k3)) :: [.int (nI k3), .int record, .ref (act 3)]))
          refine cq_WV (R := (cq_rm 1 24)) (args := ([.ref (act 0), .ref (ald 0), .int load, .int record] : List Value).toArray) (y := yX1_set) (bytes := cX1_set) (cc := cX0_layKeys) (maxL := 5) (nL := 5) (n := 3) (index := 89) (ret := none) (ws := wsX1_set) (rm := cq_rm 0 0) (Ts := wsX0_layKeys) (own := RX0) (D := D) (Y := Y) (W0 := cl_grd Y (act 3) (act 4) 80 3 240 s0_3.2.1) (wl := cl_cat Y act s0_3 ++ (cl_lod Y ald ld)) (v := none) (st0 := [.int (m_X1_get 81 3 243 ld.1 load (nI k3)), .int (nI k3), .int record, .ref (act 3)]) (As := [.int record, .int (nI k3), .int (m_X1_get 81 3 243 ld.1 load (nI k3))]) (rest := []) (W1 := cl_grd Y (act 3) (act 4) 80 3 240 (m_X1_set 80 3 240 s0_3.2.1 record (nI k3) (m_X1_get 81 3 243 ld.1 load (nI k3)))) (C := RX1) (b := act 3) (cl_cat Y act (s0_3.1, m_X1_set 80 3 240 s0_3.2.1 record (nI k3) (m_X1_get 81 3 243 ld.1 load (nI k3)), s0_3.2.2.1, s0_3.2.2.2.1, s0_3.2.2.2.2.1, s0_3.2.2.2.2.2.1, s0_3.2.2.2.2.2.2) ++ (cl_lod Y ald ld)) [0, 1, 2, 5, 6, 7, 8, 9, 10, 11, 12, 13, 14, 15, 16, 17, 18, 19, 20, 21, 22, 23, 24, 25] ⟨hx, hb, hml, hown, hts⟩ (ct_X1_set l D Y (act 3) (act 4) 80 3 240 s0_3.2.1 record (nI k3) (m_X1_get 81 3 243 ld.1 load (nI k3)) (by decide)) (cwV 3 hts gX0_layKeys_X1_set rfl rfl rfl (by decide +kernel) ⟨Nat.le_of_ble_eq_true rfl, Nat.le_of_ble_eq_true rfl⟩) hG hP hD hS [3, 4] rfl (by decide +kernel) ⟨rfl, ⟨[(act 0, .inr (0, [.ref (act 1), .ref (act 3), .ref (act 5), .ref (act 7), .ref (act 9), .ref (act 11), .ref (act 13)])), (act 1, .inr (4, [.ref (act 2)])), (act 2, .inl (Y.1, 80, .inl s0_3.1)), (act 5, .inr (1, [.int 80, .int 4, .ref (act 6)])), (act 6, .inl (Y.1, 320, .inl s0_3.2.2.1)), (act 7, .inr (1, [.int 80, .int 4, .ref (act 8)])), (act 8, .inl (Y.1, 320, .inl s0_3.2.2.2.1)), (act 9, .inr (1, [.int 80, .int 4, .ref (act 10)])), (act 10, .inl (Y.1, 320, .inl s0_3.2.2.2.2.1)), (act 11, .inr (4, [.ref (act 12)])), (act 12, .inl (Y.1, 80, .inl s0_3.2.2.2.2.2.1)), (act 13, .inr (4, [.ref (act 14)])), (act 14, .inl (Y.1, 80, .inl s0_3.2.2.2.2.2.2)), (ald 0, .inr (3, [.ref (ald 1), .ref (ald 3), .ref (ald 5), .ref (ald 7), .ref (ald 9), .int ld.2.2.2.2.2.1, .int ld.2.2.2.2.2.2])), (ald 1, .inr (1, [.int 81, .int 3, .ref (ald 2)])), (ald 2, .inl (Y.1, 243, .inl ld.1)), (ald 3, .inr (1, [.int 81, .int 4, .ref (ald 4)])), (ald 4, .inl (Y.1, 324, .inl ld.2.1)), (ald 5, .inr (4, [.ref (ald 6)])), (ald 6, .inl (Y.1, 80, .inl ld.2.2.1)), (ald 7, .inr (4, [.ref (ald 8)])), (ald 8, .inl (Y.1, 80, .inl ld.2.2.2.1)), (ald 9, .inr (4, [.ref (ald 10)])), (ald 10, .inl (Y.1, 10, .inl ld.2.2.2.2.1))], rfl, rfl⟩, 26, rfl, by decide +kernel⟩ ⟨[act 3, act 4], rfl, rfl⟩ 3 1 (qc := (RX1, TX1, 3)) (fs := [.int 80, .int 3, .ref (act 4)]) rfl rfl rfl rfl hl.1 rfl (Nat.le_of_ble_eq_true rfl) dX0_layKeys_40 ⟨Nat.zero_le _, Nat.zero_le _⟩ (fun H locs hP hD hS => ?_)
          change W _ _ _ _ _ _ _ _ _ _ _ _ _ _ _ (F0 m 43 _ [])
          refine lv_iinc (v := nI (k3 + 1)) (lv' := [(4, .int (nI (k3 + 1))), (0, .ref (act 0)), (1, .ref (ald 0)), (2, .int load), (3, .int record)]) hx hb dX0_layKeys_43 hl (k := 0) rfl (nI_1 k3) (by decide) rfl (fun ls hl => ?_)
          refine lv_goto (tgt := 3) hx hb dX0_layKeys_46 (by decide) ?_
          exact ih3 (k3 + 1) (s0_3.1, m_X1_set 80 3 240 s0_3.2.1 record (nI k3) (m_X1_get 81 3 243 ld.1 load (nI k3)), s0_3.2.2.1, s0_3.2.2.2.1, s0_3.2.2.2.2.1, s0_3.2.2.2.2.2.1, s0_3.2.2.2.2.2.2) _ _ _ (by omega) (Eq.trans (by simp only [m_X0_layKeys_lp3, eq_true c_4, ↓reduceIte, if_true, if_false]) hres3) hP hD hS (lv_sub hl [0, 1, 2, 3, 4] rfl)
  exact lp3 3 0 ct _ _ _ (Nat.zero_add _) efin_1.symm hP hD hS (lv_sub hl [0, 1, 2, 3, 4] rfl)

def m_X0_values_lp33 (ct : CatS) (record : Int32) (fin_1 : Int32) : Nat → Nat → Int32 → Int32
  | 0, k33, x2_33 => x2_33
  | n33 + 1, k33, x2_33 => (let x_6 := x2_33 + (jmax 0 (m_X1_get 80 4 320 ct.2.2.1 record (nI k33))); m_X0_values_lp33 ct record fin_1 n33 (k33 + 1) x_6)
def m_X0_values_lp4 (ct : CatS) (record : Int32) : Nat → Nat → Int32 → Int32
  | 0, k4, x2_4 => x2_4
  | n4 + 1, k4, x2_4 => (let x_8 := x2_4 + (jmax 0 (m_X1_get 80 3 240 ct.2.1 record (nI k4))); m_X0_values_lp4 ct record n4 (k4 + 1) x_8)
def m_X0_values (ct : CatS) (record : Int32) : Int32 := (let fin_1 := m_X0_values_lp4 ct record 3 0 0; (let fin_3 := m_X0_values_lp33 ct record fin_1 4 0 fin_1; fin_3))
set_option maxHeartbeats 4000000 in
set_option maxRecDepth 100000 in
theorem ct_X0_values (l : Launch) (D : va_G) (Y : cq_Y) (act : Nat → Nat) (ct : CatS) (record : Int32) : cq_MR l yX0_values wsX0_values (cq_rm 1 23) D Y (cl_cat Y act ct) [.ref (act 0), .int record] (some (.int (m_X0_values ct record))) := by
  refine cq_body (cc := cX0_values) (maxL := 4) (ret := (some .int)) (by decide) rfl (Nat.le_of_ble_eq_true rfl) ?_
  intro p e s m below meth c hE hP hG hD ls hl
  obtain ⟨hx, hb, hr, hml, hts, hown, hnm, hlocks⟩ := hE
  have hown : s.vm.findClass RX0 = some m.cls := hown
  have hl : lv_has ls 4 [(0, .ref (act 0)), (1, .int record)] := hl
  refine lv_iconst (v := 0) hx hb dX0_values_0 (by decide) ?_
  refine lv_istore_n (lv' := [(2, .int 0), (0, .ref (act 0)), (1, .int record)]) hx hb dX0_values_1 rfl hl (by decide) rfl (fun ls hl => ?_)
  refine lv_iconst (v := 0) hx hb dX0_values_2 (by decide) ?_
  refine lv_istore_n (lv' := [(3, .int 0), (2, .int 0), (0, .ref (act 0)), (1, .int record)]) hx hb dX0_values_3 rfl hl (by decide) rfl (fun ls hl => ?_)
  obtain ⟨fin_1, efin_1⟩ : ∃ z, z = m_X0_values_lp4 ct record 3 0 0 := ⟨_, rfl⟩
  have lp4 : ∀ (n4 k4 : Nat) (x2_4 : Int32) (ls : Array Slot), k4 + n4 = 3 → m_X0_values_lp4 ct record n4 k4 x2_4 = fin_1 → lv_has ls 4 [(3, .int (nI k4)), (2, .int x2_4), (0, .ref (act 0)), (1, .int record)] → W p l e (cq_rm 1 23) s m ([.ref (act 0), .int record] : List Value).toArray below meth c s.heap [] 0 0 (MQ below (cq_R (some (.int (m_X0_values ct record)))) ([.ref (act 0), .int record] : List Value).toArray s 0 0 (fun _ => False)) (F0 m 4 ls []) := by
    intro n4; induction n4 with
    | zero =>
      intro k4 x2_4 ls hkn hres4 hl
      have hz : 3 ≤ nI k4 := cq_z (N := 3) rfl (by omega) (by omega)
      have e9 : fin_1 = x2_4 := hres4.symm
      subst e9
      refine lv_iload_n hx hb dX0_values_4 rfl (lv_at hl 0 rfl) ?_
      refine lv_iconst (v := 3) hx hb dX0_values_5 (by decide) ?_
      refine lv_icmp_ge (tgt := 31) hx hb dX0_values_6 (by decide) (fun c_2 => ?_) (fun c_2 => ?_)
      · refine lv_iconst (v := 0) hx hb dX0_values_31 (by decide) ?_
        refine lv_istore_n (lv' := [(3, .int 0), (2, .int fin_1), (0, .ref (act 0)), (1, .int record)]) hx hb dX0_values_32 rfl hl (by decide) rfl (fun ls hl => ?_)
        obtain ⟨fin_3, efin_3⟩ : ∃ z, z = m_X0_values_lp33 ct record fin_1 4 0 fin_1 := ⟨_, rfl⟩
        have lp33 : ∀ (n33 k33 : Nat) (x2_33 : Int32) (ls : Array Slot), k33 + n33 = 4 → m_X0_values_lp33 ct record fin_1 n33 k33 x2_33 = fin_3 → lv_has ls 4 [(3, .int (nI k33)), (2, .int x2_33), (0, .ref (act 0)), (1, .int record)] → W p l e (cq_rm 1 23) s m ([.ref (act 0), .int record] : List Value).toArray below meth c s.heap [] 0 0 (MQ below (cq_R (some (.int (m_X0_values ct record)))) ([.ref (act 0), .int record] : List Value).toArray s 0 0 (fun _ => False)) (F0 m 33 ls []) := by
          intro n33; induction n33 with
          | zero =>
            intro k33 x2_33 ls hkn hres33 hl
            have hz : 4 ≤ nI k33 := cq_z (N := 4) rfl (by omega) (by omega)
            have e9 : fin_3 = x2_33 := hres33.symm
            subst e9
            refine lv_iload_n hx hb dX0_values_33 rfl (lv_at hl 0 rfl) ?_
            refine lv_iconst (v := 4) hx hb dX0_values_34 (by decide) ?_
            refine lv_icmp_ge (tgt := 60) hx hb dX0_values_35 (by decide) (fun c_4 => ?_) (fun c_4 => ?_)
            · refine lv_iload_n hx hb dX0_values_60 rfl (lv_at hl 1 rfl) ?_
              exact cq_rI hx hb hr hlocks (vp_nar_int _) (by subst efin_3; subst efin_1; simp only [m_X0_values, ↓reduceIte, if_true, if_false]) dX0_values_61
            · exact absurd hz c_4
          | succ n33 ih33 =>
            intro k33 x2_33 ls hkn hres33 hl
            have hz : ¬ (4 ≤ nI k33) := cq_s (N := 4) rfl (by omega) (by omega)
            refine lv_iload_n hx hb dX0_values_33 rfl (lv_at hl 0 rfl) ?_
            refine lv_iconst (v := 4) hx hb dX0_values_34 (by decide) ?_
            refine lv_icmp_ge (tgt := 60) hx hb dX0_values_35 (by decide) (fun c_5 => ?_) (fun c_5 => ?_)
            · exact absurd c_5 hz
            · refine lv_iload_n hx hb dX0_values_38 rfl (lv_at hl 1 rfl) ?_
              refine lv_iconst (v := 0) hx hb dX0_values_39 (by decide) ?_
              refine lv_aload_n hx hb dX0_values_40 rfl (lv_at hl 2 rfl) ?_
              refine va_get (D := D) (ci := 0) (v := .ref (act 5)) (C := RX0) (T := TX0) (N := 7) hx hb hts (fun _ h => List.mem_cons_of_mem _ (List.mem_append_left _ (List.mem_append_right _ h))) hown hG.1 hP 0 rfl rfl 2 (by decide) (hts (.fieldLink RX0 29 "CatalogueLoader$Catalogue" "fields" "LCatalogueLoader$Grid;") (List.mem_of_getElem? (i := 6) rfl)) (fun _ h9 => h9) rfl dX0_values_41 ?_
              refine lv_iload_n hx hb dX0_values_44 rfl (lv_at hl 3 rfl) ?_
              refine lv_iload_n hx hb dX0_values_45 rfl (lv_at hl 0 rfl) ?_
              refine cq_RV (R := (cq_rm 1 23)) (args := ([.ref (act 0), .int record] : List Value).toArray) (y := yX1_get) (bytes := cX1_get) (cc := cX0_values) (maxL := 4) (nL := 4) (n := 2) (index := 83) (ret := (some .int)) (ws := wsX1_get) (rm := cq_rm 0 0) (Ts := wsX0_values) (own := RX0) (D := D) (Y := Y) (W0 := cl_grd Y (act 5) (act 6) 80 4 320 ct.2.2.1) (wl := cl_cat Y act ct) (v := some (.int (m_X1_get 80 4 320 ct.2.2.1 record (nI k33)))) (st0 := [.int (nI k33), .int record, .ref (act 5), .int 0, .int x2_33]) (As := [.int record, .int (nI k33)]) (rest := [.int 0, .int x2_33]) (C := RX1) (b := act 5) ⟨hx, hb, hml, hown, hts⟩ (ct_X1_get l D Y (act 5) (act 6) 80 4 320 ct.2.2.1 record (nI k33) (by decide)) (cwV 2 hts gX0_values_X1_get rfl rfl rfl (by decide +kernel) ⟨Nat.le_of_ble_eq_true rfl, Nat.le_of_ble_eq_true rfl⟩) hG hP hD [5, 6] rfl (by decide +kernel) 5 1 (qc := (RX1, TX1, 3)) (fs := [.int 80, .int 4, .ref (act 6)]) rfl rfl rfl rfl hl.1 rfl (Nat.le_of_ble_eq_true rfl) dX0_values_46 ⟨Nat.zero_le _, Nat.zero_le _⟩ ?_
              change W _ _ _ _ _ _ _ _ _ _ _ _ _ _ _ (F0 m 49 _ (.int (m_X1_get 80 4 320 ct.2.2.1 record (nI k33)) :: [.int 0, .int x2_33]))
              refine va_mmax (R := (cq_rm 1 23)) hx hb (by rw [hml]; exact hl.1.symm) hown (hts (.methodLink RX0 104 Lib.Math.max.name) (List.mem_of_getElem? (i := 2) rfl)) (hts _ (List.mem_of_getElem? (i := 3) rfl)) (hts _ (List.mem_of_getElem? (i := 4) rfl)) (hts _ (List.mem_of_getElem? (i := 5) rfl)) (Nat.le_of_ble_eq_true rfl) (Nat.le_of_ble_eq_true rfl) (Nat.zero_le _) (Nat.zero_le _) dX0_values_49 ?_
              change W _ _ _ _ _ _ _ _ _ _ _ _ _ _ _ (F0 m 52 _ (.int (jmax 0 (m_X1_get 80 4 320 ct.2.2.1 record (nI k33))) :: _))
              refine lv_iadd hx hb dX0_values_52 ?_
              refine lv_topi (fun x_6 ex_6 => ?_)
              refine lv_istore_n (lv' := [(2, .int x_6), (3, .int (nI k33)), (0, .ref (act 0)), (1, .int record)]) hx hb dX0_values_53 rfl hl (by decide) rfl (fun ls hl => ?_)
              refine lv_iinc (v := nI (k33 + 1)) (lv' := [(3, .int (nI (k33 + 1))), (2, .int x_6), (0, .ref (act 0)), (1, .int record)]) hx hb dX0_values_54 hl (k := 1) rfl (nI_1 k33) (by decide) rfl (fun ls hl => ?_)
              refine lv_goto (tgt := 33) hx hb dX0_values_57 (by decide) ?_
              exact ih33 (k33 + 1) x_6 _ (by omega) (Eq.trans (by subst ex_6; subst efin_1; simp only [m_X0_values_lp33, ↓reduceIte, if_true, if_false]) hres33) (lv_sub hl [0, 1, 2, 3] rfl)
        exact lp33 4 0 fin_1 _ (Nat.zero_add _) efin_3.symm (lv_sub hl [0, 1, 2, 3] rfl)
      · exact absurd hz c_2
    | succ n4 ih4 =>
      intro k4 x2_4 ls hkn hres4 hl
      have hz : ¬ (3 ≤ nI k4) := cq_s (N := 3) rfl (by omega) (by omega)
      refine lv_iload_n hx hb dX0_values_4 rfl (lv_at hl 0 rfl) ?_
      refine lv_iconst (v := 3) hx hb dX0_values_5 (by decide) ?_
      refine lv_icmp_ge (tgt := 31) hx hb dX0_values_6 (by decide) (fun c_7 => ?_) (fun c_7 => ?_)
      · exact absurd c_7 hz
      · refine lv_iload_n hx hb dX0_values_9 rfl (lv_at hl 1 rfl) ?_
        refine lv_iconst (v := 0) hx hb dX0_values_10 (by decide) ?_
        refine lv_aload_n hx hb dX0_values_11 rfl (lv_at hl 2 rfl) ?_
        refine va_get (D := D) (ci := 0) (v := .ref (act 3)) (C := RX0) (T := TX0) (N := 7) hx hb hts (fun _ h => List.mem_cons_of_mem _ (List.mem_append_left _ (List.mem_append_right _ h))) hown hG.1 hP 0 rfl rfl 1 (by decide) (hts (.fieldLink RX0 25 "CatalogueLoader$Catalogue" "keys" "LCatalogueLoader$Grid;") (List.mem_of_getElem? (i := 1) rfl)) (fun _ h9 => h9) rfl dX0_values_12 ?_
        refine lv_iload_n hx hb dX0_values_15 rfl (lv_at hl 3 rfl) ?_
        refine lv_iload_n hx hb dX0_values_16 rfl (lv_at hl 0 rfl) ?_
        refine cq_RV (R := (cq_rm 1 23)) (args := ([.ref (act 0), .int record] : List Value).toArray) (y := yX1_get) (bytes := cX1_get) (cc := cX0_values) (maxL := 4) (nL := 4) (n := 2) (index := 83) (ret := (some .int)) (ws := wsX1_get) (rm := cq_rm 0 0) (Ts := wsX0_values) (own := RX0) (D := D) (Y := Y) (W0 := cl_grd Y (act 3) (act 4) 80 3 240 ct.2.1) (wl := cl_cat Y act ct) (v := some (.int (m_X1_get 80 3 240 ct.2.1 record (nI k4)))) (st0 := [.int (nI k4), .int record, .ref (act 3), .int 0, .int x2_4]) (As := [.int record, .int (nI k4)]) (rest := [.int 0, .int x2_4]) (C := RX1) (b := act 3) ⟨hx, hb, hml, hown, hts⟩ (ct_X1_get l D Y (act 3) (act 4) 80 3 240 ct.2.1 record (nI k4) (by decide)) (cwV 2 hts gX0_values_X1_get rfl rfl rfl (by decide +kernel) ⟨Nat.le_of_ble_eq_true rfl, Nat.le_of_ble_eq_true rfl⟩) hG hP hD [3, 4] rfl (by decide +kernel) 3 1 (qc := (RX1, TX1, 3)) (fs := [.int 80, .int 3, .ref (act 4)]) rfl rfl rfl rfl hl.1 rfl (Nat.le_of_ble_eq_true rfl) dX0_values_17 ⟨Nat.zero_le _, Nat.zero_le _⟩ ?_
        change W _ _ _ _ _ _ _ _ _ _ _ _ _ _ _ (F0 m 20 _ (.int (m_X1_get 80 3 240 ct.2.1 record (nI k4)) :: [.int 0, .int x2_4]))
        refine va_mmax (R := (cq_rm 1 23)) hx hb (by rw [hml]; exact hl.1.symm) hown (hts (.methodLink RX0 104 Lib.Math.max.name) (List.mem_of_getElem? (i := 2) rfl)) (hts _ (List.mem_of_getElem? (i := 3) rfl)) (hts _ (List.mem_of_getElem? (i := 4) rfl)) (hts _ (List.mem_of_getElem? (i := 5) rfl)) (Nat.le_of_ble_eq_true rfl) (Nat.le_of_ble_eq_true rfl) (Nat.zero_le _) (Nat.zero_le _) dX0_values_20 ?_
        change W _ _ _ _ _ _ _ _ _ _ _ _ _ _ _ (F0 m 23 _ (.int (jmax 0 (m_X1_get 80 3 240 ct.2.1 record (nI k4))) :: _))
        refine lv_iadd hx hb dX0_values_23 ?_
        refine lv_topi (fun x_8 ex_8 => ?_)
        refine lv_istore_n (lv' := [(2, .int x_8), (3, .int (nI k4)), (0, .ref (act 0)), (1, .int record)]) hx hb dX0_values_24 rfl hl (by decide) rfl (fun ls hl => ?_)
        refine lv_iinc (v := nI (k4 + 1)) (lv' := [(3, .int (nI (k4 + 1))), (2, .int x_8), (0, .ref (act 0)), (1, .int record)]) hx hb dX0_values_25 hl (k := 1) rfl (nI_1 k4) (by decide) rfl (fun ls hl => ?_)
        refine lv_goto (tgt := 4) hx hb dX0_values_28 (by decide) ?_
        exact ih4 (k4 + 1) x_8 _ (by omega) (Eq.trans (by subst ex_8; simp only [m_X0_values_lp4, ↓reduceIte, if_true, if_false]) hres4) (lv_sub hl [0, 1, 2, 3] rfl)
  exact lp4 3 0 0 _ (Nat.zero_add _) efin_1.symm (lv_sub hl [0, 1, 2, 3] rfl)

def m_X0_sum_lp4 (ct : CatS) : Nat → Nat → Int32 → Int32
  | 0, k4, x1_4 => x1_4
  | n4 + 1, k4, x1_4 => (if m_X0_has ct (nI k4) = 0 then m_X0_sum_lp4 ct n4 (k4 + 1) x1_4 else (let x_5 := x1_4 + (((1 + (nI k4)) * (m_X0_values ct (nI k4))) + (m_X4_get 80 ct.2.2.2.2.2.1 (nI k4))); m_X0_sum_lp4 ct n4 (k4 + 1) x_5))
def m_X0_sum (ct : CatS) : Int32 := (let fin_1 := m_X0_sum_lp4 ct 80 0 0; fin_1)
set_option maxHeartbeats 4000000 in
set_option maxRecDepth 100000 in
theorem ct_X0_sum (l : Launch) (D : va_G) (Y : cq_Y) (act : Nat → Nat) (ct : CatS) : cq_MR l yX0_sum wsX0_sum (cq_rm 2 46) D Y (cl_cat Y act ct) [.ref (act 0)] (some (.int (m_X0_sum ct))) := by
  refine cq_body (cc := cX0_sum) (maxL := 3) (ret := (some .int)) (by decide) rfl (Nat.le_of_ble_eq_true rfl) ?_
  intro p e s m below meth c hE hP hG hD ls hl
  obtain ⟨hx, hb, hr, hml, hts, hown, hnm, hlocks⟩ := hE
  have hown : s.vm.findClass RX0 = some m.cls := hown
  have hl : lv_has ls 3 [(0, .ref (act 0))] := hl
  refine lv_iconst (v := 0) hx hb dX0_sum_0 (by decide) ?_
  refine lv_istore_n (lv' := [(1, .int 0), (0, .ref (act 0))]) hx hb dX0_sum_1 rfl hl (by decide) rfl (fun ls hl => ?_)
  refine lv_iconst (v := 0) hx hb dX0_sum_2 (by decide) ?_
  refine lv_istore_n (lv' := [(2, .int 0), (1, .int 0), (0, .ref (act 0))]) hx hb dX0_sum_3 rfl hl (by decide) rfl (fun ls hl => ?_)
  obtain ⟨fin_1, efin_1⟩ : ∃ z, z = m_X0_sum_lp4 ct 80 0 0 := ⟨_, rfl⟩
  have lp4 : ∀ (n4 k4 : Nat) (x1_4 : Int32) (ls : Array Slot), k4 + n4 = 80 → m_X0_sum_lp4 ct n4 k4 x1_4 = fin_1 → lv_has ls 3 [(2, .int (nI k4)), (1, .int x1_4), (0, .ref (act 0))] → W p l e (cq_rm 2 46) s m ([.ref (act 0)] : List Value).toArray below meth c s.heap [] 0 0 (MQ below (cq_R (some (.int (m_X0_sum ct)))) ([.ref (act 0)] : List Value).toArray s 0 0 (fun _ => False)) (F0 m 4 ls []) := by
    intro n4; induction n4 with
    | zero =>
      intro k4 x1_4 ls hkn hres4 hl
      have hz : 80 ≤ nI k4 := cq_z (N := 80) rfl (by omega) (by omega)
      have e9 : fin_1 = x1_4 := hres4.symm
      subst e9
      refine lv_iload_n hx hb dX0_sum_4 rfl (lv_at hl 0 rfl) ?_
      refine lv_bipush (v := 80) hx hb dX0_sum_5 (by decide) ?_
      refine lv_icmp_ge (tgt := 45) hx hb dX0_sum_7 (by decide) (fun c_2 => ?_) (fun c_2 => ?_)
      · refine lv_iload_n hx hb dX0_sum_45 rfl (lv_at hl 1 rfl) ?_
        exact cq_rI hx hb hr hlocks (vp_nar_int _) (by subst efin_1; simp only [m_X0_sum, ↓reduceIte, if_true, if_false]) dX0_sum_46
      · exact absurd hz c_2
    | succ n4 ih4 =>
      intro k4 x1_4 ls hkn hres4 hl
      have hz : ¬ (80 ≤ nI k4) := cq_s (N := 80) rfl (by omega) (by omega)
      refine lv_iload_n hx hb dX0_sum_4 rfl (lv_at hl 0 rfl) ?_
      refine lv_bipush (v := 80) hx hb dX0_sum_5 (by decide) ?_
      refine lv_icmp_ge (tgt := 45) hx hb dX0_sum_7 (by decide) (fun c_3 => ?_) (fun c_3 => ?_)
      · exact absurd c_3 hz
      · refine lv_aload_n hx hb dX0_sum_10 rfl (lv_at hl 2 rfl) ?_
        refine lv_iload_n hx hb dX0_sum_11 rfl (lv_at hl 0 rfl) ?_
        refine cq_RV (R := (cq_rm 2 46)) (args := ([.ref (act 0)] : List Value).toArray) (y := yX0_has) (bytes := cX0_has) (cc := cX0_sum) (maxL := 2) (nL := 3) (n := 1) (index := 53) (ret := (some .boolean)) (ws := wsX0_has) (rm := cq_rm 1 21) (Ts := wsX0_sum) (own := RX0) (D := D) (Y := Y) (W0 := cl_cat Y act ct) (wl := cl_cat Y act ct) (v := some (.int (m_X0_has ct (nI k4)))) (st0 := [.int (nI k4), .ref (act 0)]) (As := [.int (nI k4)]) (rest := []) (C := RX0) (b := act 0) ⟨hx, hb, hml, hown, hts⟩ (ct_X0_has l D Y act ct (nI k4)) (cwV 1 hts gX0_sum_X0_has rfl rfl rfl (by decide +kernel) ⟨Nat.le_of_ble_eq_true rfl, Nat.le_of_ble_eq_true rfl⟩) hG hP hD [0, 1, 2, 3, 4, 5, 6, 7, 8, 9, 10, 11, 12, 13, 14] rfl (by decide +kernel) 0 0 (qc := (RX0, TX0, 7)) (fs := [.ref (act 1), .ref (act 3), .ref (act 5), .ref (act 7), .ref (act 9), .ref (act 11), .ref (act 13)]) rfl rfl rfl rfl hl.1 rfl (Nat.le_of_ble_eq_true rfl) dX0_sum_12 ⟨Nat.zero_le _, Nat.zero_le _⟩ ?_
        change W _ _ _ _ _ _ _ _ _ _ _ _ _ _ _ (F0 m 15 _ (.int (m_X0_has ct (nI k4)) :: []))
        refine lv_if_eq (tgt := 39) hx hb dX0_sum_15 (by decide) (fun c_4 => ?_) (fun c_4 => ?_)
        · refine lv_iinc (v := nI (k4 + 1)) (lv' := [(2, .int (nI (k4 + 1))), (1, .int x1_4), (0, .ref (act 0))]) hx hb dX0_sum_39 hl (k := 0) rfl (nI_1 k4) (by decide) rfl (fun ls hl => ?_)
          refine lv_goto (tgt := 4) hx hb dX0_sum_42 (by decide) ?_
          exact ih4 (k4 + 1) x1_4 _ (by omega) (Eq.trans (by simp only [m_X0_sum_lp4, eq_true c_4, ↓reduceIte, if_true, if_false]) hres4) (lv_sub hl [0, 1, 2] rfl)
        · refine lv_iload_n hx hb dX0_sum_18 rfl (lv_at hl 1 rfl) ?_
          refine lv_iconst (v := 1) hx hb dX0_sum_19 (by decide) ?_
          refine lv_iload_n hx hb dX0_sum_20 rfl (lv_at hl 0 rfl) ?_
          refine lv_iadd hx hb dX0_sum_21 ?_
          refine lv_aload_n hx hb dX0_sum_22 rfl (lv_at hl 2 rfl) ?_
          refine lv_iload_n hx hb dX0_sum_23 rfl (lv_at hl 0 rfl) ?_
          refine cq_RV (R := (cq_rm 2 46)) (args := ([.ref (act 0)] : List Value).toArray) (y := yX0_values) (bytes := cX0_values) (cc := cX0_sum) (maxL := 4) (nL := 3) (n := 1) (index := 101) (ret := (some .int)) (ws := wsX0_values) (rm := cq_rm 1 23) (Ts := wsX0_sum) (own := RX0) (D := D) (Y := Y) (W0 := cl_cat Y act ct) (wl := cl_cat Y act ct) (v := some (.int (m_X0_values ct (nI k4)))) (st0 := [.int (nI k4), .ref (act 0), .int (1 + (nI k4)), .int x1_4]) (As := [.int (nI k4)]) (rest := [.int (1 + (nI k4)), .int x1_4]) (C := RX0) (b := act 0) ⟨hx, hb, hml, hown, hts⟩ (ct_X0_values l D Y act ct (nI k4)) (cwV 1 hts gX0_sum_X0_values rfl rfl rfl (by decide +kernel) ⟨Nat.le_of_ble_eq_true rfl, Nat.le_of_ble_eq_true rfl⟩) hG hP hD [0, 1, 2, 3, 4, 5, 6, 7, 8, 9, 10, 11, 12, 13, 14] rfl (by decide +kernel) 0 0 (qc := (RX0, TX0, 7)) (fs := [.ref (act 1), .ref (act 3), .ref (act 5), .ref (act 7), .ref (act 9), .ref (act 11), .ref (act 13)]) rfl rfl rfl rfl hl.1 rfl (Nat.le_of_ble_eq_true rfl) dX0_sum_24 ⟨Nat.zero_le _, Nat.zero_le _⟩ ?_
          change W _ _ _ _ _ _ _ _ _ _ _ _ _ _ _ (F0 m 27 _ (.int (m_X0_values ct (nI k4)) :: [.int (1 + (nI k4)), .int x1_4]))
          refine lv_imul hx hb dX0_sum_27 ?_
          refine lv_aload_n hx hb dX0_sum_28 rfl (lv_at hl 2 rfl) ?_
          refine va_get (D := D) (ci := 0) (v := .ref (act 11)) (C := RX0) (T := TX0) (N := 7) hx hb hts (fun _ h => List.mem_cons_of_mem _ (List.mem_append_left _ (List.mem_append_left _ (List.mem_append_right _ h)))) hown hG.1 hP 0 rfl rfl 5 (by decide) (hts (.fieldLink RX0 38 "CatalogueLoader$Catalogue" "held" "LCatalogueLoader$Row;") (List.mem_of_getElem? (i := 1) rfl)) (fun _ h9 => h9) rfl dX0_sum_29 ?_
          refine lv_iload_n hx hb dX0_sum_32 rfl (lv_at hl 0 rfl) ?_
          refine cq_RV (R := (cq_rm 2 46)) (args := ([.ref (act 0)] : List Value).toArray) (y := yX4_get) (bytes := cX4_get) (cc := cX0_sum) (maxL := 2) (nL := 3) (n := 1) (index := 49) (ret := (some .int)) (ws := wsX4_get) (rm := cq_rm 0 0) (Ts := wsX0_sum) (own := RX0) (D := D) (Y := Y) (W0 := cl_row Y (act 11) (act 12) 80 ct.2.2.2.2.2.1) (wl := cl_cat Y act ct) (v := some (.int (m_X4_get 80 ct.2.2.2.2.2.1 (nI k4)))) (st0 := [.int (nI k4), .ref (act 11), .int ((1 + (nI k4)) * (m_X0_values ct (nI k4))), .int x1_4]) (As := [.int (nI k4)]) (rest := [.int ((1 + (nI k4)) * (m_X0_values ct (nI k4))), .int x1_4]) (C := RX4) (b := act 11) ⟨hx, hb, hml, hown, hts⟩ (ct_X4_get l D Y (act 11) (act 12) 80 ct.2.2.2.2.2.1 (nI k4) (by decide)) (cwV 1 hts gX0_sum_X4_get rfl rfl rfl (by decide +kernel) ⟨Nat.le_of_ble_eq_true rfl, Nat.le_of_ble_eq_true rfl⟩) hG hP hD [11, 12] rfl (by decide +kernel) 11 4 (qc := (RX4, TX4, 1)) (fs := [.ref (act 12)]) rfl rfl rfl rfl hl.1 rfl (Nat.le_of_ble_eq_true rfl) dX0_sum_33 ⟨Nat.zero_le _, Nat.zero_le _⟩ ?_
          change W _ _ _ _ _ _ _ _ _ _ _ _ _ _ _ (F0 m 36 _ (.int (m_X4_get 80 ct.2.2.2.2.2.1 (nI k4)) :: [.int ((1 + (nI k4)) * (m_X0_values ct (nI k4))), .int x1_4]))
          refine lv_iadd hx hb dX0_sum_36 ?_
          refine lv_iadd hx hb dX0_sum_37 ?_
          refine lv_topi (fun x_5 ex_5 => ?_)
          refine lv_istore_n (lv' := [(1, .int x_5), (2, .int (nI k4)), (0, .ref (act 0))]) hx hb dX0_sum_38 rfl hl (by decide) rfl (fun ls hl => ?_)
          refine lv_iinc (v := nI (k4 + 1)) (lv' := [(2, .int (nI (k4 + 1))), (1, .int x_5), (0, .ref (act 0))]) hx hb dX0_sum_39 hl (k := 1) rfl (nI_1 k4) (by decide) rfl (fun ls hl => ?_)
          refine lv_goto (tgt := 4) hx hb dX0_sum_42 (by decide) ?_
          exact ih4 (k4 + 1) x_5 _ (by omega) (Eq.trans (by subst ex_5; simp only [m_X0_sum_lp4, eq_false c_4, ↓reduceIte, if_true, if_false]) hres4) (lv_sub hl [0, 1, 2] rfl)
  exact lp4 80 0 0 _ (Nat.zero_add _) efin_1.symm (lv_sub hl [0, 1, 2] rfl)

def m_X0_clear (ct : CatS) : CatS := (m_X4_fill 80 ct.1 0, m_X1_fill 80 3 240 ct.2.1 (-1), m_X1_fill 80 4 320 ct.2.2.1 (-1), m_X1_fill 80 4 320 ct.2.2.2.1 (-1), m_X1_fill 80 4 320 ct.2.2.2.2.1 0, m_X4_fill 80 ct.2.2.2.2.2.1 0, m_X4_fill 80 ct.2.2.2.2.2.2 (-1))
set_option maxHeartbeats 4000000 in
set_option maxRecDepth 100000 in
theorem ct_X0_clear (l : Launch) (D : va_G) (Y : cq_Y) (act : Nat → Nat) (ct : CatS) : cq_MW l yX0_clear wsX0_clear (cq_rm 2 44) D Y (cl_cat Y act ct) [.ref (act 0)] (none) (cl_cat Y act (m_X0_clear ct)) := by
  refine cq_body (cc := cX0_clear) (maxL := 1) (ret := none) (by decide) rfl (Nat.le_of_ble_eq_true rfl) ?_
  intro p e s m below meth c hE hP hG hD ls hl
  obtain ⟨hx, hb, hr, hml, hts, hown, hnm, hlocks⟩ := hE
  have hown : s.vm.findClass RX0 = some m.cls := hown
  have hS : va_S (cq_in (cl_cat Y act ct)) s.heap s.heap [] := va_S.rf
  have hl : lv_has ls 1 [(0, .ref (act 0))] := hl
  refine lv_aload_n hx hb dX0_clear_0 rfl (lv_at hl 0 rfl) ?_
  refine va_get (D := D) (ci := 0) (v := .ref (act 1)) (C := RX0) (T := TX0) (N := 7) hx hb hts (fun _ h => List.mem_cons_of_mem _ (List.mem_append_left _ (List.mem_append_left _ (List.mem_append_right _ h)))) hown hG.1 hP 0 rfl rfl 0 (by decide) (hts (.fieldLink RX0 14 "CatalogueLoader$Catalogue" "there" "LCatalogueLoader$Row;") (List.mem_of_getElem? (i := 1) rfl)) (fun _ h9 => h9) rfl dX0_clear_1 ?_
  refine lv_iconst (v := 0) hx hb dX0_clear_4 (by decide) ?_
  refine cq_WV (R := (cq_rm 2 44)) (args := ([.ref (act 0)] : List Value).toArray) (y := yX4_fill) (bytes := cX4_fill) (cc := cX0_clear) (maxL := 2) (nL := 1) (n := 1) (index := 44) (ret := none) (ws := wsX4_fill) (rm := cq_rm 1 23) (Ts := wsX0_clear) (own := RX0) (D := D) (Y := Y) (W0 := cl_row Y (act 1) (act 2) 80 ct.1) (wl := cl_cat Y act ct) (v := none) (st0 := [.int 0, .ref (act 1)]) (As := [.int 0]) (rest := []) (W1 := cl_row Y (act 1) (act 2) 80 (m_X4_fill 80 ct.1 0)) (C := RX4) (b := act 1) (cl_cat Y act (m_X4_fill 80 ct.1 0, ct.2.1, ct.2.2.1, ct.2.2.2.1, ct.2.2.2.2.1, ct.2.2.2.2.2.1, ct.2.2.2.2.2.2)) [0, 3, 4, 5, 6, 7, 8, 9, 10, 11, 12, 13, 14] ⟨hx, hb, hml, hown, hts⟩ (ct_X4_fill l D Y (act 1) (act 2) 80 ct.1 0 (by decide)) (cwV 1 hts gX0_clear_X4_fill rfl rfl rfl (by decide +kernel) ⟨Nat.le_of_ble_eq_true rfl, Nat.le_of_ble_eq_true rfl⟩) hG hP hD hS [1, 2] rfl (by decide +kernel) ⟨rfl, ⟨[(act 0, .inr (0, [.ref (act 1), .ref (act 3), .ref (act 5), .ref (act 7), .ref (act 9), .ref (act 11), .ref (act 13)])), (act 3, .inr (1, [.int 80, .int 3, .ref (act 4)])), (act 4, .inl (Y.1, 240, .inl ct.2.1)), (act 5, .inr (1, [.int 80, .int 4, .ref (act 6)])), (act 6, .inl (Y.1, 320, .inl ct.2.2.1)), (act 7, .inr (1, [.int 80, .int 4, .ref (act 8)])), (act 8, .inl (Y.1, 320, .inl ct.2.2.2.1)), (act 9, .inr (1, [.int 80, .int 4, .ref (act 10)])), (act 10, .inl (Y.1, 320, .inl ct.2.2.2.2.1)), (act 11, .inr (4, [.ref (act 12)])), (act 12, .inl (Y.1, 80, .inl ct.2.2.2.2.2.1)), (act 13, .inr (4, [.ref (act 14)])), (act 14, .inl (Y.1, 80, .inl ct.2.2.2.2.2.2))], rfl, rfl⟩, 15, rfl, by decide +kernel⟩ ⟨[act 1, act 2], rfl, rfl⟩ 1 4 (qc := (RX4, TX4, 1)) (fs := [.ref (act 2)]) rfl rfl rfl rfl hl.1 rfl (Nat.le_of_ble_eq_true rfl) dX0_clear_5 ⟨Nat.zero_le _, Nat.zero_le _⟩ (fun H locs hP hD hS => ?_)
  change W _ _ _ _ _ _ _ _ _ _ _ _ _ _ _ (F0 m 8 _ [])
  refine lv_aload_n hx hb dX0_clear_8 rfl (lv_at hl 0 rfl) ?_
  refine va_get (D := D) (ci := 0) (v := .ref (act 3)) (C := RX0) (T := TX0) (N := 7) hx hb hts (fun _ h => List.mem_cons_of_mem _ (List.mem_append_left _ (List.mem_append_left _ (List.mem_append_right _ h)))) hown hG.1 hP 0 rfl rfl 1 (by decide) (hts (.fieldLink RX0 25 "CatalogueLoader$Catalogue" "keys" "LCatalogueLoader$Grid;") (List.mem_of_getElem? (i := 2) rfl)) (fun _ h9 => h9) rfl dX0_clear_9 ?_
  refine lv_iconst (v := (-1)) hx hb dX0_clear_12 (by decide) ?_
  refine cq_WV (R := (cq_rm 2 44)) (args := ([.ref (act 0)] : List Value).toArray) (y := yX1_fill) (bytes := cX1_fill) (cc := cX0_clear) (maxL := 2) (nL := 1) (n := 1) (index := 48) (ret := none) (ws := wsX1_fill) (rm := cq_rm 1 23) (Ts := wsX0_clear) (own := RX0) (D := D) (Y := Y) (W0 := cl_grd Y (act 3) (act 4) 80 3 240 ct.2.1) (wl := cl_cat Y act (m_X4_fill 80 ct.1 0, ct.2.1, ct.2.2.1, ct.2.2.2.1, ct.2.2.2.2.1, ct.2.2.2.2.2.1, ct.2.2.2.2.2.2)) (v := none) (st0 := [.int (-1), .ref (act 3)]) (As := [.int (-1)]) (rest := []) (W1 := cl_grd Y (act 3) (act 4) 80 3 240 (m_X1_fill 80 3 240 ct.2.1 (-1))) (C := RX1) (b := act 3) (cl_cat Y act (m_X4_fill 80 ct.1 0, m_X1_fill 80 3 240 ct.2.1 (-1), ct.2.2.1, ct.2.2.2.1, ct.2.2.2.2.1, ct.2.2.2.2.2.1, ct.2.2.2.2.2.2)) [0, 1, 2, 5, 6, 7, 8, 9, 10, 11, 12, 13, 14] ⟨hx, hb, hml, hown, hts⟩ (ct_X1_fill l D Y (act 3) (act 4) 80 3 240 ct.2.1 (-1) (by decide)) (cwV 1 hts gX0_clear_X1_fill rfl rfl rfl (by decide +kernel) ⟨Nat.le_of_ble_eq_true rfl, Nat.le_of_ble_eq_true rfl⟩) hG hP hD hS [3, 4] rfl (by decide +kernel) ⟨rfl, ⟨[(act 0, .inr (0, [.ref (act 1), .ref (act 3), .ref (act 5), .ref (act 7), .ref (act 9), .ref (act 11), .ref (act 13)])), (act 1, .inr (4, [.ref (act 2)])), (act 2, .inl (Y.1, 80, .inl (m_X4_fill 80 ct.1 0))), (act 5, .inr (1, [.int 80, .int 4, .ref (act 6)])), (act 6, .inl (Y.1, 320, .inl ct.2.2.1)), (act 7, .inr (1, [.int 80, .int 4, .ref (act 8)])), (act 8, .inl (Y.1, 320, .inl ct.2.2.2.1)), (act 9, .inr (1, [.int 80, .int 4, .ref (act 10)])), (act 10, .inl (Y.1, 320, .inl ct.2.2.2.2.1)), (act 11, .inr (4, [.ref (act 12)])), (act 12, .inl (Y.1, 80, .inl ct.2.2.2.2.2.1)), (act 13, .inr (4, [.ref (act 14)])), (act 14, .inl (Y.1, 80, .inl ct.2.2.2.2.2.2))], rfl, rfl⟩, 15, rfl, by decide +kernel⟩ ⟨[act 3, act 4], rfl, rfl⟩ 3 1 (qc := (RX1, TX1, 3)) (fs := [.int 80, .int 3, .ref (act 4)]) rfl rfl rfl rfl hl.1 rfl (Nat.le_of_ble_eq_true rfl) dX0_clear_13 ⟨Nat.zero_le _, Nat.zero_le _⟩ (fun H locs hP hD hS => ?_)
  change W _ _ _ _ _ _ _ _ _ _ _ _ _ _ _ (F0 m 16 _ [])
  refine lv_aload_n hx hb dX0_clear_16 rfl (lv_at hl 0 rfl) ?_
  refine va_get (D := D) (ci := 0) (v := .ref (act 5)) (C := RX0) (T := TX0) (N := 7) hx hb hts (fun _ h => List.mem_cons_of_mem _ (List.mem_append_left _ (List.mem_append_left _ (List.mem_append_right _ h)))) hown hG.1 hP 0 rfl rfl 2 (by decide) (hts (.fieldLink RX0 29 "CatalogueLoader$Catalogue" "fields" "LCatalogueLoader$Grid;") (List.mem_of_getElem? (i := 3) rfl)) (fun _ h9 => h9) rfl dX0_clear_17 ?_
  refine lv_iconst (v := (-1)) hx hb dX0_clear_20 (by decide) ?_
  refine cq_WV (R := (cq_rm 2 44)) (args := ([.ref (act 0)] : List Value).toArray) (y := yX1_fill) (bytes := cX1_fill) (cc := cX0_clear) (maxL := 2) (nL := 1) (n := 1) (index := 48) (ret := none) (ws := wsX1_fill) (rm := cq_rm 1 23) (Ts := wsX0_clear) (own := RX0) (D := D) (Y := Y) (W0 := cl_grd Y (act 5) (act 6) 80 4 320 ct.2.2.1) (wl := cl_cat Y act (m_X4_fill 80 ct.1 0, m_X1_fill 80 3 240 ct.2.1 (-1), ct.2.2.1, ct.2.2.2.1, ct.2.2.2.2.1, ct.2.2.2.2.2.1, ct.2.2.2.2.2.2)) (v := none) (st0 := [.int (-1), .ref (act 5)]) (As := [.int (-1)]) (rest := []) (W1 := cl_grd Y (act 5) (act 6) 80 4 320 (m_X1_fill 80 4 320 ct.2.2.1 (-1))) (C := RX1) (b := act 5) (cl_cat Y act (m_X4_fill 80 ct.1 0, m_X1_fill 80 3 240 ct.2.1 (-1), m_X1_fill 80 4 320 ct.2.2.1 (-1), ct.2.2.2.1, ct.2.2.2.2.1, ct.2.2.2.2.2.1, ct.2.2.2.2.2.2)) [0, 1, 2, 3, 4, 7, 8, 9, 10, 11, 12, 13, 14] ⟨hx, hb, hml, hown, hts⟩ (ct_X1_fill l D Y (act 5) (act 6) 80 4 320 ct.2.2.1 (-1) (by decide)) (cwV 1 hts gX0_clear_X1_fill rfl rfl rfl (by decide +kernel) ⟨Nat.le_of_ble_eq_true rfl, Nat.le_of_ble_eq_true rfl⟩) hG hP hD hS [5, 6] rfl (by decide +kernel) ⟨rfl, ⟨[(act 0, .inr (0, [.ref (act 1), .ref (act 3), .ref (act 5), .ref (act 7), .ref (act 9), .ref (act 11), .ref (act 13)])), (act 1, .inr (4, [.ref (act 2)])), (act 2, .inl (Y.1, 80, .inl (m_X4_fill 80 ct.1 0))), (act 3, .inr (1, [.int 80, .int 3, .ref (act 4)])), (act 4, .inl (Y.1, 240, .inl (m_X1_fill 80 3 240 ct.2.1 (-1)))), (act 7, .inr (1, [.int 80, .int 4, .ref (act 8)])), (act 8, .inl (Y.1, 320, .inl ct.2.2.2.1)), (act 9, .inr (1, [.int 80, .int 4, .ref (act 10)])), (act 10, .inl (Y.1, 320, .inl ct.2.2.2.2.1)), (act 11, .inr (4, [.ref (act 12)])), (act 12, .inl (Y.1, 80, .inl ct.2.2.2.2.2.1)), (act 13, .inr (4, [.ref (act 14)])), (act 14, .inl (Y.1, 80, .inl ct.2.2.2.2.2.2))], rfl, rfl⟩, 15, rfl, by decide +kernel⟩ ⟨[act 5, act 6], rfl, rfl⟩ 5 1 (qc := (RX1, TX1, 3)) (fs := [.int 80, .int 4, .ref (act 6)]) rfl rfl rfl rfl hl.1 rfl (Nat.le_of_ble_eq_true rfl) dX0_clear_21 ⟨Nat.zero_le _, Nat.zero_le _⟩ (fun H locs hP hD hS => ?_)
  change W _ _ _ _ _ _ _ _ _ _ _ _ _ _ _ (F0 m 24 _ [])
  refine lv_aload_n hx hb dX0_clear_24 rfl (lv_at hl 0 rfl) ?_
  refine va_get (D := D) (ci := 0) (v := .ref (act 7)) (C := RX0) (T := TX0) (N := 7) hx hb hts (fun _ h => List.mem_cons_of_mem _ (List.mem_append_left _ (List.mem_append_left _ (List.mem_append_right _ h)))) hown hG.1 hP 0 rfl rfl 3 (by decide) (hts (.fieldLink RX0 32 "CatalogueLoader$Catalogue" "sources" "LCatalogueLoader$Grid;") (List.mem_of_getElem? (i := 4) rfl)) (fun _ h9 => h9) rfl dX0_clear_25 ?_
  refine lv_iconst (v := (-1)) hx hb dX0_clear_28 (by decide) ?_
  refine cq_WV (R := (cq_rm 2 44)) (args := ([.ref (act 0)] : List Value).toArray) (y := yX1_fill) (bytes := cX1_fill) (cc := cX0_clear) (maxL := 2) (nL := 1) (n := 1) (index := 48) (ret := none) (ws := wsX1_fill) (rm := cq_rm 1 23) (Ts := wsX0_clear) (own := RX0) (D := D) (Y := Y) (W0 := cl_grd Y (act 7) (act 8) 80 4 320 ct.2.2.2.1) (wl := cl_cat Y act (m_X4_fill 80 ct.1 0, m_X1_fill 80 3 240 ct.2.1 (-1), m_X1_fill 80 4 320 ct.2.2.1 (-1), ct.2.2.2.1, ct.2.2.2.2.1, ct.2.2.2.2.2.1, ct.2.2.2.2.2.2)) (v := none) (st0 := [.int (-1), .ref (act 7)]) (As := [.int (-1)]) (rest := []) (W1 := cl_grd Y (act 7) (act 8) 80 4 320 (m_X1_fill 80 4 320 ct.2.2.2.1 (-1))) (C := RX1) (b := act 7) (cl_cat Y act (m_X4_fill 80 ct.1 0, m_X1_fill 80 3 240 ct.2.1 (-1), m_X1_fill 80 4 320 ct.2.2.1 (-1), m_X1_fill 80 4 320 ct.2.2.2.1 (-1), ct.2.2.2.2.1, ct.2.2.2.2.2.1, ct.2.2.2.2.2.2)) [0, 1, 2, 3, 4, 5, 6, 9, 10, 11, 12, 13, 14] ⟨hx, hb, hml, hown, hts⟩ (ct_X1_fill l D Y (act 7) (act 8) 80 4 320 ct.2.2.2.1 (-1) (by decide)) (cwV 1 hts gX0_clear_X1_fill rfl rfl rfl (by decide +kernel) ⟨Nat.le_of_ble_eq_true rfl, Nat.le_of_ble_eq_true rfl⟩) hG hP hD hS [7, 8] rfl (by decide +kernel) ⟨rfl, ⟨[(act 0, .inr (0, [.ref (act 1), .ref (act 3), .ref (act 5), .ref (act 7), .ref (act 9), .ref (act 11), .ref (act 13)])), (act 1, .inr (4, [.ref (act 2)])), (act 2, .inl (Y.1, 80, .inl (m_X4_fill 80 ct.1 0))), (act 3, .inr (1, [.int 80, .int 3, .ref (act 4)])), (act 4, .inl (Y.1, 240, .inl (m_X1_fill 80 3 240 ct.2.1 (-1)))), (act 5, .inr (1, [.int 80, .int 4, .ref (act 6)])), (act 6, .inl (Y.1, 320, .inl (m_X1_fill 80 4 320 ct.2.2.1 (-1)))), (act 9, .inr (1, [.int 80, .int 4, .ref (act 10)])), (act 10, .inl (Y.1, 320, .inl ct.2.2.2.2.1)), (act 11, .inr (4, [.ref (act 12)])), (act 12, .inl (Y.1, 80, .inl ct.2.2.2.2.2.1)), (act 13, .inr (4, [.ref (act 14)])), (act 14, .inl (Y.1, 80, .inl ct.2.2.2.2.2.2))], rfl, rfl⟩, 15, rfl, by decide +kernel⟩ ⟨[act 7, act 8], rfl, rfl⟩ 7 1 (qc := (RX1, TX1, 3)) (fs := [.int 80, .int 4, .ref (act 8)]) rfl rfl rfl rfl hl.1 rfl (Nat.le_of_ble_eq_true rfl) dX0_clear_29 ⟨Nat.zero_le _, Nat.zero_le _⟩ (fun H locs hP hD hS => ?_)
  change W _ _ _ _ _ _ _ _ _ _ _ _ _ _ _ (F0 m 32 _ [])
  refine lv_aload_n hx hb dX0_clear_32 rfl (lv_at hl 0 rfl) ?_
  refine va_get (D := D) (ci := 0) (v := .ref (act 9)) (C := RX0) (T := TX0) (N := 7) hx hb hts (fun _ h => List.mem_cons_of_mem _ (List.mem_append_left _ (List.mem_append_left _ (List.mem_append_right _ h)))) hown hG.1 hP 0 rfl rfl 4 (by decide) (hts (.fieldLink RX0 35 "CatalogueLoader$Catalogue" "guards" "LCatalogueLoader$Grid;") (List.mem_of_getElem? (i := 5) rfl)) (fun _ h9 => h9) rfl dX0_clear_33 ?_
  refine lv_iconst (v := 0) hx hb dX0_clear_36 (by decide) ?_
  refine cq_WV (R := (cq_rm 2 44)) (args := ([.ref (act 0)] : List Value).toArray) (y := yX1_fill) (bytes := cX1_fill) (cc := cX0_clear) (maxL := 2) (nL := 1) (n := 1) (index := 48) (ret := none) (ws := wsX1_fill) (rm := cq_rm 1 23) (Ts := wsX0_clear) (own := RX0) (D := D) (Y := Y) (W0 := cl_grd Y (act 9) (act 10) 80 4 320 ct.2.2.2.2.1) (wl := cl_cat Y act (m_X4_fill 80 ct.1 0, m_X1_fill 80 3 240 ct.2.1 (-1), m_X1_fill 80 4 320 ct.2.2.1 (-1), m_X1_fill 80 4 320 ct.2.2.2.1 (-1), ct.2.2.2.2.1, ct.2.2.2.2.2.1, ct.2.2.2.2.2.2)) (v := none) (st0 := [.int 0, .ref (act 9)]) (As := [.int 0]) (rest := []) (W1 := cl_grd Y (act 9) (act 10) 80 4 320 (m_X1_fill 80 4 320 ct.2.2.2.2.1 0)) (C := RX1) (b := act 9) (cl_cat Y act (m_X4_fill 80 ct.1 0, m_X1_fill 80 3 240 ct.2.1 (-1), m_X1_fill 80 4 320 ct.2.2.1 (-1), m_X1_fill 80 4 320 ct.2.2.2.1 (-1), m_X1_fill 80 4 320 ct.2.2.2.2.1 0, ct.2.2.2.2.2.1, ct.2.2.2.2.2.2)) [0, 1, 2, 3, 4, 5, 6, 7, 8, 11, 12, 13, 14] ⟨hx, hb, hml, hown, hts⟩ (ct_X1_fill l D Y (act 9) (act 10) 80 4 320 ct.2.2.2.2.1 0 (by decide)) (cwV 1 hts gX0_clear_X1_fill rfl rfl rfl (by decide +kernel) ⟨Nat.le_of_ble_eq_true rfl, Nat.le_of_ble_eq_true rfl⟩) hG hP hD hS [9, 10] rfl (by decide +kernel) ⟨rfl, ⟨[(act 0, .inr (0, [.ref (act 1), .ref (act 3), .ref (act 5), .ref (act 7), .ref (act 9), .ref (act 11), .ref (act 13)])), (act 1, .inr (4, [.ref (act 2)])), (act 2, .inl (Y.1, 80, .inl (m_X4_fill 80 ct.1 0))), (act 3, .inr (1, [.int 80, .int 3, .ref (act 4)])), (act 4, .inl (Y.1, 240, .inl (m_X1_fill 80 3 240 ct.2.1 (-1)))), (act 5, .inr (1, [.int 80, .int 4, .ref (act 6)])), (act 6, .inl (Y.1, 320, .inl (m_X1_fill 80 4 320 ct.2.2.1 (-1)))), (act 7, .inr (1, [.int 80, .int 4, .ref (act 8)])), (act 8, .inl (Y.1, 320, .inl (m_X1_fill 80 4 320 ct.2.2.2.1 (-1)))), (act 11, .inr (4, [.ref (act 12)])), (act 12, .inl (Y.1, 80, .inl ct.2.2.2.2.2.1)), (act 13, .inr (4, [.ref (act 14)])), (act 14, .inl (Y.1, 80, .inl ct.2.2.2.2.2.2))], rfl, rfl⟩, 15, rfl, by decide +kernel⟩ ⟨[act 9, act 10], rfl, rfl⟩ 9 1 (qc := (RX1, TX1, 3)) (fs := [.int 80, .int 4, .ref (act 10)]) rfl rfl rfl rfl hl.1 rfl (Nat.le_of_ble_eq_true rfl) dX0_clear_37 ⟨Nat.zero_le _, Nat.zero_le _⟩ (fun H locs hP hD hS => ?_)
  change W _ _ _ _ _ _ _ _ _ _ _ _ _ _ _ (F0 m 40 _ [])
  refine lv_aload_n hx hb dX0_clear_40 rfl (lv_at hl 0 rfl) ?_
  refine va_get (D := D) (ci := 0) (v := .ref (act 11)) (C := RX0) (T := TX0) (N := 7) hx hb hts (fun _ h => List.mem_cons_of_mem _ (List.mem_append_left _ (List.mem_append_left _ (List.mem_append_right _ h)))) hown hG.1 hP 0 rfl rfl 5 (by decide) (hts (.fieldLink RX0 38 "CatalogueLoader$Catalogue" "held" "LCatalogueLoader$Row;") (List.mem_of_getElem? (i := 6) rfl)) (fun _ h9 => h9) rfl dX0_clear_41 ?_
  refine lv_iconst (v := 0) hx hb dX0_clear_44 (by decide) ?_
  refine cq_WV (R := (cq_rm 2 44)) (args := ([.ref (act 0)] : List Value).toArray) (y := yX4_fill) (bytes := cX4_fill) (cc := cX0_clear) (maxL := 2) (nL := 1) (n := 1) (index := 44) (ret := none) (ws := wsX4_fill) (rm := cq_rm 1 23) (Ts := wsX0_clear) (own := RX0) (D := D) (Y := Y) (W0 := cl_row Y (act 11) (act 12) 80 ct.2.2.2.2.2.1) (wl := cl_cat Y act (m_X4_fill 80 ct.1 0, m_X1_fill 80 3 240 ct.2.1 (-1), m_X1_fill 80 4 320 ct.2.2.1 (-1), m_X1_fill 80 4 320 ct.2.2.2.1 (-1), m_X1_fill 80 4 320 ct.2.2.2.2.1 0, ct.2.2.2.2.2.1, ct.2.2.2.2.2.2)) (v := none) (st0 := [.int 0, .ref (act 11)]) (As := [.int 0]) (rest := []) (W1 := cl_row Y (act 11) (act 12) 80 (m_X4_fill 80 ct.2.2.2.2.2.1 0)) (C := RX4) (b := act 11) (cl_cat Y act (m_X4_fill 80 ct.1 0, m_X1_fill 80 3 240 ct.2.1 (-1), m_X1_fill 80 4 320 ct.2.2.1 (-1), m_X1_fill 80 4 320 ct.2.2.2.1 (-1), m_X1_fill 80 4 320 ct.2.2.2.2.1 0, m_X4_fill 80 ct.2.2.2.2.2.1 0, ct.2.2.2.2.2.2)) [0, 1, 2, 3, 4, 5, 6, 7, 8, 9, 10, 13, 14] ⟨hx, hb, hml, hown, hts⟩ (ct_X4_fill l D Y (act 11) (act 12) 80 ct.2.2.2.2.2.1 0 (by decide)) (cwV 1 hts gX0_clear_X4_fill rfl rfl rfl (by decide +kernel) ⟨Nat.le_of_ble_eq_true rfl, Nat.le_of_ble_eq_true rfl⟩) hG hP hD hS [11, 12] rfl (by decide +kernel) ⟨rfl, ⟨[(act 0, .inr (0, [.ref (act 1), .ref (act 3), .ref (act 5), .ref (act 7), .ref (act 9), .ref (act 11), .ref (act 13)])), (act 1, .inr (4, [.ref (act 2)])), (act 2, .inl (Y.1, 80, .inl (m_X4_fill 80 ct.1 0))), (act 3, .inr (1, [.int 80, .int 3, .ref (act 4)])), (act 4, .inl (Y.1, 240, .inl (m_X1_fill 80 3 240 ct.2.1 (-1)))), (act 5, .inr (1, [.int 80, .int 4, .ref (act 6)])), (act 6, .inl (Y.1, 320, .inl (m_X1_fill 80 4 320 ct.2.2.1 (-1)))), (act 7, .inr (1, [.int 80, .int 4, .ref (act 8)])), (act 8, .inl (Y.1, 320, .inl (m_X1_fill 80 4 320 ct.2.2.2.1 (-1)))), (act 9, .inr (1, [.int 80, .int 4, .ref (act 10)])), (act 10, .inl (Y.1, 320, .inl (m_X1_fill 80 4 320 ct.2.2.2.2.1 0))), (act 13, .inr (4, [.ref (act 14)])), (act 14, .inl (Y.1, 80, .inl ct.2.2.2.2.2.2))], rfl, rfl⟩, 15, rfl, by decide +kernel⟩ ⟨[act 11, act 12], rfl, rfl⟩ 11 4 (qc := (RX4, TX4, 1)) (fs := [.ref (act 12)]) rfl rfl rfl rfl hl.1 rfl (Nat.le_of_ble_eq_true rfl) dX0_clear_45 ⟨Nat.zero_le _, Nat.zero_le _⟩ (fun H locs hP hD hS => ?_)
  change W _ _ _ _ _ _ _ _ _ _ _ _ _ _ _ (F0 m 48 _ [])
  refine lv_aload_n hx hb dX0_clear_48 rfl (lv_at hl 0 rfl) ?_
  refine va_get (D := D) (ci := 0) (v := .ref (act 13)) (C := RX0) (T := TX0) (N := 7) hx hb hts (fun _ h => List.mem_cons_of_mem _ (List.mem_append_left _ (List.mem_append_left _ (List.mem_append_right _ h)))) hown hG.1 hP 0 rfl rfl 6 (by decide) (hts (.fieldLink RX0 41 "CatalogueLoader$Catalogue" "hits" "LCatalogueLoader$Row;") (List.mem_of_getElem? (i := 7) rfl)) (fun _ h9 => h9) rfl dX0_clear_49 ?_
  refine lv_iconst (v := (-1)) hx hb dX0_clear_52 (by decide) ?_
  refine cq_WV (R := (cq_rm 2 44)) (args := ([.ref (act 0)] : List Value).toArray) (y := yX4_fill) (bytes := cX4_fill) (cc := cX0_clear) (maxL := 2) (nL := 1) (n := 1) (index := 44) (ret := none) (ws := wsX4_fill) (rm := cq_rm 1 23) (Ts := wsX0_clear) (own := RX0) (D := D) (Y := Y) (W0 := cl_row Y (act 13) (act 14) 80 ct.2.2.2.2.2.2) (wl := cl_cat Y act (m_X4_fill 80 ct.1 0, m_X1_fill 80 3 240 ct.2.1 (-1), m_X1_fill 80 4 320 ct.2.2.1 (-1), m_X1_fill 80 4 320 ct.2.2.2.1 (-1), m_X1_fill 80 4 320 ct.2.2.2.2.1 0, m_X4_fill 80 ct.2.2.2.2.2.1 0, ct.2.2.2.2.2.2)) (v := none) (st0 := [.int (-1), .ref (act 13)]) (As := [.int (-1)]) (rest := []) (W1 := cl_row Y (act 13) (act 14) 80 (m_X4_fill 80 ct.2.2.2.2.2.2 (-1))) (C := RX4) (b := act 13) (cl_cat Y act (m_X4_fill 80 ct.1 0, m_X1_fill 80 3 240 ct.2.1 (-1), m_X1_fill 80 4 320 ct.2.2.1 (-1), m_X1_fill 80 4 320 ct.2.2.2.1 (-1), m_X1_fill 80 4 320 ct.2.2.2.2.1 0, m_X4_fill 80 ct.2.2.2.2.2.1 0, m_X4_fill 80 ct.2.2.2.2.2.2 (-1))) [0, 1, 2, 3, 4, 5, 6, 7, 8, 9, 10, 11, 12] ⟨hx, hb, hml, hown, hts⟩ (ct_X4_fill l D Y (act 13) (act 14) 80 ct.2.2.2.2.2.2 (-1) (by decide)) (cwV 1 hts gX0_clear_X4_fill rfl rfl rfl (by decide +kernel) ⟨Nat.le_of_ble_eq_true rfl, Nat.le_of_ble_eq_true rfl⟩) hG hP hD hS [13, 14] rfl (by decide +kernel) ⟨rfl, ⟨[(act 0, .inr (0, [.ref (act 1), .ref (act 3), .ref (act 5), .ref (act 7), .ref (act 9), .ref (act 11), .ref (act 13)])), (act 1, .inr (4, [.ref (act 2)])), (act 2, .inl (Y.1, 80, .inl (m_X4_fill 80 ct.1 0))), (act 3, .inr (1, [.int 80, .int 3, .ref (act 4)])), (act 4, .inl (Y.1, 240, .inl (m_X1_fill 80 3 240 ct.2.1 (-1)))), (act 5, .inr (1, [.int 80, .int 4, .ref (act 6)])), (act 6, .inl (Y.1, 320, .inl (m_X1_fill 80 4 320 ct.2.2.1 (-1)))), (act 7, .inr (1, [.int 80, .int 4, .ref (act 8)])), (act 8, .inl (Y.1, 320, .inl (m_X1_fill 80 4 320 ct.2.2.2.1 (-1)))), (act 9, .inr (1, [.int 80, .int 4, .ref (act 10)])), (act 10, .inl (Y.1, 320, .inl (m_X1_fill 80 4 320 ct.2.2.2.2.1 0))), (act 11, .inr (4, [.ref (act 12)])), (act 12, .inl (Y.1, 80, .inl (m_X4_fill 80 ct.2.2.2.2.2.1 0)))], rfl, rfl⟩, 15, rfl, by decide +kernel⟩ ⟨[act 13, act 14], rfl, rfl⟩ 13 4 (qc := (RX4, TX4, 1)) (fs := [.ref (act 14)]) rfl rfl rfl rfl hl.1 rfl (Nat.le_of_ble_eq_true rfl) dX0_clear_53 ⟨Nat.zero_le _, Nat.zero_le _⟩ (fun H locs hP hD hS => ?_)
  change W _ _ _ _ _ _ _ _ _ _ _ _ _ _ _ (F0 m 56 _ [])
  exact cq_wV (wl := cl_cat Y act (m_X4_fill 80 ct.1 0, m_X1_fill 80 3 240 ct.2.1 (-1), m_X1_fill 80 4 320 ct.2.2.1 (-1), m_X1_fill 80 4 320 ct.2.2.2.1 (-1), m_X1_fill 80 4 320 ct.2.2.2.2.1 0, m_X4_fill 80 ct.2.2.2.2.2.1 0, m_X4_fill 80 ct.2.2.2.2.2.2 (-1))) hx hb hr hlocks hP hS rfl (by simp only [m_X0_clear, ↓reduceIte, if_true, if_false]) dX0_clear_56
