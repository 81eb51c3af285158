set_option maxHeartbeats 4000000 in
set_option maxRecDepth 100000 in
theorem tt_a (l : Launch) (D : va_G) (Y : cq_Y) (ahi : Nat → Nat) (hi : HisS) (kind : Int32) (one : Int32) (two : Int32) (three : Int32) : cq_MW l yX2_append wsX2_append (cq_rm 1 22) D Y (cl_his Y ahi hi) [.ref (ahi 0), .int kind, .int one, .int two, .int three] (none) (cl_his Y ahi (m_X2_append hi kind one two three)) := by
  refine cq_body (cc := cX2_append) (maxL := 5) (ret := none) (by decide) rfl (Nat.le_of_ble_eq_true rfl) ?_
  intro p e s m below meth c hE hP hG hD ls hl
  obtain ⟨hx, hb, hr, hml, hts, hown, hnm, hlocks⟩ := hE
  have hS : va_S (cq_in (cl_his Y ahi hi)) s.heap s.heap [] := va_S.rf
  have hl : lv_has ls 5 [(0, .ref (ahi 0)), (1, .int kind), (2, .int one), (3, .int two), (4, .int three)] := hl
  refine lv_aload_n hx hb dX2_append_0 rfl (lv_at hl 0 rfl) ?_
  refine va_get (D := D) (ci := 2) (v := .ref (ahi 1)) (C := RX2) (T := TX2) (N := 6) hx hb hts (fun _ h => List.mem_cons_of_mem _ (List.mem_append_left _ (List.mem_append_right _ h))) hown hG.1 hP 0 rfl rfl 0 (by decide) (hts (.fieldLink RX2 14 "CatalogueLoader$History" "kinds" "LCatalogueLoader$Row;") (List.mem_of_getElem? (i := 1) rfl)) (fun _ h9 => h9) rfl dX2_append_1 ?_
  refine lv_aload_n hx hb dX2_append_4 rfl (lv_at hl 0 rfl) ?_
  refine va_get (D := D) (ci := 2) (v := .int hi.2.2.2.2.1) (C := RX2) (T := TX2) (N := 6) hx hb hts (fun _ h => List.mem_cons_of_mem _ (List.mem_append_left _ (List.mem_append_right _ h))) hown hG.1 hP 0 rfl rfl 4 (by decide) (hts (.fieldLink RX2 29 "CatalogueLoader$History" "count" "I") (List.mem_of_getElem? (i := 2) rfl)) (fun _ h9 => h9) rfl dX2_append_5 ?_
  refine lv_iload_n hx hb dX2_append_8 rfl (lv_at hl 1 rfl) ?_
  refine cq_WV (R := (cq_rm 1 22)) (st0 := [.int kind, .int hi.2.2.2.2.1, .ref (ahi 1)] ++ []) (As := [.int hi.2.2.2.2.1, .int kind]) (rest := []) ⟨hx, hb, hml, hown, hts⟩ (ct_X4_set l D Y (ahi 1) (ahi 2) 180 hi.1 hi.2.2.2.2.1 kind (by decide)) sorry hG hP hD hS [1, 2] rfl (by decide) rfl 1 4 rfl rfl rfl rfl hl.1 rfl (Nat.le_of_ble_eq_true rfl) dX2_append_9 ⟨Nat.zero_le _, Nat.zero_le _⟩ (fun H locs hP hD hS => ?_)
  have hP : va_P D vwCl (cl_his Y ahi (m_X4_set 180 hi.1 hi.2.2.2.2.1 kind, hi.2.1, hi.2.2.1, hi.2.2.2.1, hi.2.2.2.2.1, hi.2.2.2.2.2)) H := hP
  have hD : va_D (cq_in (cl_his Y ahi hi)) (cl_his Y ahi (m_X4_set 180 hi.1 hi.2.2.2.2.1 kind, hi.2.1, hi.2.2.1, hi.2.2.2.1, hi.2.2.2.2.1, hi.2.2.2.2.2)) := hD
  change W _ _ _ _ _ _ _ _ _ _ _ _ _ _ _ (F0 m 12 _ [])
  refine lv_aload_n hx hb dX2_append_12 rfl (lv_at hl 0 rfl) ?_
  refine va_get (D := D) (ci := 2) (v := .ref (ahi 3)) (C := RX2) (T := TX2) (N := 6) hx hb hts (fun _ h => List.mem_cons_of_mem _ (List.mem_append_left _ (List.mem_append_right _ h))) hown hG.1 hP 0 rfl rfl 1 (by decide) (hts (.fieldLink RX2 20 "CatalogueLoader$History" "first" "LCatalogueLoader$Row;") (List.mem_of_getElem? (i := 3) rfl)) (fun _ h9 => h9) rfl dX2_append_13 ?_
  refine lv_aload_n hx hb dX2_append_16 rfl (lv_at hl 0 rfl) ?_
  refine va_get (D := D) (ci := 2) (v := .int hi.2.2.2.2.1) (C := RX2) (T := TX2) (N := 6) hx hb hts (fun _ h => List.mem_cons_of_mem _ (List.mem_append_left _ (List.mem_append_right _ h))) hown hG.1 hP 0 rfl rfl 4 (by decide) (hts (.fieldLink RX2 29 "CatalogueLoader$History" "count" "I") (List.mem_of_getElem? (i := 2) rfl)) (fun _ h9 => h9) rfl dX2_append_17 ?_
  refine lv_iload_n hx hb dX2_append_20 rfl (lv_at hl 2 rfl) ?_
  refine cq_WV (R := (cq_rm 1 22)) (st0 := [.int one, .int hi.2.2.2.2.1, .ref (ahi 3)] ++ []) (As := [.int hi.2.2.2.2.1, .int one]) (rest := []) ⟨hx, hb, hml, hown, hts⟩ (ct_X4_set l D Y (ahi 3) (ahi 4) 180 hi.2.1 hi.2.2.2.2.1 one (by decide)) sorry hG hP hD hS [3, 4] rfl (by decide) rfl 3 4 rfl rfl rfl rfl hl.1 rfl (Nat.le_of_ble_eq_true rfl) dX2_append_21 ⟨Nat.zero_le _, Nat.zero_le _⟩ (fun H locs hP hD hS => ?_)
  have hP : va_P D vwCl (cl_his Y ahi (m_X4_set 180 hi.1 hi.2.2.2.2.1 kind, m_X4_set 180 hi.2.1 hi.2.2.2.2.1 one, hi.2.2.1, hi.2.2.2.1, hi.2.2.2.2.1, hi.2.2.2.2.2)) H := hP
  have hD : va_D (cq_in (cl_his Y ahi hi)) (cl_his Y ahi (m_X4_set 180 hi.1 hi.2.2.2.2.1 kind, m_X4_set 180 hi.2.1 hi.2.2.2.2.1 one, hi.2.2.1, hi.2.2.2.1, hi.2.2.2.2.1, hi.2.2.2.2.2)) := hD
  change W _ _ _ _ _ _ _ _ _ _ _ _ _ _ _ (F0 m 24 _ [])
  refine lv_aload_n hx hb dX2_append_24 rfl (lv_at hl 0 rfl) ?_
  refine va_get (D := D) (ci := 2) (v := .ref (ahi 5)) (C := RX2) (T := TX2) (N := 6) hx hb hts (fun _ h => List.mem_cons_of_mem _ (List.mem_append_left _ (List.mem_append_right _ h))) hown hG.1 hP 0 rfl rfl 2 (by decide) (hts (.fieldLink RX2 23 "CatalogueLoader$History" "second" "LCatalogueLoader$Row;") (List.mem_of_getElem? (i := 4) rfl)) (fun _ h9 => h9) rfl dX2_append_25 ?_
  refine lv_aload_n hx hb dX2_append_28 rfl (lv_at hl 0 rfl) ?_
  refine va_get (D := D) (ci := 2) (v := .int hi.2.2.2.2.1) (C := RX2) (T := TX2) (N := 6) hx hb hts (fun _ h => List.mem_cons_of_mem _ (List.mem_append_left _ (List.mem_append_right _ h))) hown hG.1 hP 0 rfl rfl 4 (by decide) (hts (.fieldLink RX2 29 "CatalogueLoader$History" "count" "I") (List.mem_of_getElem? (i := 2) rfl)) (fun _ h9 => h9) rfl dX2_append_29 ?_
  refine lv_iload_n hx hb dX2_append_32 rfl (lv_at hl 3 rfl) ?_
  refine cq_WV (R := (cq_rm 1 22)) (st0 := [.int two, .int hi.2.2.2.2.1, .ref (ahi 5)] ++ []) (As := [.int hi.2.2.2.2.1, .int two]) (rest := []) ⟨hx, hb, hml, hown, hts⟩ (ct_X4_set l D Y (ahi 5) (ahi 6) 180 hi.2.2.1 hi.2.2.2.2.1 two (by decide)) sorry hG hP hD hS [5, 6] rfl (by decide) rfl 5 4 rfl rfl rfl rfl hl.1 rfl (Nat.le_of_ble_eq_true rfl) dX2_append_33 ⟨Nat.zero_le _, Nat.zero_le _⟩ (fun H locs hP hD hS => ?_)
  have hP : va_P D vwCl (cl_his Y ahi (m_X4_set 180 hi.1 hi.2.2.2.2.1 kind, m_X4_set 180 hi.2.1 hi.2.2.2.2.1 one, m_X4_set 180 hi.2.2.1 hi.2.2.2.2.1 two, hi.2.2.2.1, hi.2.2.2.2.1, hi.2.2.2.2.2)) H := hP
  have hD : va_D (cq_in (cl_his Y ahi hi)) (cl_his Y ahi (m_X4_set 180 hi.1 hi.2.2.2.2.1 kind, m_X4_set 180 hi.2.1 hi.2.2.2.2.1 one, m_X4_set 180 hi.2.2.1 hi.2.2.2.2.1 two, hi.2.2.2.1, hi.2.2.2.2.1, hi.2.2.2.2.2)) := hD
  change W _ _ _ _ _ _ _ _ _ _ _ _ _ _ _ (F0 m 36 _ [])
  refine lv_aload_n hx hb dX2_append_36 rfl (lv_at hl 0 rfl) ?_
  refine va_get (D := D) (ci := 2) (v := .ref (ahi 7)) (C := RX2) (T := TX2) (N := 6) hx hb hts (fun _ h => List.mem_cons_of_mem _ (List.mem_append_left _ (List.mem_append_right _ h))) hown hG.1 hP 0 rfl rfl 3 (by decide) (hts (.fieldLink RX2 26 "CatalogueLoader$History" "third" "LCatalogueLoader$Row;") (List.mem_of_getElem? (i := 5) rfl)) (fun _ h9 => h9) rfl dX2_append_37 ?_
  refine lv_aload_n hx hb dX2_append_40 rfl (lv_at hl 0 rfl) ?_
  refine va_get (D := D) (ci := 2) (v := .int hi.2.2.2.2.1) (C := RX2) (T := TX2) (N := 6) hx hb hts (fun _ h => List.mem_cons_of_mem _ (List.mem_append_left _ (List.mem_append_right _ h))) hown hG.1 hP 0 rfl rfl 4 (by decide) (hts (.fieldLink RX2 29 "CatalogueLoader$History" "count" "I") (List.mem_of_getElem? (i := 2) rfl)) (fun _ h9 => h9) rfl dX2_append_41 ?_
  refine lv_iload hx hb dX2_append_44 (lv_at hl 4 rfl) ?_
  refine cq_WV (R := (cq_rm 1 22)) (st0 := [.int three, .int hi.2.2.2.2.1, .ref (ahi 7)] ++ []) (As := [.int hi.2.2.2.2.1, .int three]) (rest := []) ⟨hx, hb, hml, hown, hts⟩ (ct_X4_set l D Y (ahi 7) (ahi 8) 180 hi.2.2.2.1 hi.2.2.2.2.1 three (by decide)) sorry hG hP hD hS [7, 8] rfl (by decide) rfl 7 4 rfl rfl rfl rfl hl.1 rfl (Nat.le_of_ble_eq_true rfl) dX2_append_46 ⟨Nat.zero_le _, Nat.zero_le _⟩ (fun H locs hP hD hS => ?_)
  have hP : va_P D vwCl (cl_his Y ahi (m_X4_set 180 hi.1 hi.2.2.2.2.1 kind, m_X4_set 180 hi.2.1 hi.2.2.2.2.1 one, m_X4_set 180 hi.2.2.1 hi.2.2.2.2.1 two, m_X4_set 180 hi.2.2.2.1 hi.2.2.2.2.1 three, hi.2.2.2.2.1, hi.2.2.2.2.2)) H := hP
  have hD : va_D (cq_in (cl_his Y ahi hi)) (cl_his Y ahi (m_X4_set 180 hi.1 hi.2.2.2.2.1 kind, m_X4_set 180 hi.2.1 hi.2.2.2.2.1 one, m_X4_set 180 hi.2.2.1 hi.2.2.2.2.1 two, m_X4_set 180 hi.2.2.2.1 hi.2.2.2.2.1 three, hi.2.2.2.2.1, hi.2.2.2.2.2)) := hD
  change W _ _ _ _ _ _ _ _ _ _ _ _ _ _ _ (F0 m 49 _ [])
  refine lv_aload_n hx hb dX2_append_49 rfl (lv_at hl 0 rfl) ?_
  refine lv_dup hx hb dX2_append_50 rfl ?_
  refine va_get (D := D) (ci := 2) (v := .int hi.2.2.2.2.1) (C := RX2) (T := TX2) (N := 6) hx hb hts (fun _ h => List.mem_cons_of_mem _ (List.mem_append_left _ (List.mem_append_right _ h))) hown hG.1 hP 0 rfl rfl 4 (by decide) (hts (.fieldLink RX2 29 "CatalogueLoader$History" "count" "I") (List.mem_of_getElem? (i := 2) rfl)) (fun _ h9 => h9) rfl dX2_append_51 ?_
  refine lv_iconst (v := 1) hx hb dX2_append_54 (by decide) ?_
  refine lv_iadd hx hb dX2_append_55 ?_
  refine va_put (D := D) (ci := 2) (v := .int (hi.2.2.2.2.1 + 1)) (ty := .int) (C := RX2) (T := TX2) (N := 6) hx hb hts (fun _ h => List.mem_cons_of_mem _ (List.mem_append_left _ (List.mem_append_right _ h))) tyX2 tyX2_ok nmX2 hown hG.1 hP hD hS 0 rfl rfl 4 (by decide) (hts (.fieldLink RX2 29 "CatalogueLoader$History" "count" "I") (List.mem_of_getElem? (i := 2) rfl)) (fun _ h9 => h9) rfl (by decide +kernel) rfl rfl (Nat.le_of_ble_eq_true rfl) dX2_append_56 (fun H locs hP hD hS => ?_)
  have hP : va_P D vwCl (cl_his Y ahi (m_X4_set 180 hi.1 hi.2.2.2.2.1 kind, m_X4_set 180 hi.2.1 hi.2.2.2.2.1 one, m_X4_set 180 hi.2.2.1 hi.2.2.2.2.1 two, m_X4_set 180 hi.2.2.2.1 hi.2.2.2.2.1 three, hi.2.2.2.2.1 + 1, hi.2.2.2.2.2)) H := hP
  have hD : va_D (cq_in (cl_his Y ahi hi)) (cl_his Y ahi (m_X4_set 180 hi.1 hi.2.2.2.2.1 kind, m_X4_set 180 hi.2.1 hi.2.2.2.2.1 one, m_X4_set 180 hi.2.2.1 hi.2.2.2.2.1 two, m_X4_set 180 hi.2.2.2.1 hi.2.2.2.2.1 three, hi.2.2.2.2.1 + 1, hi.2.2.2.2.2)) := hD
  refine lv_iload_n hx hb dX2_append_59 rfl (lv_at hl 1 rfl) ?_
  refine lv_if_ne (tgt := 73) hx hb dX2_append_60 (by decide) (fun c_1 => ?_) (fun c_1 => ?_)
  · exact cq_wV (wl := cl_his Y ahi (m_X4_set 180 hi.1 hi.2.2.2.2.1 kind, m_X4_set 180 hi.2.1 hi.2.2.2.2.1 one, m_X4_set 180 hi.2.2.1 hi.2.2.2.2.1 two, m_X4_set 180 hi.2.2.2.1 hi.2.2.2.2.1 three, hi.2.2.2.2.1 + 1, hi.2.2.2.2.2)) hx hb hr hlocks hP hS rfl (by simp only [m_X2_append, eq_false c_1, ↓reduceIte, if_true, if_false]) dX2_append_73
  · refine lv_aload_n hx hb dX2_append_63 rfl (lv_at hl 0 rfl) ?_
    refine lv_dup hx hb dX2_append_64 rfl ?_
    refine va_get (D := D) (ci := 2) (v := .int hi.2.2.2.2.2) (C := RX2) (T := TX2) (N := 6) hx hb hts (fun _ h => List.mem_cons_of_mem _ (List.mem_append_left _ (List.mem_append_right _ h))) hown hG.1 hP 0 rfl rfl 5 (by decide) (hts (.fieldLink RX2 33 "CatalogueLoader$History" "loadCount" "I") (List.mem_of_getElem? (i := 6) rfl)) (fun _ h9 => h9) rfl dX2_append_65 ?_
    refine lv_iconst (v := 1) hx hb dX2_append_68 (by decide) ?_
    refine lv_iadd hx hb dX2_append_69 ?_
    refine va_put (D := D) (ci := 2) (v := .int (hi.2.2.2.2.2 + 1)) (ty := .int) (C := RX2) (T := TX2) (N := 6) hx hb hts (fun _ h => List.mem_cons_of_mem _ (List.mem_append_left _ (List.mem_append_right _ h))) tyX2 tyX2_ok nmX2 hown hG.1 hP hD hS 0 rfl rfl 5 (by decide) (hts (.fieldLink RX2 33 "CatalogueLoader$History" "loadCount" "I") (List.mem_of_getElem? (i := 6) rfl)) (fun _ h9 => h9) rfl (by decide +kernel) rfl rfl (Nat.le_of_ble_eq_true rfl) dX2_append_70 (fun H locs hP hD hS => ?_)
    have hP : va_P D vwCl (cl_his Y ahi (m_X4_set 180 hi.1 hi.2.2.2.2.1 kind, m_X4_set 180 hi.2.1 hi.2.2.2.2.1 one, m_X4_set 180 hi.2.2.1 hi.2.2.2.2.1 two, m_X4_set 180 hi.2.2.2.1 hi.2.2.2.2.1 three, hi.2.2.2.2.1 + 1, hi.2.2.2.2.2 + 1)) H := hP
    have hD : va_D (cq_in (cl_his Y ahi hi)) (cl_his Y ahi (m_X4_set 180 hi.1 hi.2.2.2.2.1 kind, m_X4_set 180 hi.2.1 hi.2.2.2.2.1 one, m_X4_set 180 hi.2.2.1 hi.2.2.2.2.1 two, m_X4_set 180 hi.2.2.2.1 hi.2.2.2.2.1 three, hi.2.2.2.2.1 + 1, hi.2.2.2.2.2 + 1)) := hD
    exact cq_wV (wl := cl_his Y ahi (m_X4_set 180 hi.1 hi.2.2.2.2.1 kind, m_X4_set 180 hi.2.1 hi.2.2.2.2.1 one, m_X4_set 180 hi.2.2.1 hi.2.2.2.2.1 two, m_X4_set 180 hi.2.2.2.1 hi.2.2.2.2.1 three, hi.2.2.2.2.1 + 1, hi.2.2.2.2.2 + 1)) hx hb hr hlocks hP hS rfl (by simp only [m_X2_append, eq_true c_1, ↓reduceIte, if_true, if_false]) dX2_append_73

