
def m_X2_acts (hi : HisS) : Int32 := hi.2.2.2.2.1 - hi.2.2.2.2.2
set_option maxHeartbeats 4000000 in
set_option maxRecDepth 100000 in
theorem ct_X2_acts (l : Launch) (D : va_G) (Y : cq_Y) (ahi : Nat → Nat) (hi : HisS) : cq_MR l yX2_acts wsX2_acts (cq_rm 0 0) D Y (cl_his Y ahi hi) [.ref (ahi 0)] (some (.int (m_X2_acts hi))) := by
  refine cq_body (cc := cX2_acts) (maxL := 1) (ret := (some .int)) (by decide) rfl (Nat.le_of_ble_eq_true rfl) ?_
  intro p e s m below meth c hE hP hG hD ls hl
  obtain ⟨hx, hb, hr, hml, hts, hown, hnm, hlocks⟩ := hE
  have hown : s.vm.findClass RX2 = some m.cls := hown
  have hl : lv_has ls 1 [(0, .ref (ahi 0))] := hl
  refine lv_aload_n hx hb dX2_acts_0 rfl (lv_at hl 0 rfl) ?_
  refine va_get (D := D) (ci := 2) (v := .int hi.2.2.2.2.1) (C := RX2) (T := TX2) (N := 6) hx hb hts (fun _ h => List.mem_cons_of_mem _ (List.mem_append_right _ h)) hown hG.1 hP 0 rfl rfl 4 (by decide) (hts (.fieldLink RX2 29 "CatalogueLoader$History" "count" "I") (List.mem_of_getElem? (i := 1) rfl)) (fun _ h9 => h9) rfl dX2_acts_1 ?_
  refine lv_aload_n hx hb dX2_acts_4 rfl (lv_at hl 0 rfl) ?_
  refine va_get (D := D) (ci := 2) (v := .int hi.2.2.2.2.2) (C := RX2) (T := TX2) (N := 6) hx hb hts (fun _ h => List.mem_cons_of_mem _ (List.mem_append_right _ h)) hown hG.1 hP 0 rfl rfl 5 (by decide) (hts (.fieldLink RX2 33 "CatalogueLoader$History" "loadCount" "I") (List.mem_of_getElem? (i := 2) rfl)) (fun _ h9 => h9) rfl dX2_acts_5 ?_
  refine lv_isub hx hb dX2_acts_8 ?_
  exact cq_rI hx hb hr hlocks (vp_nar_int _) (by simp only [m_X2_acts, ↓reduceIte, if_true, if_false]) dX2_acts_9

def m_X2_append (hi : HisS) (kind : Int32) (one : Int32) (two : Int32) (three : Int32) : HisS := (if kind = 0 then (m_X4_set 180 hi.1 hi.2.2.2.2.1 kind, m_X4_set 180 hi.2.1 hi.2.2.2.2.1 one, m_X4_set 180 hi.2.2.1 hi.2.2.2.2.1 two, m_X4_set 180 hi.2.2.2.1 hi.2.2.2.2.1 three, hi.2.2.2.2.1 + 1, hi.2.2.2.2.2 + 1) else (m_X4_set 180 hi.1 hi.2.2.2.2.1 kind, m_X4_set 180 hi.2.1 hi.2.2.2.2.1 one, m_X4_set 180 hi.2.2.1 hi.2.2.2.2.1 two, m_X4_set 180 hi.2.2.2.1 hi.2.2.2.2.1 three, hi.2.2.2.2.1 + 1, hi.2.2.2.2.2))
set_option maxHeartbeats 4000000 in
set_option maxRecDepth 100000 in
theorem ct_X2_append (l : Launch) (D : va_G) (Y : cq_Y) (ahi : Nat → Nat) (hi : HisS) (kind : Int32) (one : Int32) (two : Int32) (three : Int32) : cq_MW l yX2_append wsX2_append (cq_rm 1 22) D Y (cl_his Y ahi hi) [.ref (ahi 0), .int kind, .int one, .int two, .int three] (none) (cl_his Y ahi (m_X2_append hi kind one two three)) := by
  refine cq_body (cc := cX2_append) (maxL := 5) (ret := none) (by decide) rfl (Nat.le_of_ble_eq_true rfl) ?_
  intro p e s m below meth c hE hP hG hD ls hl
  obtain ⟨hx, hb, hr, hml, hts, hown, hnm, hlocks⟩ := hE
  have hown : s.vm.findClass RX2 = some m.cls := hown
  have hS : va_S (cq_in (cl_his Y ahi hi)) s.heap s.heap [] := va_S.rf
  have hl : lv_has ls 5 [(0, .ref (ahi 0)), (1, .int kind), (2, .int one), (3, .int two), (4, .int three)] := hl
  refine lv_aload_n hx hb dX2_append_0 rfl (lv_at hl 0 rfl) ?_
  refine va_get (D := D) (ci := 2) (v := .ref (ahi 1)) (C := RX2) (T := TX2) (N := 6) hx hb hts (fun _ h => List.mem_cons_of_mem _ (List.mem_append_left _ (List.mem_append_right _ h))) hown hG.1 hP 0 rfl rfl 0 (by decide) (hts (.fieldLink RX2 14 "CatalogueLoader$History" "kinds" "LCatalogueLoader$Row;") (List.mem_of_getElem? (i := 1) rfl)) (fun _ h9 => h9) rfl dX2_append_1 ?_
  refine lv_aload_n hx hb dX2_append_4 rfl (lv_at hl 0 rfl) ?_
  refine va_get (D := D) (ci := 2) (v := .int hi.2.2.2.2.1) (C := RX2) (T := TX2) (N := 6) hx hb hts (fun _ h => List.mem_cons_of_mem _ (List.mem_append_left _ (List.mem_append_right _ h))) hown hG.1 hP 0 rfl rfl 4 (by decide) (hts (.fieldLink RX2 29 "CatalogueLoader$History" "count" "I") (List.mem_of_getElem? (i := 2) rfl)) (fun _ h9 => h9) rfl dX2_append_5 ?_
  refine lv_iload_n hx hb dX2_append_8 rfl (lv_at hl 1 rfl) ?_
  refine cq_WV (R := (cq_rm 1 22)) (args := ([.ref (ahi 0), .int kind, .int one, .int two, .int three] : List Value).toArray) (y := yX4_set) (bytes := cX4_set) (cc := cX2_append) (maxL := 3) (nL := 5) (n := 2) (index := 36) (ret := none) (ws := wsX4_set) (rm := cq_rm 0 0) (Ts := wsX2_append) (own := RX2) (D := D) (Y := Y) (W0 := cl_row Y (ahi 1) (ahi 2) 180 hi.1) (wl := cl_his Y ahi hi) (v := none) (st0 := [.int kind, .int hi.2.2.2.2.1, .ref (ahi 1)]) (As := [.int hi.2.2.2.2.1, .int kind]) (rest := []) (W1 := cl_row Y (ahi 1) (ahi 2) 180 (m_X4_set 180 hi.1 hi.2.2.2.2.1 kind)) (C := RX4) (b := ahi 1) (cl_his Y ahi (m_X4_set 180 hi.1 hi.2.2.2.2.1 kind, hi.2.1, hi.2.2.1, hi.2.2.2.1, hi.2.2.2.2.1, hi.2.2.2.2.2)) [0, 3, 4, 5, 6, 7, 8] ⟨hx, hb, hml, hown, hts⟩ (ct_X4_set l D Y (ahi 1) (ahi 2) 180 hi.1 hi.2.2.2.2.1 kind (by decide)) (cwV 2 hts gX2_append_X4_set rfl rfl rfl (by decide +kernel) ⟨Nat.le_of_ble_eq_true rfl, Nat.le_of_ble_eq_true rfl⟩) hG hP hD hS [1, 2] rfl (by decide +kernel) ⟨rfl, ⟨[(ahi 0, .inr (2, [.ref (ahi 1), .ref (ahi 3), .ref (ahi 5), .ref (ahi 7), .int hi.2.2.2.2.1, .int hi.2.2.2.2.2])), (ahi 3, .inr (4, [.ref (ahi 4)])), (ahi 4, .inl (Y.1, 180, .inl hi.2.1)), (ahi 5, .inr (4, [.ref (ahi 6)])), (ahi 6, .inl (Y.1, 180, .inl hi.2.2.1)), (ahi 7, .inr (4, [.ref (ahi 8)])), (ahi 8, .inl (Y.1, 180, .inl hi.2.2.2.1))], rfl, rfl⟩, 9, rfl, by decide +kernel⟩ ⟨[ahi 1, ahi 2], rfl, rfl⟩ 1 4 (qc := (RX4, TX4, 1)) (fs := [.ref (ahi 2)]) rfl rfl rfl rfl hl.1 rfl (Nat.le_of_ble_eq_true rfl) dX2_append_9 ⟨Nat.zero_le _, Nat.zero_le _⟩ (fun H locs hP hD hS => ?_)
  change W _ _ _ _ _ _ _ _ _ _ _ _ _ _ _ (F0 m 12 _ [])
  refine lv_aload_n hx hb dX2_append_12 rfl (lv_at hl 0 rfl) ?_
  refine va_get (D := D) (ci := 2) (v := .ref (ahi 3)) (C := RX2) (T := TX2) (N := 6) hx hb hts (fun _ h => List.mem_cons_of_mem _ (List.mem_append_left _ (List.mem_append_right _ h))) hown hG.1 hP 0 rfl rfl 1 (by decide) (hts (.fieldLink RX2 20 "CatalogueLoader$History" "first" "LCatalogueLoader$Row;") (List.mem_of_getElem? (i := 3) rfl)) (fun _ h9 => h9) rfl dX2_append_13 ?_
  refine lv_aload_n hx hb dX2_append_16 rfl (lv_at hl 0 rfl) ?_
  refine va_get (D := D) (ci := 2) (v := .int hi.2.2.2.2.1) (C := RX2) (T := TX2) (N := 6) hx hb hts (fun _ h => List.mem_cons_of_mem _ (List.mem_append_left _ (List.mem_append_right _ h))) hown hG.1 hP 0 rfl rfl 4 (by decide) (hts (.fieldLink RX2 29 "CatalogueLoader$History" "count" "I") (List.mem_of_getElem? (i := 2) rfl)) (fun _ h9 => h9) rfl dX2_append_17 ?_
  refine lv_iload_n hx hb dX2_append_20 rfl (lv_at hl 2 rfl) ?_
  refine cq_WV (R := (cq_rm 1 22)) (args := ([.ref (ahi 0), .int kind, .int one, .int two, .int three] : List Value).toArray) (y := yX4_set) (bytes := cX4_set) (cc := cX2_append) (maxL := 3) (nL := 5) (n := 2) (index := 36) (ret := none) (ws := wsX4_set) (rm := cq_rm 0 0) (Ts := wsX2_append) (own := RX2) (D := D) (Y := Y) (W0 := cl_row Y (ahi 3) (ahi 4) 180 hi.2.1) (wl := cl_his Y ahi (m_X4_set 180 hi.1 hi.2.2.2.2.1 kind, hi.2.1, hi.2.2.1, hi.2.2.2.1, hi.2.2.2.2.1, hi.2.2.2.2.2)) (v := none) (st0 := [.int one, .int hi.2.2.2.2.1, .ref (ahi 3)]) (As := [.int hi.2.2.2.2.1, .int one]) (rest := []) (W1 := cl_row Y (ahi 3) (ahi 4) 180 (m_X4_set 180 hi.2.1 hi.2.2.2.2.1 one)) (C := RX4) (b := ahi 3) (cl_his Y ahi (m_X4_set 180 hi.1 hi.2.2.2.2.1 kind, m_X4_set 180 hi.2.1 hi.2.2.2.2.1 one, hi.2.2.1, hi.2.2.2.1, hi.2.2.2.2.1, hi.2.2.2.2.2)) [0, 1, 2, 5, 6, 7, 8] ⟨hx, hb, hml, hown, hts⟩ (ct_X4_set l D Y (ahi 3) (ahi 4) 180 hi.2.1 hi.2.2.2.2.1 one (by decide)) (cwV 2 hts gX2_append_X4_set rfl rfl rfl (by decide +kernel) ⟨Nat.le_of_ble_eq_true rfl, Nat.le_of_ble_eq_true rfl⟩) hG hP hD hS [3, 4] rfl (by decide +kernel) ⟨rfl, ⟨[(ahi 0, .inr (2, [.ref (ahi 1), .ref (ahi 3), .ref (ahi 5), .ref (ahi 7), .int hi.2.2.2.2.1, .int hi.2.2.2.2.2])), (ahi 1, .inr (4, [.ref (ahi 2)])), (ahi 2, .inl (Y.1, 180, .inl (m_X4_set 180 hi.1 hi.2.2.2.2.1 kind))), (ahi 5, .inr (4, [.ref (ahi 6)])), (ahi 6, .inl (Y.1, 180, .inl hi.2.2.1)), (ahi 7, .inr (4, [.ref (ahi 8)])), (ahi 8, .inl (Y.1, 180, .inl hi.2.2.2.1))], rfl, rfl⟩, 9, rfl, by decide +kernel⟩ ⟨[ahi 3, ahi 4], rfl, rfl⟩ 3 4 (qc := (RX4, TX4, 1)) (fs := [.ref (ahi 4)]) rfl rfl rfl rfl hl.1 rfl (Nat.le_of_ble_eq_true rfl) dX2_append_21 ⟨Nat.zero_le _, Nat.zero_le _⟩ (fun H locs hP hD hS => ?_)
  change W _ _ _ _ _ _ _ _ _ _ _ _ _ _ _ (F0 m 24 _ [])
  refine lv_aload_n hx hb dX2_append_24 rfl (lv_at hl 0 rfl) ?_
  refine va_get (D := D) (ci := 2) (v := .ref (ahi 5)) (C := RX2) (T := TX2) (N := 6) hx hb hts (fun _ h => List.mem_cons_of_mem _ (List.mem_append_left _ (List.mem_append_right _ h))) hown hG.1 hP 0 rfl rfl 2 (by decide) (hts (.fieldLink RX2 23 "CatalogueLoader$History" "second" "LCatalogueLoader$Row;") (List.mem_of_getElem? (i := 4) rfl)) (fun _ h9 => h9) rfl dX2_append_25 ?_
  refine lv_aload_n hx hb dX2_append_28 rfl (lv_at hl 0 rfl) ?_
  refine va_get (D := D) (ci := 2) (v := .int hi.2.2.2.2.1) (C := RX2) (T := TX2) (N := 6) hx hb hts (fun _ h => List.mem_cons_of_mem _ (List.mem_append_left _ (List.mem_append_right _ h))) hown hG.1 hP 0 rfl rfl 4 (by decide) (hts (.fieldLink RX2 29 "CatalogueLoader$History" "count" "I") (List.mem_of_getElem? (i := 2) rfl)) (fun _ h9 => h9) rfl dX2_append_29 ?_
  refine lv_iload_n hx hb dX2_append_32 rfl (lv_at hl 3 rfl) ?_
  refine cq_WV (R := (cq_rm 1 22)) (args := ([.ref (ahi 0), .int kind, .int one, .int two, .int three] : List Value).toArray) (y := yX4_set) (bytes := cX4_set) (cc := cX2_append) (maxL := 3) (nL := 5) (n := 2) (index := 36) (ret := none) (ws := wsX4_set) (rm := cq_rm 0 0) (Ts := wsX2_append) (own := RX2) (D := D) (Y := Y) (W0 := cl_row Y (ahi 5) (ahi 6) 180 hi.2.2.1) (wl := cl_his Y ahi (m_X4_set 180 hi.1 hi.2.2.2.2.1 kind, m_X4_set 180 hi.2.1 hi.2.2.2.2.1 one, hi.2.2.1, hi.2.2.2.1, hi.2.2.2.2.1, hi.2.2.2.2.2)) (v := none) (st0 := [.int two, .int hi.2.2.2.2.1, .ref (ahi 5)]) (As := [.int hi.2.2.2.2.1, .int two]) (rest := []) (W1 := cl_row Y (ahi 5) (ahi 6) 180 (m_X4_set 180 hi.2.2.1 hi.2.2.2.2.1 two)) (C := RX4) (b := ahi 5) (cl_his Y ahi (m_X4_set 180 hi.1 hi.2.2.2.2.1 kind, m_X4_set 180 hi.2.1 hi.2.2.2.2.1 one, m_X4_set 180 hi.2.2.1 hi.2.2.2.2.1 two, hi.2.2.2.1, hi.2.2.2.2.1, hi.2.2.2.2.2)) [0, 1, 2, 3, 4, 7, 8] ⟨hx, hb, hml, hown, hts⟩ (ct_X4_set l D Y (ahi 5) (ahi 6) 180 hi.2.2.1 hi.2.2.2.2.1 two (by decide)) (cwV 2 hts gX2_append_X4_set rfl rfl rfl (by decide +kernel) ⟨Nat.le_of_ble_eq_true rfl, Nat.le_of_ble_eq_true rfl⟩) hG hP hD hS [5, 6] rfl (by decide +kernel) ⟨rfl, ⟨[(ahi 0, .inr (2, [.ref (ahi 1), .ref (ahi 3), .ref (ahi 5), .ref (ahi 7), .int hi.2.2.2.2.1, .int hi.2.2.2.2.2])), (ahi 1, .inr (4, [.ref (ahi 2)])), (ahi 2, .inl (Y.1, 180, .inl (m_X4_set 180 hi.1 hi.2.2.2.2.1 kind))), (ahi 3, .inr (4, [.ref (ahi 4)])), (ahi 4, .inl (Y.1, 180, .inl (m_X4_set 180 hi.2.1 hi.2.2.2.2.1 one))), (ahi 7, .inr (4, [.ref (ahi 8)])), (ahi 8, .inl (Y.1, 180, .inl hi.2.2.2.1))], rfl, rfl⟩, 9, rfl, by decide +kernel⟩ ⟨[ahi 5, ahi 6], rfl, rfl⟩ 5 4 (qc := (RX4, TX4, 1)) (fs := [.ref (ahi 6)]) rfl rfl rfl rfl hl.1 rfl (Nat.le_of_ble_eq_true rfl) dX2_append_33 ⟨Nat.zero_le _, Nat.zero_le _⟩ (fun H locs hP hD hS => ?_)
  change W _ _ _ _ _ _ _ _ _ _ _ _ _ _ _ (F0 m 36 _ [])
  refine lv_aload_n hx hb dX2_append_36 rfl (lv_at hl 0 rfl) ?_
  refine va_get (D := D) (ci := 2) (v := .ref (ahi 7)) (C := RX2) (T := TX2) (N := 6) hx hb hts (fun _ h => List.mem_cons_of_mem _ (List.mem_append_left _ (List.mem_append_right _ h))) hown hG.1 hP 0 rfl rfl 3 (by decide) (hts (.fieldLink RX2 26 "CatalogueLoader$History" "third" "LCatalogueLoader$Row;") (List.mem_of_getElem? (i := 5) rfl)) (fun _ h9 => h9) rfl dX2_append_37 ?_
  refine lv_aload_n hx hb dX2_append_40 rfl (lv_at hl 0 rfl) ?_
  refine va_get (D := D) (ci := 2) (v := .int hi.2.2.2.2.1) (C := RX2) (T := TX2) (N := 6) hx hb hts (fun _ h => List.mem_cons_of_mem _ (List.mem_append_left _ (List.mem_append_right _ h))) hown hG.1 hP 0 rfl rfl 4 (by decide) (hts (.fieldLink RX2 29 "CatalogueLoader$History" "count" "I") (List.mem_of_getElem? (i := 2) rfl)) (fun _ h9 => h9) rfl dX2_append_41 ?_
  refine lv_iload hx hb dX2_append_44 (lv_at hl 4 rfl) ?_
  refine cq_WV (R := (cq_rm 1 22)) (args := ([.ref (ahi 0), .int kind, .int one, .int two, .int three] : List Value).toArray) (y := yX4_set) (bytes := cX4_set) (cc := cX2_append) (maxL := 3) (nL := 5) (n := 2) (index := 36) (ret := none) (ws := wsX4_set) (rm := cq_rm 0 0) (Ts := wsX2_append) (own := RX2) (D := D) (Y := Y) (W0 := cl_row Y (ahi 7) (ahi 8) 180 hi.2.2.2.1) (wl := cl_his Y ahi (m_X4_set 180 hi.1 hi.2.2.2.2.1 kind, m_X4_set 180 hi.2.1 hi.2.2.2.2.1 one, m_X4_set 180 hi.2.2.1 hi.2.2.2.2.1 two, hi.2.2.2.1, hi.2.2.2.2.1, hi.2.2.2.2.2)) (v := none) (st0 := [.int three, .int hi.2.2.2.2.1, .ref (ahi 7)]) (As := [.int hi.2.2.2.2.1, .int three]) (rest := []) (W1 := cl_row Y (ahi 7) (ahi 8) 180 (m_X4_set 180 hi.2.2.2.1 hi.2.2.2.2.1 three)) (C := RX4) (b := ahi 7) (cl_his Y ahi (m_X4_set 180 hi.1 hi.2.2.2.2.1 kind, m_X4_set 180 hi.2.1 hi.2.2.2.2.1 one, m_X4_set 180 hi.2.2.1 hi.2.2.2.2.1 two, m_X4_set 180 hi.2.2.2.1 hi.2.2.2.2.1 three, hi.2.2.2.2.1, hi.2.2.2.2.2)) [0, 1, 2, 3, 4, 5, 6] ⟨hx, hb, hml, hown, hts⟩ (ct_X4_set l D Y (ahi 7) (ahi 8) 180 hi.2.2.2.1 hi.2.2.2.2.1 three (by decide)) (cwV 2 hts gX2_append_X4_set rfl rfl rfl (by decide +kernel) ⟨Nat.le_of_ble_eq_true rfl, Nat.le_of_ble_eq_true rfl⟩) hG hP hD hS [7, 8] rfl (by decide +kernel) ⟨rfl, ⟨[(ahi 0, .inr (2, [.ref (ahi 1), .ref (ahi 3), .ref (ahi 5), .ref (ahi 7), .int hi.2.2.2.2.1, .int hi.2.2.2.2.2])), (ahi 1, .inr (4, [.ref (ahi 2)])), (ahi 2, .inl (Y.1, 180, .inl (m_X4_set 180 hi.1 hi.2.2.2.2.1 kind))), (ahi 3, .inr (4, [.ref (ahi 4)])), (ahi 4, .inl (Y.1, 180, .inl (m_X4_set 180 hi.2.1 hi.2.2.2.2.1 one))), (ahi 5, .inr (4, [.ref (ahi 6)])), (ahi 6, .inl (Y.1, 180, .inl (m_X4_set 180 hi.2.2.1 hi.2.2.2.2.1 two)))], rfl, rfl⟩, 9, rfl, by decide +kernel⟩ ⟨[ahi 7, ahi 8], rfl, rfl⟩ 7 4 (qc := (RX4, TX4, 1)) (fs := [.ref (ahi 8)]) rfl rfl rfl rfl hl.1 rfl (Nat.le_of_ble_eq_true rfl) dX2_append_46 ⟨Nat.zero_le _, Nat.zero_le _⟩ (fun H locs hP hD hS => ?_)
  change W _ _ _ _ _ _ _ _ _ _ _ _ _ _ _ (F0 m 49 _ [])
  refine lv_aload_n hx hb dX2_append_49 rfl (lv_at hl 0 rfl) ?_
  refine lv_dup hx hb dX2_append_50 rfl ?_
  refine va_get (D := D) (ci := 2) (v := .int hi.2.2.2.2.1) (C := RX2) (T := TX2) (N := 6) hx hb hts (fun _ h => List.mem_cons_of_mem _ (List.mem_append_left _ (List.mem_append_right _ h))) hown hG.1 hP 0 rfl rfl 4 (by decide) (hts (.fieldLink RX2 29 "CatalogueLoader$History" "count" "I") (List.mem_of_getElem? (i := 2) rfl)) (fun _ h9 => h9) rfl dX2_append_51 ?_
  refine lv_iconst (v := 1) hx hb dX2_append_54 (by decide) ?_
  refine lv_iadd hx hb dX2_append_55 ?_
  refine va_put (D := D) (ci := 2) (v := .int (hi.2.2.2.2.1 + 1)) (ty := .int) (C := RX2) (T := TX2) (N := 6) hx hb hts (fun _ h => List.mem_cons_of_mem _ (List.mem_append_left _ (List.mem_append_right _ h))) tyX2 tyX2_ok nmX2 hown hG.1 hP hD hS 0 rfl rfl 4 (by decide) (hts (.fieldLink RX2 29 "CatalogueLoader$History" "count" "I") (List.mem_of_getElem? (i := 2) rfl)) (fun _ h9 => h9) rfl (by decide +kernel) rfl rfl (Nat.le_of_ble_eq_true rfl) dX2_append_56 (fun H locs hP hD hS => ?_)
  have hP : va_P D vwCl (cl_his Y ahi (m_X4_set 180 hi.1 hi.2.2.2.2.1 kind, m_X4_set 180 hi.2.1 hi.2.2.2.2.1 one, m_X4_set 180 hi.2.2.1 hi.2.2.2.2.1 two, m_X4_set 180 hi.2.2.2.1 hi.2.2.2.2.1 three, hi.2.2.2.2.1 + 1, hi.2.2.2.2.2)) H := hP
  have hD : va_D (cq_in (cl_his Y ahi hi)) (cl_his Y ahi (m_X4_set 180 hi.1 hi.2.2.2.2.1 kind, m_X4_set 180 hi.2.1 hi.2.2.2.2.1 one, m_X4_set 180 hi.2.2.1 hi.2.2.2.2.1 two, m_X4_set 180 hi.2.2.2.1 hi.2.2.2.2.1 three, hi.2.2.2.2.1 + 1, hi.2.2.2.2.2)) := hD
  refine lv_iload_n hx hb dX2_append_59 rfl (lv_at hl 1 rfl) ?_
  refine lv_if_ne (tgt := 73) hx hb dX2_append_60 (by decide) (fun c_1 => ?_) (fun c_1 => ?_)
  · exact cq_wV (wl := cl_his Y ahi (m_X4_set 180 hi.1 hi.2.2.2.2.1 kind, m_X4_set 180 hi.2.1 hi.2.2.2.2.1 one, m_X4_set 180 hi.2.2.1 hi.2.2.2.2.1 two, m_X4_set 180 hi.2.2.2.1 hi.2.2.2.2.1 three, hi.2.2.2.2.1 + 1, hi.2.2.2.2.2)) hx hb hr hlocks hP hS rfl (by simp only [m_X2_append, eq_false c_1, ↓reduceIte, if_true, if_false]) dX2_append_73
  · refine lv_aload_n hx hb dX2_append_63 rfl (lv_at hl 0 rfl) ?_
    refine lv_dup hx hb dX2_append_64 rfl ?_
    refine va_get (D := D) (ci := 2) (v := .int hi.2.2.2.2.2) (C := RX2) (T := TX2) (N := 6) hx hb hts (fun _ h => List.mem_cons_of_mem _ (List.mem_append_left _ (List.mem_append_right _ h))) hown hG.1 hP 0 rfl rfl 5 (by decide) (hts (.fieldLink RX2 33 "CatalogueLoader$History" "loadCount" "I") (List.mem_of_getElem? (i := 6) rfl)) (fun _ h9 => h9) rfl dX2_append_65 ?_
    refine lv_iconst (v := 1) hx hb dX2_append_68 (by decide) ?_
    refine lv_iadd hx hb dX2_append_69 ?_
    refine va_put (D := D) (ci := 2) (v := .int (hi.2.2.2.2.2 + 1)) (ty := .int) (C := RX2) (T := TX2) (N := 6) hx hb hts (fun _ h => List.mem_cons_of_mem _ (List.mem_append_left _ (List.mem_append_right _ h))) tyX2 tyX2_ok nmX2 hown hG.1 hP hD hS 0 rfl rfl 5 (by decide) (hts (.fieldLink RX2 33 "CatalogueLoader$History" "loadCount" "I") (List.mem_of_getElem? (i := 6) rfl)) (fun _ h9 => h9) rfl (by decide +kernel) rfl rfl (Nat.le_of_ble_eq_true rfl) dX2_append_70 (fun H locs hP hD hS => ?_)
    have hP : va_P D vwCl (cl_his Y ahi (m_X4_set 180 hi.1 hi.2.2.2.2.1 kind, m_X4_set 180 hi.2.1 hi.2.2.2.2.1 one, m_X4_set 180 hi.2.2.1 hi.2.2.2.2.1 two, m_X4_set 180 hi.2.2.2.1 hi.2.2.2.2.1 three, hi.2.2.2.2.1 + 1, hi.2.2.2.2.2 + 1)) H := hP
    have hD : va_D (cq_in (cl_his Y ahi hi)) (cl_his Y ahi (m_X4_set 180 hi.1 hi.2.2.2.2.1 kind, m_X4_set 180 hi.2.1 hi.2.2.2.2.1 one, m_X4_set 180 hi.2.2.1 hi.2.2.2.2.1 two, m_X4_set 180 hi.2.2.2.1 hi.2.2.2.2.1 three, hi.2.2.2.2.1 + 1, hi.2.2.2.2.2 + 1)) := hD
    exact cq_wV (wl := cl_his Y ahi (m_X4_set 180 hi.1 hi.2.2.2.2.1 kind, m_X4_set 180 hi.2.1 hi.2.2.2.2.1 one, m_X4_set 180 hi.2.2.1 hi.2.2.2.2.1 two, m_X4_set 180 hi.2.2.2.1 hi.2.2.2.2.1 three, hi.2.2.2.2.1 + 1, hi.2.2.2.2.2 + 1)) hx hb hr hlocks hP hS rfl (by simp only [m_X2_append, eq_true c_1, ↓reduceIte, if_true, if_false]) dX2_append_73

def m_X3_begin (ld : LodS) : LodS × Int32 := ((ld.1, ld.2.1, ld.2.2.1, ld.2.2.2.1, ld.2.2.2.2.1, ld.2.2.2.2.2.1, ld.2.2.2.2.2.2 + 1), ld.2.2.2.2.2.2)
set_option maxHeartbeats 4000000 in
set_option maxRecDepth 100000 in
theorem ct_X3_begin (l : Launch) (D : va_G) (Y : cq_Y) (ald : Nat → Nat) (ld : LodS) : cq_MW l yX3_begin wsX3_begin (cq_rm 0 0) D Y (cl_lod Y ald ld) [.ref (ald 0)] (some (.int (m_X3_begin ld).2)) (cl_lod Y ald ((m_X3_begin ld).1)) := by
  refine cq_body (cc := cX3_begin) (maxL := 2) (ret := (some .int)) (by decide) rfl (Nat.le_of_ble_eq_true rfl) ?_
  intro p e s m below meth c hE hP hG hD ls hl
  obtain ⟨hx, hb, hr, hml, hts, hown, hnm, hlocks⟩ := hE
  have hown : s.vm.findClass RX3 = some m.cls := hown
  have hS : va_S (cq_in (cl_lod Y ald ld)) s.heap s.heap [] := va_S.rf
  have hl : lv_has ls 2 [(0, .ref (ald 0))] := hl
  refine lv_aload_n hx hb dX3_begin_0 rfl (lv_at hl 0 rfl) ?_
  refine va_get (D := D) (ci := 3) (v := .int ld.2.2.2.2.2.2) (C := RX3) (T := TX3) (N := 7) hx hb hts (fun _ h => List.mem_cons_of_mem _ (List.mem_append_right _ h)) hown hG.1 hP 0 rfl rfl 6 (by decide) (hts (.fieldLink RX3 42 "CatalogueLoader$Loads" "batchCount" "I") (List.mem_of_getElem? (i := 1) rfl)) (fun _ h9 => h9) rfl dX3_begin_1 ?_
  refine lv_istore_n (lv' := [(1, .int ld.2.2.2.2.2.2), (0, .ref (ald 0))]) hx hb dX3_begin_4 rfl hl (by decide) rfl (fun ls hl => ?_)
  refine lv_aload_n hx hb dX3_begin_5 rfl (lv_at hl 1 rfl) ?_
  refine lv_dup hx hb dX3_begin_6 rfl ?_
  refine va_get (D := D) (ci := 3) (v := .int ld.2.2.2.2.2.2) (C := RX3) (T := TX3) (N := 7) hx hb hts (fun _ h => List.mem_cons_of_mem _ (List.mem_append_right _ h)) hown hG.1 hP 0 rfl rfl 6 (by decide) (hts (.fieldLink RX3 42 "CatalogueLoader$Loads" "batchCount" "I") (List.mem_of_getElem? (i := 1) rfl)) (fun _ h9 => h9) rfl dX3_begin_7 ?_
  refine lv_iconst (v := 1) hx hb dX3_begin_10 (by decide) ?_
  refine lv_iadd hx hb dX3_begin_11 ?_
  refine va_put (D := D) (ci := 3) (v := .int (ld.2.2.2.2.2.2 + 1)) (ty := .int) (C := RX3) (T := TX3) (N := 7) hx hb hts (fun _ h => List.mem_cons_of_mem _ (List.mem_append_right _ h)) tyX3 tyX3_ok nmX3 hown hG.1 hP hD hS 0 rfl rfl 6 (by decide) (hts (.fieldLink RX3 42 "CatalogueLoader$Loads" "batchCount" "I") (List.mem_of_getElem? (i := 1) rfl)) (fun _ h9 => h9) rfl (by decide +kernel) rfl rfl (Nat.le_of_ble_eq_true rfl) dX3_begin_12 (fun H locs hP hD hS => ?_)
  have hP : va_P D vwCl (cl_lod Y ald (ld.1, ld.2.1, ld.2.2.1, ld.2.2.2.1, ld.2.2.2.2.1, ld.2.2.2.2.2.1, ld.2.2.2.2.2.2 + 1)) H := hP
  have hD : va_D (cq_in (cl_lod Y ald ld)) (cl_lod Y ald (ld.1, ld.2.1, ld.2.2.1, ld.2.2.2.1, ld.2.2.2.2.1, ld.2.2.2.2.2.1, ld.2.2.2.2.2.2 + 1)) := hD
  refine lv_iload_n hx hb dX3_begin_15 rfl (lv_at hl 0 rfl) ?_
  exact cq_wI (wl := cl_lod Y ald (ld.1, ld.2.1, ld.2.2.1, ld.2.2.2.1, ld.2.2.2.2.1, ld.2.2.2.2.2.1, ld.2.2.2.2.2.2 + 1)) hx hb hr hlocks (vp_nar_int _) hP hS (by simp only [m_X3_begin, ↓reduceIte, if_true, if_false]) (by simp only [m_X3_begin, ↓reduceIte, if_true, if_false]) dX3_begin_16

def m_X3_close (ld : LodS) (source : Int32) : LodS × Int32 := ((ld.1, ld.2.1, m_X4_set 80 ld.2.2.1 ld.2.2.2.2.2.1 source, m_X4_set 80 ld.2.2.2.1 ld.2.2.2.2.2.1 (ld.2.2.2.2.2.2 - 1), ld.2.2.2.2.1, ld.2.2.2.2.2.1 + 1, ld.2.2.2.2.2.2), ld.2.2.2.2.2.1)
set_option maxHeartbeats 4000000 in
set_option maxRecDepth 100000 in
theorem ct_X3_close (l : Launch) (D : va_G) (Y : cq_Y) (ald : Nat → Nat) (ld : LodS) (source : Int32) : cq_MW l yX3_close wsX3_close (cq_rm 1 22) D Y (cl_lod Y ald ld) [.ref (ald 0), .int source] (some (.int (m_X3_close ld source).2)) (cl_lod Y ald ((m_X3_close ld source).1)) := by
  refine cq_body (cc := cX3_close) (maxL := 3) (ret := (some .int)) (by decide) rfl (Nat.le_of_ble_eq_true rfl) ?_
  intro p e s m below meth c hE hP hG hD ls hl
  obtain ⟨hx, hb, hr, hml, hts, hown, hnm, hlocks⟩ := hE
  have hown : s.vm.findClass RX3 = some m.cls := hown
  have hS : va_S (cq_in (cl_lod Y ald ld)) s.heap s.heap [] := va_S.rf
  have hl : lv_has ls 3 [(0, .ref (ald 0)), (1, .int source)] := hl
  refine lv_aload_n hx hb dX3_close_0 rfl (lv_at hl 0 rfl) ?_
  refine va_get (D := D) (ci := 3) (v := .int ld.2.2.2.2.2.1) (C := RX3) (T := TX3) (N := 7) hx hb hts (fun _ h => List.mem_cons_of_mem _ (List.mem_append_left _ (List.mem_append_right _ h))) hown hG.1 hP 0 rfl rfl 5 (by decide) (hts (.fieldLink RX3 38 "CatalogueLoader$Loads" "count" "I") (List.mem_of_getElem? (i := 1) rfl)) (fun _ h9 => h9) rfl dX3_close_1 ?_
  refine lv_istore_n (lv' := [(2, .int ld.2.2.2.2.2.1), (0, .ref (ald 0)), (1, .int source)]) hx hb dX3_close_4 rfl hl (by decide) rfl (fun ls hl => ?_)
  refine lv_aload_n hx hb dX3_close_5 rfl (lv_at hl 1 rfl) ?_
  refine va_get (D := D) (ci := 3) (v := .ref (ald 5)) (C := RX3) (T := TX3) (N := 7) hx hb hts (fun _ h => List.mem_cons_of_mem _ (List.mem_append_left _ (List.mem_append_right _ h))) hown hG.1 hP 0 rfl rfl 2 (by decide) (hts (.fieldLink RX3 28 "CatalogueLoader$Loads" "sources" "LCatalogueLoader$Row;") (List.mem_of_getElem? (i := 2) rfl)) (fun _ h9 => h9) rfl dX3_close_6 ?_
  refine lv_iload_n hx hb dX3_close_9 rfl (lv_at hl 0 rfl) ?_
  refine lv_iload_n hx hb dX3_close_10 rfl (lv_at hl 2 rfl) ?_
  refine cq_WV (R := (cq_rm 1 22)) (args := ([.ref (ald 0), .int source] : List Value).toArray) (y := yX4_set) (bytes := cX4_set) (cc := cX3_close) (maxL := 3) (nL := 3) (n := 2) (index := 45) (ret := none) (ws := wsX4_set) (rm := cq_rm 0 0) (Ts := wsX3_close) (own := RX3) (D := D) (Y := Y) (W0 := cl_row Y (ald 5) (ald 6) 80 ld.2.2.1) (wl := cl_lod Y ald ld) (v := none) (st0 := [.int source, .int ld.2.2.2.2.2.1, .ref (ald 5)]) (As := [.int ld.2.2.2.2.2.1, .int source]) (rest := []) (W1 := cl_row Y (ald 5) (ald 6) 80 (m_X4_set 80 ld.2.2.1 ld.2.2.2.2.2.1 source)) (C := RX4) (b := ald 5) (cl_lod Y ald (ld.1, ld.2.1, m_X4_set 80 ld.2.2.1 ld.2.2.2.2.2.1 source, ld.2.2.2.1, ld.2.2.2.2.1, ld.2.2.2.2.2.1, ld.2.2.2.2.2.2)) [0, 1, 2, 3, 4, 7, 8, 9, 10] ⟨hx, hb, hml, hown, hts⟩ (ct_X4_set l D Y (ald 5) (ald 6) 80 ld.2.2.1 ld.2.2.2.2.2.1 source (by decide)) (cwV 2 hts gX3_close_X4_set rfl rfl rfl (by decide +kernel) ⟨Nat.le_of_ble_eq_true rfl, Nat.le_of_ble_eq_true rfl⟩) hG hP hD hS [5, 6] rfl (by decide +kernel) ⟨rfl, ⟨[(ald 0, .inr (3, [.ref (ald 1), .ref (ald 3), .ref (ald 5), .ref (ald 7), .ref (ald 9), .int ld.2.2.2.2.2.1, .int ld.2.2.2.2.2.2])), (ald 1, .inr (1, [.int 81, .int 3, .ref (ald 2)])), (ald 2, .inl (Y.1, 243, .inl ld.1)), (ald 3, .inr (1, [.int 81, .int 4, .ref (ald 4)])), (ald 4, .inl (Y.1, 324, .inl ld.2.1)), (ald 7, .inr (4, [.ref (ald 8)])), (ald 8, .inl (Y.1, 80, .inl ld.2.2.2.1)), (ald 9, .inr (4, [.ref (ald 10)])), (ald 10, .inl (Y.1, 10, .inl ld.2.2.2.2.1))], rfl, rfl⟩, 11, rfl, by decide +kernel⟩ ⟨[ald 5, ald 6], rfl, rfl⟩ 5 4 (qc := (RX4, TX4, 1)) (fs := [.ref (ald 6)]) rfl rfl rfl rfl hl.1 rfl (Nat.le_of_ble_eq_true rfl) dX3_close_11 ⟨Nat.zero_le _, Nat.zero_le _⟩ (fun H locs hP hD hS => ?_)
  change W _ _ _ _ _ _ _ _ _ _ _ _ _ _ _ (F0 m 14 _ [])
  refine lv_aload_n hx hb dX3_close_14 rfl (lv_at hl 1 rfl) ?_
  refine va_get (D := D) (ci := 3) (v := .ref (ald 7)) (C := RX3) (T := TX3) (N := 7) hx hb hts (fun _ h => List.mem_cons_of_mem _ (List.mem_append_left _ (List.mem_append_right _ h))) hown hG.1 hP 0 rfl rfl 3 (by decide) (hts (.fieldLink RX3 32 "CatalogueLoader$Loads" "batches" "LCatalogueLoader$Row;") (List.mem_of_getElem? (i := 3) rfl)) (fun _ h9 => h9) rfl dX3_close_15 ?_
  refine lv_iload_n hx hb dX3_close_18 rfl (lv_at hl 0 rfl) ?_
  refine lv_aload_n hx hb dX3_close_19 rfl (lv_at hl 1 rfl) ?_
  refine va_get (D := D) (ci := 3) (v := .int ld.2.2.2.2.2.2) (C := RX3) (T := TX3) (N := 7) hx hb hts (fun _ h => List.mem_cons_of_mem _ (List.mem_append_left _ (List.mem_append_right _ h))) hown hG.1 hP 0 rfl rfl 6 (by decide) (hts (.fieldLink RX3 42 "CatalogueLoader$Loads" "batchCount" "I") (List.mem_of_getElem? (i := 4) rfl)) (fun _ h9 => h9) rfl dX3_close_20 ?_
  refine lv_iconst (v := 1) hx hb dX3_close_23 (by decide) ?_
  refine lv_isub hx hb dX3_close_24 ?_
  refine cq_WV (R := (cq_rm 1 22)) (args := ([.ref (ald 0), .int source] : List Value).toArray) (y := yX4_set) (bytes := cX4_set) (cc := cX3_close) (maxL := 3) (nL := 3) (n := 2) (index := 45) (ret := none) (ws := wsX4_set) (rm := cq_rm 0 0) (Ts := wsX3_close) (own := RX3) (D := D) (Y := Y) (W0 := cl_row Y (ald 7) (ald 8) 80 ld.2.2.2.1) (wl := cl_lod Y ald (ld.1, ld.2.1, m_X4_set 80 ld.2.2.1 ld.2.2.2.2.2.1 source, ld.2.2.2.1, ld.2.2.2.2.1, ld.2.2.2.2.2.1, ld.2.2.2.2.2.2)) (v := none) (st0 := [.int (ld.2.2.2.2.2.2 - 1), .int ld.2.2.2.2.2.1, .ref (ald 7)]) (As := [.int ld.2.2.2.2.2.1, .int (ld.2.2.2.2.2.2 - 1)]) (rest := []) (W1 := cl_row Y (ald 7) (ald 8) 80 (m_X4_set 80 ld.2.2.2.1 ld.2.2.2.2.2.1 (ld.2.2.2.2.2.2 - 1))) (C := RX4) (b := ald 7) (cl_lod Y ald (ld.1, ld.2.1, m_X4_set 80 ld.2.2.1 ld.2.2.2.2.2.1 source, m_X4_set 80 ld.2.2.2.1 ld.2.2.2.2.2.1 (ld.2.2.2.2.2.2 - 1), ld.2.2.2.2.1, ld.2.2.2.2.2.1, ld.2.2.2.2.2.2)) [0, 1, 2, 3, 4, 5, 6, 9, 10] ⟨hx, hb, hml, hown, hts⟩ (ct_X4_set l D Y (ald 7) (ald 8) 80 ld.2.2.2.1 ld.2.2.2.2.2.1 (ld.2.2.2.2.2.2 - 1) (by decide)) (cwV 2 hts gX3_close_X4_set rfl rfl rfl (by decide +kernel) ⟨Nat.le_of_ble_eq_true rfl, Nat.le_of_ble_eq_true rfl⟩) hG hP hD hS [7, 8] rfl (by decide +kernel) ⟨rfl, ⟨[(ald 0, .inr (3, [.ref (ald 1), .ref (ald 3), .ref (ald 5), .ref (ald 7), .ref (ald 9), .int ld.2.2.2.2.2.1, .int ld.2.2.2.2.2.2])), (ald 1, .inr (1, [.int 81, .int 3, .ref (ald 2)])), (ald 2, .inl (Y.1, 243, .inl ld.1)), (ald 3, .inr (1, [.int 81, .int 4, .ref (ald 4)])), (ald 4, .inl (Y.1, 324, .inl ld.2.1)), (ald 5, .inr (4, [.ref (ald 6)])), (ald 6, .inl (Y.1, 80, .inl (m_X4_set 80 ld.2.2.1 ld.2.2.2.2.2.1 source))), (ald 9, .inr (4, [.ref (ald 10)])), (ald 10, .inl (Y.1, 10, .inl ld.2.2.2.2.1))], rfl, rfl⟩, 11, rfl, by decide +kernel⟩ ⟨[ald 7, ald 8], rfl, rfl⟩ 7 4 (qc := (RX4, TX4, 1)) (fs := [.ref (ald 8)]) rfl rfl rfl rfl hl.1 rfl (Nat.le_of_ble_eq_true rfl) dX3_close_25 ⟨Nat.zero_le _, Nat.zero_le _⟩ (fun H locs hP hD hS => ?_)
  change W _ _ _ _ _ _ _ _ _ _ _ _ _ _ _ (F0 m 28 _ [])
  refine lv_aload_n hx hb dX3_close_28 rfl (lv_at hl 1 rfl) ?_
  refine lv_dup hx hb dX3_close_29 rfl ?_
  refine va_get (D := D) (ci := 3) (v := .int ld.2.2.2.2.2.1) (C := RX3) (T := TX3) (N := 7) hx hb hts (fun _ h => List.mem_cons_of_mem _ (List.mem_append_left _ (List.mem_append_right _ h))) hown hG.1 hP 0 rfl rfl 5 (by decide) (hts (.fieldLink RX3 38 "CatalogueLoader$Loads" "count" "I") (List.mem_of_getElem? (i := 1) rfl)) (fun _ h9 => h9) rfl dX3_close_30 ?_
  refine lv_iconst (v := 1) hx hb dX3_close_33 (by decide) ?_
  refine lv_iadd hx hb dX3_close_34 ?_
  refine va_put (D := D) (ci := 3) (v := .int (ld.2.2.2.2.2.1 + 1)) (ty := .int) (C := RX3) (T := TX3) (N := 7) hx hb hts (fun _ h => List.mem_cons_of_mem _ (List.mem_append_left _ (List.mem_append_right _ h))) tyX3 tyX3_ok nmX3 hown hG.1 hP hD hS 0 rfl rfl 5 (by decide) (hts (.fieldLink RX3 38 "CatalogueLoader$Loads" "count" "I") (List.mem_of_getElem? (i := 1) rfl)) (fun _ h9 => h9) rfl (by decide +kernel) rfl rfl (Nat.le_of_ble_eq_true rfl) dX3_close_35 (fun H locs hP hD hS => ?_)
  have hP : va_P D vwCl (cl_lod Y ald (ld.1, ld.2.1, m_X4_set 80 ld.2.2.1 ld.2.2.2.2.2.1 source, m_X4_set 80 ld.2.2.2.1 ld.2.2.2.2.2.1 (ld.2.2.2.2.2.2 - 1), ld.2.2.2.2.1, ld.2.2.2.2.2.1 + 1, ld.2.2.2.2.2.2)) H := hP
  have hD : va_D (cq_in (cl_lod Y ald ld)) (cl_lod Y ald (ld.1, ld.2.1, m_X4_set 80 ld.2.2.1 ld.2.2.2.2.2.1 source, m_X4_set 80 ld.2.2.2.1 ld.2.2.2.2.2.1 (ld.2.2.2.2.2.2 - 1), ld.2.2.2.2.1, ld.2.2.2.2.2.1 + 1, ld.2.2.2.2.2.2)) := hD
  refine lv_iload_n hx hb dX3_close_38 rfl (lv_at hl 0 rfl) ?_
  exact cq_wI (wl := cl_lod Y ald (ld.1, ld.2.1, m_X4_set 80 ld.2.2.1 ld.2.2.2.2.2.1 source, m_X4_set 80 ld.2.2.2.1 ld.2.2.2.2.2.1 (ld.2.2.2.2.2.2 - 1), ld.2.2.2.2.1, ld.2.2.2.2.2.1 + 1, ld.2.2.2.2.2.2)) hx hb hr hlocks (vp_nar_int _) hP hS (by simp only [m_X3_close, ↓reduceIte, if_true, if_false]) (by simp only [m_X3_close, ↓reduceIte, if_true, if_false]) dX3_close_39

def m_X3_isLeftOut (ld : LodS) (load : Int32) : Int32 := (if m_X4_get 10 ld.2.2.2.2.1 (m_X4_get 80 ld.2.2.2.1 load) = 1 then 1 else 0)
set_option maxHeartbeats 4000000 in
set_option maxRecDepth 100000 in
theorem ct_X3_isLeftOut (l : Launch) (D : va_G) (Y : cq_Y) (ald : Nat → Nat) (ld : LodS) (load : Int32) : cq_MR l yX3_isLeftOut wsX3_isLeftOut (cq_rm 1 21) D Y (cl_lod Y ald ld) [.ref (ald 0), .int load] (some (.int (m_X3_isLeftOut ld load))) := by
  refine cq_body (cc := cX3_isLeftOut) (maxL := 2) (ret := (some .boolean)) (by decide) rfl (Nat.le_of_ble_eq_true rfl) ?_
  intro p e s m below meth c hE hP hG hD ls hl
  obtain ⟨hx, hb, hr, hml, hts, hown, hnm, hlocks⟩ := hE
  have hown : s.vm.findClass RX3 = some m.cls := hown
  have hl : lv_has ls 2 [(0, .ref (ald 0)), (1, .int load)] := hl
  refine lv_aload_n hx hb dX3_isLeftOut_0 rfl (lv_at hl 0 rfl) ?_
  refine va_get (D := D) (ci := 3) (v := .ref (ald 9)) (C := RX3) (T := TX3) (N := 7) hx hb hts (fun _ h => List.mem_cons_of_mem _ (List.mem_append_left _ (List.mem_append_right _ h))) hown hG.1 hP 0 rfl rfl 4 (by decide) (hts (.fieldLink RX3 35 "CatalogueLoader$Loads" "undone" "LCatalogueLoader$Row;") (List.mem_of_getElem? (i := 1) rfl)) (fun _ h9 => h9) rfl dX3_isLeftOut_1 ?_
  refine lv_aload_n hx hb dX3_isLeftOut_4 rfl (lv_at hl 0 rfl) ?_
  refine va_get (D := D) (ci := 3) (v := .ref (ald 7)) (C := RX3) (T := TX3) (N := 7) hx hb hts (fun _ h => List.mem_cons_of_mem _ (List.mem_append_left _ (List.mem_append_right _ h))) hown hG.1 hP 0 rfl rfl 3 (by decide) (hts (.fieldLink RX3 32 "CatalogueLoader$Loads" "batches" "LCatalogueLoader$Row;") (List.mem_of_getElem? (i := 2) rfl)) (fun _ h9 => h9) rfl dX3_isLeftOut_5 ?_
  refine lv_iload_n hx hb dX3_isLeftOut_8 rfl (lv_at hl 1 rfl) ?_
  refine cq_RV (R := (cq_rm 1 21)) (args := ([.ref (ald 0), .int load] : List Value).toArray) (y := yX4_get) (bytes := cX4_get) (cc := cX3_isLeftOut) (maxL := 2) (nL := 2) (n := 1) (index := 48) (ret := (some .int)) (ws := wsX4_get) (rm := cq_rm 0 0) (Ts := wsX3_isLeftOut) (own := RX3) (D := D) (Y := Y) (W0 := cl_row Y (ald 7) (ald 8) 80 ld.2.2.2.1) (wl := cl_lod Y ald ld) (v := some (.int (m_X4_get 80 ld.2.2.2.1 load))) (st0 := [.int load, .ref (ald 7), .ref (ald 9)]) (As := [.int load]) (rest := [.ref (ald 9)]) (C := RX4) (b := ald 7) ⟨hx, hb, hml, hown, hts⟩ (ct_X4_get l D Y (ald 7) (ald 8) 80 ld.2.2.2.1 load (by decide)) (cwV 1 hts gX3_isLeftOut_X4_get rfl rfl rfl (by decide +kernel) ⟨Nat.le_of_ble_eq_true rfl, Nat.le_of_ble_eq_true rfl⟩) hG hP hD [7, 8] rfl (by decide +kernel) 7 4 (qc := (RX4, TX4, 1)) (fs := [.ref (ald 8)]) rfl rfl rfl rfl hl.1 rfl (Nat.le_of_ble_eq_true rfl) dX3_isLeftOut_9 ⟨Nat.zero_le _, Nat.zero_le _⟩ ?_
  change W _ _ _ _ _ _ _ _ _ _ _ _ _ _ _ (F0 m 12 _ (.int (m_X4_get 80 ld.2.2.2.1 load) :: [.ref (ald 9)]))
  refine cq_RV (R := (cq_rm 1 21)) (args := ([.ref (ald 0), .int load] : List Value).toArray) (y := yX4_get) (bytes := cX4_get) (cc := cX3_isLeftOut) (maxL := 2) (nL := 2) (n := 1) (index := 48) (ret := (some .int)) (ws := wsX4_get) (rm := cq_rm 0 0) (Ts := wsX3_isLeftOut) (own := RX3) (D := D) (Y := Y) (W0 := cl_row Y (ald 9) (ald 10) 10 ld.2.2.2.2.1) (wl := cl_lod Y ald ld) (v := some (.int (m_X4_get 10 ld.2.2.2.2.1 (m_X4_get 80 ld.2.2.2.1 load)))) (st0 := [.int (m_X4_get 80 ld.2.2.2.1 load), .ref (ald 9)]) (As := [.int (m_X4_get 80 ld.2.2.2.1 load)]) (rest := []) (C := RX4) (b := ald 9) ⟨hx, hb, hml, hown, hts⟩ (ct_X4_get l D Y (ald 9) (ald 10) 10 ld.2.2.2.2.1 (m_X4_get 80 ld.2.2.2.1 load) (by decide)) (cwV 1 hts gX3_isLeftOut_X4_get rfl rfl rfl (by decide +kernel) ⟨Nat.le_of_ble_eq_true rfl, Nat.le_of_ble_eq_true rfl⟩) hG hP hD [9, 10] rfl (by decide +kernel) 9 4 (qc := (RX4, TX4, 1)) (fs := [.ref (ald 10)]) rfl rfl rfl rfl hl.1 rfl (Nat.le_of_ble_eq_true rfl) dX3_isLeftOut_12 ⟨Nat.zero_le _, Nat.zero_le _⟩ ?_
  change W _ _ _ _ _ _ _ _ _ _ _ _ _ _ _ (F0 m 15 _ (.int (m_X4_get 10 ld.2.2.2.2.1 (m_X4_get 80 ld.2.2.2.1 load)) :: []))
  refine lv_iconst (v := 1) hx hb dX3_isLeftOut_15 (by decide) ?_
  refine lv_icmp_ne (tgt := 23) hx hb dX3_isLeftOut_16 (by decide) (fun c_1 => ?_) (fun c_1 => ?_)
  · refine lv_iconst (v := 0) hx hb dX3_isLeftOut_23 (by decide) ?_
    exact cq_rI hx hb hr hlocks rfl (by simp only [m_X3_isLeftOut, eq_false c_1, ↓reduceIte, if_true, if_false]) dX3_isLeftOut_24
  · refine lv_iconst (v := 1) hx hb dX3_isLeftOut_19 (by decide) ?_
    refine lv_goto (tgt := 24) hx hb dX3_isLeftOut_20 (by decide) ?_
    exact cq_rI hx hb hr hlocks rfl (by simp only [m_X3_isLeftOut, eq_true c_1, ↓reduceIte, if_true, if_false]) dX3_isLeftOut_24
theorem nb_X3_isLeftOut (ld : LodS) (load : Int32) : narrow .boolean (.int (m_X3_isLeftOut ld load)) = .int (m_X3_isLeftOut ld load) := by unfold m_X3_isLeftOut; (try dsimp only); (repeat' split) <;> rfl

def m_X5_replaces (st : SetS) (field : Int32) (source : Int32) (before : Int32) : Int32 := (let x_1 := m_X4_get 4 st.2.1 field; (if x_1 = 0 then 0 else (if x_1 = 2 then 1 else (if m_X4_get 5 st.1 source < m_X4_get 5 st.1 before then 0 else 1))))
set_option maxHeartbeats 4000000 in
set_option maxRecDepth 100000 in
theorem ct_X5_replaces (l : Launch) (D : va_G) (Y : cq_Y) (ast : Nat → Nat) (st : SetS) (field : Int32) (source : Int32) (before : Int32) : cq_MR l yX5_replaces wsX5_replaces (cq_rm 1 21) D Y (cl_set Y ast st) [.ref (ast 0), .int field, .int source, .int before] (some (.int (m_X5_replaces st field source before))) := by
  refine cq_body (cc := cX5_replaces) (maxL := 4) (ret := (some .boolean)) (by decide) rfl (Nat.le_of_ble_eq_true rfl) ?_
  intro p e s m below meth c hE hP hG hD ls hl
  obtain ⟨hx, hb, hr, hml, hts, hown, hnm, hlocks⟩ := hE
  have hown : s.vm.findClass RX5 = some m.cls := hown
  have hl : lv_has ls 4 [(0, .ref (ast 0)), (1, .int field), (2, .int source), (3, .int before)] := hl
  refine lv_aload_n hx hb dX5_replaces_0 rfl (lv_at hl 0 rfl) ?_
  refine va_get (D := D) (ci := 5) (v := .ref (ast 3)) (C := RX5) (T := TX5) (N := 3) hx hb hts (fun _ h => List.mem_cons_of_mem _ (List.mem_append_left _ (List.mem_append_right _ h))) hown hG.1 hP 0 rfl rfl 1 (by decide) (hts (.fieldLink RX5 23 "CatalogueLoader$Settings" "rules" "LCatalogueLoader$Row;") (List.mem_of_getElem? (i := 1) rfl)) (fun _ h9 => h9) rfl dX5_replaces_1 ?_
  refine lv_iload_n hx hb dX5_replaces_4 rfl (lv_at hl 1 rfl) ?_
  refine cq_RV (R := (cq_rm 1 21)) (args := ([.ref (ast 0), .int field, .int source, .int before] : List Value).toArray) (y := yX4_get) (bytes := cX4_get) (cc := cX5_replaces) (maxL := 2) (nL := 4) (n := 1) (index := 29) (ret := (some .int)) (ws := wsX4_get) (rm := cq_rm 0 0) (Ts := wsX5_replaces) (own := RX5) (D := D) (Y := Y) (W0 := cl_row Y (ast 3) (ast 4) 4 st.2.1) (wl := cl_set Y ast st) (v := some (.int (m_X4_get 4 st.2.1 field))) (st0 := [.int field, .ref (ast 3)]) (As := [.int field]) (rest := []) (C := RX4) (b := ast 3) ⟨hx, hb, hml, hown, hts⟩ (ct_X4_get l D Y (ast 3) (ast 4) 4 st.2.1 field (by decide)) (cwV 1 hts gX5_replaces_X4_get rfl rfl rfl (by decide +kernel) ⟨Nat.le_of_ble_eq_true rfl, Nat.le_of_ble_eq_true rfl⟩) hG hP hD [3, 4] rfl (by decide +kernel) 3 4 (qc := (RX4, TX4, 1)) (fs := [.ref (ast 4)]) rfl rfl rfl rfl hl.1 rfl (Nat.le_of_ble_eq_true rfl) dX5_replaces_5 ⟨Nat.zero_le _, Nat.zero_le _⟩ ?_
  change W _ _ _ _ _ _ _ _ _ _ _ _ _ _ _ (F0 m 8 _ (.int (m_X4_get 4 st.2.1 field) :: []))
  refine lv_topi (fun x_1 ex_1 => ?_)
  by_cases c_2 : x_1 = 0
  · refine lv_lookup (off := 28) (tgt := 36) hx hb dX5_replaces_8 (by decide) (by rw [c_2]; decide) (by decide) ?_
    refine lv_iconst (v := 0) hx hb dX5_replaces_36 (by decide) ?_
    exact cq_rI hx hb hr hlocks rfl (by subst ex_1; simp only [m_X5_replaces, eq_true c_2, ↓reduceIte, if_true, if_false]) dX5_replaces_37
  · by_cases c_3 : x_1 = 2
    · refine lv_lookup (off := 30) (tgt := 38) hx hb dX5_replaces_8 (by decide) (by rw [lv_osw c_2 (by decide)]; rw [c_3]; decide) (by decide) ?_
      refine lv_iconst (v := 1) hx hb dX5_replaces_38 (by decide) ?_
      exact cq_rI hx hb hr hlocks rfl (by subst ex_1; simp only [m_X5_replaces, eq_false c_2, eq_true c_3, ↓reduceIte, if_true, if_false]) dX5_replaces_39
    · refine lv_lookup (off := 32) (tgt := 40) hx hb dX5_replaces_8 (by decide) (by rw [lv_osw c_2 (by decide)]; rw [lv_osw c_3 (by decide)]; rfl) (by decide) ?_
      refine lv_aload_n hx hb dX5_replaces_40 rfl (lv_at hl 0 rfl) ?_
      refine va_get (D := D) (ci := 5) (v := .ref (ast 1)) (C := RX5) (T := TX5) (N := 3) hx hb hts (fun _ h => List.mem_cons_of_mem _ (List.mem_append_left _ (List.mem_append_right _ h))) hown hG.1 hP 0 rfl rfl 0 (by decide) (hts (.fieldLink RX5 14 "CatalogueLoader$Settings" "ranks" "LCatalogueLoader$Row;") (List.mem_of_getElem? (i := 2) rfl)) (fun _ h9 => h9) rfl dX5_replaces_41 ?_
      refine lv_iload_n hx hb dX5_replaces_44 rfl (lv_at hl 2 rfl) ?_
      refine cq_RV (R := (cq_rm 1 21)) (args := ([.ref (ast 0), .int field, .int source, .int before] : List Value).toArray) (y := yX4_get) (bytes := cX4_get) (cc := cX5_replaces) (maxL := 2) (nL := 4) (n := 1) (index := 29) (ret := (some .int)) (ws := wsX4_get) (rm := cq_rm 0 0) (Ts := wsX5_replaces) (own := RX5) (D := D) (Y := Y) (W0 := cl_row Y (ast 1) (ast 2) 5 st.1) (wl := cl_set Y ast st) (v := some (.int (m_X4_get 5 st.1 source))) (st0 := [.int source, .ref (ast 1)]) (As := [.int source]) (rest := []) (C := RX4) (b := ast 1) ⟨hx, hb, hml, hown, hts⟩ (ct_X4_get l D Y (ast 1) (ast 2) 5 st.1 source (by decide)) (cwV 1 hts gX5_replaces_X4_get rfl rfl rfl (by decide +kernel) ⟨Nat.le_of_ble_eq_true rfl, Nat.le_of_ble_eq_true rfl⟩) hG hP hD [1, 2] rfl (by decide +kernel) 1 4 (qc := (RX4, TX4, 1)) (fs := [.ref (ast 2)]) rfl rfl rfl rfl hl.1 rfl (Nat.le_of_ble_eq_true rfl) dX5_replaces_45 ⟨Nat.zero_le _, Nat.zero_le _⟩ ?_
      change W _ _ _ _ _ _ _ _ _ _ _ _ _ _ _ (F0 m 48 _ (.int (m_X4_get 5 st.1 source) :: []))
      refine lv_aload_n hx hb dX5_replaces_48 rfl (lv_at hl 0 rfl) ?_
      refine va_get (D := D) (ci := 5) (v := .ref (ast 1)) (C := RX5) (T := TX5) (N := 3) hx hb hts (fun _ h => List.mem_cons_of_mem _ (List.mem_append_left _ (List.mem_append_right _ h))) hown hG.1 hP 0 rfl rfl 0 (by decide) (hts (.fieldLink RX5 14 "CatalogueLoader$Settings" "ranks" "LCatalogueLoader$Row;") (List.mem_of_getElem? (i := 2) rfl)) (fun _ h9 => h9) rfl dX5_replaces_49 ?_
      refine lv_iload_n hx hb dX5_replaces_52 rfl (lv_at hl 3 rfl) ?_
      refine cq_RV (R := (cq_rm 1 21)) (args := ([.ref (ast 0), .int field, .int source, .int before] : List Value).toArray) (y := yX4_get) (bytes := cX4_get) (cc := cX5_replaces) (maxL := 2) (nL := 4) (n := 1) (index := 29) (ret := (some .int)) (ws := wsX4_get) (rm := cq_rm 0 0) (Ts := wsX5_replaces) (own := RX5) (D := D) (Y := Y) (W0 := cl_row Y (ast 1) (ast 2) 5 st.1) (wl := cl_set Y ast st) (v := some (.int (m_X4_get 5 st.1 before))) (st0 := [.int before, .ref (ast 1), .int (m_X4_get 5 st.1 source)]) (As := [.int before]) (rest := [.int (m_X4_get 5 st.1 source)]) (C := RX4) (b := ast 1) ⟨hx, hb, hml, hown, hts⟩ (ct_X4_get l D Y (ast 1) (ast 2) 5 st.1 before (by decide)) (cwV 1 hts gX5_replaces_X4_get rfl rfl rfl (by decide +kernel) ⟨Nat.le_of_ble_eq_true rfl, Nat.le_of_ble_eq_true rfl⟩) hG hP hD [1, 2] rfl (by decide +kernel) 1 4 (qc := (RX4, TX4, 1)) (fs := [.ref (ast 2)]) rfl rfl rfl rfl hl.1 rfl (Nat.le_of_ble_eq_true rfl) dX5_replaces_53 ⟨Nat.zero_le _, Nat.zero_le _⟩ ?_
      change W _ _ _ _ _ _ _ _ _ _ _ _ _ _ _ (F0 m 56 _ (.int (m_X4_get 5 st.1 before) :: [.int (m_X4_get 5 st.1 source)]))
      refine lv_icmp_lt (tgt := 63) hx hb dX5_replaces_56 (by decide) (fun c_4 => ?_) (fun c_4 => ?_)
      · refine lv_iconst (v := 0) hx hb dX5_replaces_63 (by decide) ?_
        exact cq_rI hx hb hr hlocks rfl (by subst ex_1; simp only [m_X5_replaces, eq_false c_2, eq_false c_3, eq_true c_4, ↓reduceIte, if_true, if_false]) dX5_replaces_64
      · refine lv_iconst (v := 1) hx hb dX5_replaces_59 (by decide) ?_
        refine lv_goto (tgt := 64) hx hb dX5_replaces_60 (by decide) ?_
        exact cq_rI hx hb hr hlocks rfl (by subst ex_1; simp only [m_X5_replaces, eq_false c_2, eq_false c_3, eq_false c_4, ↓reduceIte, if_true, if_false]) dX5_replaces_64
theorem nb_X5_replaces (st : SetS) (field : Int32) (source : Int32) (before : Int32) : narrow .boolean (.int (m_X5_replaces st field source before)) = .int (m_X5_replaces st field source before) := by unfold m_X5_replaces; (try dsimp only); (repeat' split) <;> rfl

def m_X0_has (ct : CatS) (record : Int32) : Int32 := (if m_X4_get 80 ct.1 record = 1 then 1 else 0)
set_option maxHeartbeats 4000000 in
set_option maxRecDepth 100000 in
theorem ct_X0_has (l : Launch) (D : va_G) (Y : cq_Y) (act : Nat → Nat) (ct : CatS) (record : Int32) : cq_MR l yX0_has wsX0_has (cq_rm 1 21) D Y (cl_cat Y act ct) [.ref (act 0), .int record] (some (.int (m_X0_has ct record))) := by
  refine cq_body (cc := cX0_has) (maxL := 2) (ret := (some .boolean)) (by decide) rfl (Nat.le_of_ble_eq_true rfl) ?_
  intro p e s m below meth c hE hP hG hD ls hl
  obtain ⟨hx, hb, hr, hml, hts, hown, hnm, hlocks⟩ := hE
  have hown : s.vm.findClass RX0 = some m.cls := hown
  have hl : lv_has ls 2 [(0, .ref (act 0)), (1, .int record)] := hl
  refine lv_aload_n hx hb dX0_has_0 rfl (lv_at hl 0 rfl) ?_
  refine va_get (D := D) (ci := 0) (v := .ref (act 1)) (C := RX0) (T := TX0) (N := 7) hx hb hts (fun _ h => List.mem_cons_of_mem _ (List.mem_append_left _ (List.mem_append_right _ h))) hown hG.1 hP 0 rfl rfl 0 (by decide) (hts (.fieldLink RX0 14 "CatalogueLoader$Catalogue" "there" "LCatalogueLoader$Row;") (List.mem_of_getElem? (i := 1) rfl)) (fun _ h9 => h9) rfl dX0_has_1 ?_
  refine lv_iload_n hx hb dX0_has_4 rfl (lv_at hl 1 rfl) ?_
  refine cq_RV (R := (cq_rm 1 21)) (args := ([.ref (act 0), .int record] : List Value).toArray) (y := yX4_get) (bytes := cX4_get) (cc := cX0_has) (maxL := 2) (nL := 2) (n := 1) (index := 49) (ret := (some .int)) (ws := wsX4_get) (rm := cq_rm 0 0) (Ts := wsX0_has) (own := RX0) (D := D) (Y := Y) (W0 := cl_row Y (act 1) (act 2) 80 ct.1) (wl := cl_cat Y act ct) (v := some (.int (m_X4_get 80 ct.1 record))) (st0 := [.int record, .ref (act 1)]) (As := [.int record]) (rest := []) (C := RX4) (b := act 1) ⟨hx, hb, hml, hown, hts⟩ (ct_X4_get l D Y (act 1) (act 2) 80 ct.1 record (by decide)) (cwV 1 hts gX0_has_X4_get rfl rfl rfl (by decide +kernel) ⟨Nat.le_of_ble_eq_true rfl, Nat.le_of_ble_eq_true rfl⟩) hG hP hD [1, 2] rfl (by decide +kernel) 1 4 (qc := (RX4, TX4, 1)) (fs := [.ref (act 2)]) rfl rfl rfl rfl hl.1 rfl (Nat.le_of_ble_eq_true rfl) dX0_has_5 ⟨Nat.zero_le _, Nat.zero_le _⟩ ?_
  change W _ _ _ _ _ _ _ _ _ _ _ _ _ _ _ (F0 m 8 _ (.int (m_X4_get 80 ct.1 record) :: []))
  refine lv_iconst (v := 1) hx hb dX0_has_8 (by decide) ?_
  refine lv_icmp_ne (tgt := 16) hx hb dX0_has_9 (by decide) (fun c_1 => ?_) (fun c_1 => ?_)
  · refine lv_iconst (v := 0) hx hb dX0_has_16 (by decide) ?_
    exact cq_rI hx hb hr hlocks rfl (by simp only [m_X0_has, eq_false c_1, ↓reduceIte, if_true, if_false]) dX0_has_17
  · refine lv_iconst (v := 1) hx hb dX0_has_12 (by decide) ?_
    refine lv_goto (tgt := 17) hx hb dX0_has_13 (by decide) ?_
    exact cq_rI hx hb hr hlocks rfl (by simp only [m_X0_has, eq_true c_1, ↓reduceIte, if_true, if_false]) dX0_has_17
theorem nb_X0_has (ct : CatS) (record : Int32) : narrow .boolean (.int (m_X0_has ct record)) = .int (m_X0_has ct record) := by unfold m_X0_has; (try dsimp only); (repeat' split) <;> rfl
