
def m_X0_layFields_lp13 (ct : CatS) (st : SetS) (ld : LodS) (load : Int32) (record : Int32) (x_1 : Int32) : Nat → Nat → CatS → CatS
  | 0, k13, s0_13 => s0_13
  | n13 + 1, k13, s0_13 => (let x_5 := m_X1_get 81 4 324 ld.2.1 load (nI k13); (if x_5 = (-1) then m_X0_layFields_lp13 ct st ld load record x_1 n13 (k13 + 1) s0_13 else (if m_X1_get 80 4 320 s0_13.2.2.2.2.1 record (nI k13) = 0 then (if m_X1_get 80 4 320 s0_13.2.2.1 record (nI k13) = (-1) then m_X0_layFields_lp13 ct st ld load record x_1 n13 (k13 + 1) (s0_13.1, s0_13.2.1, m_X1_set 80 4 320 s0_13.2.2.1 record (nI k13) x_5, m_X1_set 80 4 320 s0_13.2.2.2.1 record (nI k13) x_1, s0_13.2.2.2.2.1, s0_13.2.2.2.2.2.1, s0_13.2.2.2.2.2.2) else (if m_X5_replaces st (nI k13) x_1 (m_X1_get 80 4 320 s0_13.2.2.2.1 record (nI k13)) = 0 then m_X0_layFields_lp13 ct st ld load record x_1 n13 (k13 + 1) s0_13 else m_X0_layFields_lp13 ct st ld load record x_1 n13 (k13 + 1) (s0_13.1, s0_13.2.1, m_X1_set 80 4 320 s0_13.2.2.1 record (nI k13) x_5, m_X1_set 80 4 320 s0_13.2.2.2.1 record (nI k13) x_1, s0_13.2.2.2.2.1, s0_13.2.2.2.2.2.1, s0_13.2.2.2.2.2.2))) else m_X0_layFields_lp13 ct st ld load record x_1 n13 (k13 + 1) s0_13)))
def m_X0_layFields (ct : CatS) (st : SetS) (ld : LodS) (load : Int32) (record : Int32) : CatS := (let x_1 := m_X4_get 80 ld.2.2.1 load; (let fin_2 := m_X0_layFields_lp13 ct st ld load record x_1 4 0 ct; fin_2))
set_option maxHeartbeats 4000000 in
set_option maxRecDepth 100000 in
theorem ct_X0_layFields (l : Launch) (D : va_G) (Y : cq_Y) (act : Nat → Nat) (ct : CatS) (ast : Nat → Nat) (st : SetS) (ald : Nat → Nat) (ld : LodS) (load : Int32) (record : Int32) : cq_MW l yX0_layFields wsX0_layFields (cq_rm 2 44) D Y (cl_cat Y act ct ++ (cl_set Y ast st ++ (cl_lod Y ald ld))) [.ref (act 0), .ref (ast 0), .ref (ald 0), .int load, .int record] (none) (cl_cat Y act (m_X0_layFields ct st ld load record) ++ (cl_set Y ast st ++ (cl_lod Y ald ld))) := by
  refine cq_body (cc := cX0_layFields) (maxL := 8) (ret := none) (by decide) rfl (Nat.le_of_ble_eq_true rfl) ?_
  intro p e s m below meth c hE hP hG hD ls hl
  obtain ⟨hx, hb, hr, hml, hts, hown, hnm, hlocks⟩ := hE
  have hS : va_S (cq_in (cl_cat Y act ct ++ (cl_set Y ast st ++ (cl_lod Y ald ld)))) s.heap s.heap [] := va_S.rf
  have hl : lv_has ls 8 [(0, .ref (act 0)), (1, .ref (ast 0)), (2, .ref (ald 0)), (3, .int load), (4, .int record)] := hl
  refine lv_aload_n hx hb dX0_layFields_0 rfl (lv_at hl 2 rfl) ?_
  refine va_getN (D := D) (ci := 3) (v := .ref (ald 5)) (C := RX3) (T := TX3) (N := 7) hx hb hts (fun _ h => List.mem_cons_of_mem _ (List.mem_append_left _ (List.mem_append_left _ (List.mem_append_left _ (List.mem_append_left _ (List.mem_append_right _ h)))))) hown hG.1 hP 22 rfl rfl 2 (by decide) (hG.nest 8 rfl) (fun _ h9 => h9) rfl dX0_layFields_1 ?_
  refine lv_iload_n hx hb dX0_layFields_4 rfl (lv_at hl 3 rfl) ?_
  refine cq_RV (st0 := [.int load, .ref (ald 5)] ++ []) (As := [.int load]) (rest := []) ⟨hx, hb, hml, hown, hts⟩ (ct_X4_get l D Y (ald 5) (ald 6) 80 ld.2.2.1 load (by decide)) (cwV 1 hts gX0_layFields_X4_get rfl rfl rfl (by decide +kernel) ⟨Nat.le_of_ble_eq_true rfl, Nat.le_of_ble_eq_true rfl⟩) hG hP hD [27, 28] rfl (by decide) 27 4 rfl rfl rfl rfl hl.1 rfl (Nat.le_of_ble_eq_true rfl) dX0_layFields_5 ⟨Nat.zero_le _, Nat.zero_le _⟩ ?_
  change W _ _ _ _ _ _ _ _ _ _ _ _ _ _ _ (F0 m 8 _ (.int (m_X4_get 80 ld.2.2.1 load) :: []))
  refine lv_topi (fun x_1 ex_1 => ?_)
  refine lv_istore (lv' := [(5, .int x_1), (0, .ref (act 0)), (1, .ref (ast 0)), (2, .ref (ald 0)), (3, .int load), (4, .int record)]) hx hb dX0_layFields_8 hl (by decide) rfl (fun ls hl => ?_)
  refine lv_iconst (v := 0) hx hb dX0_layFields_10 (by decide) ?_
  refine lv_istore (lv' := [(6, .int 0), (5, .int x_1), (0, .ref (act 0)), (1, .ref (ast 0)), (2, .ref (ald 0)), (3, .int load), (4, .int record)]) hx hb dX0_layFields_11 hl (by decide) rfl (fun ls hl => ?_)
  obtain ⟨fin_2, efin_2⟩ : ∃ z, z = m_X0_layFields_lp13 ct st ld load record x_1 4 0 ct := ⟨_, rfl⟩
  have lp13 : ∀ (n13 k13 : Nat) (s0_13 : CatS) (H : Heap) (locs : List Loc) (ls : Array Slot), k13 + n13 = 4 → m_X0_layFields_lp13 ct st ld load record x_1 n13 k13 s0_13 = fin_2 → va_P D vwCl (cl_cat Y act s0_13 ++ (cl_set Y ast st ++ (cl_lod Y ald ld))) H → va_D (cq_in (cl_cat Y act ct ++ (cl_set Y ast st ++ (cl_lod Y ald ld)))) (cl_cat Y act s0_13 ++ (cl_set Y ast st ++ (cl_lod Y ald ld))) → va_S (cq_in (cl_cat Y act ct ++ (cl_set Y ast st ++ (cl_lod Y ald ld)))) s.heap H locs → lv_has ls 8 [(6, .int (nI k13)), (5, .int x_1), (0, .ref (act 0)), (1, .ref (ast 0)), (2, .ref (ald 0)), (3, .int load), (4, .int record)] → W p l e (cq_rm 2 44) s m ([.ref (act 0), .ref (ast 0), .ref (ald 0), .int load, .int record] : List Value).toArray below meth c H locs 0 0 (MQ below (cq_W D (none) (cl_cat Y act ct ++ (cl_set Y ast st ++ (cl_lod Y ald ld))) (cl_cat Y act (m_X0_layFields ct st ld load record) ++ (cl_set Y ast st ++ (cl_lod Y ald ld)))) ([.ref (act 0), .ref (ast 0), .ref (ald 0), .int load, .int record] : List Value).toArray s 0 0 (cq_in (cl_cat Y act ct ++ (cl_set Y ast st ++ (cl_lod Y ald ld))))) (F0 m 13 ls []) := by
    intro n13; induction n13 with
    | zero =>
      intro k13 s0_13 H locs ls hkn hres13 hP hD hS hl
      have hz : 4 ≤ nI k13 := cq_z (N := 4) rfl (by omega) (by omega)
      have e9 : fin_2 = s0_13 := hres13.symm
      subst e9
      refine lv_iload hx hb dX0_layFields_13 (lv_at hl 0 rfl) ?_
      refine lv_iconst (v := 4) hx hb dX0_layFields_15 (by decide) ?_
      refine lv_icmp_ge (tgt := 120) hx hb dX0_layFields_16 (by decide) (fun c_3 => ?_) (fun c_3 => ?_)
      · exact cq_wV (wl := cl_cat Y act fin_2 ++ (cl_set Y ast st ++ (cl_lod Y ald ld))) hx hb hr hlocks hP hS rfl (by subst efin_2; subst ex_1; simp only [m_X0_layFields, ↓reduceIte, if_true, if_false]) dX0_layFields_120
      · exact absurd hz c_3
    | succ n13 ih13 =>
      intro k13 s0_13 H locs ls hkn hres13 hP hD hS hl
      have hz : ¬ (4 ≤ nI k13) := cq_s (N := 4) rfl (by omega) (by omega)
      refine lv_iload hx hb dX0_layFields_13 (lv_at hl 0 rfl) ?_
      refine lv_iconst (v := 4) hx hb dX0_layFields_15 (by decide) ?_
      refine lv_icmp_ge (tgt := 120) hx hb dX0_layFields_16 (by decide) (fun c_4 => ?_) (fun c_4 => ?_)
      · exact absurd c_4 hz
      · refine lv_aload_n hx hb dX0_layFields_19 rfl (lv_at hl 4 rfl) ?_
        refine va_getN (D := D) (ci := 3) (v := .ref (ald 3)) (C := RX3) (T := TX3) (N := 7) hx hb hts (fun _ h => List.mem_cons_of_mem _ (List.mem_append_left _ (List.mem_append_left _ (List.mem_append_left _ (List.mem_append_left _ (List.mem_append_right _ h)))))) hown hG.1 hP 22 rfl rfl 1 (by decide) (hG.nest 7 rfl) (fun _ h9 => h9) rfl dX0_layFields_20 ?_
        refine lv_iload_n hx hb dX0_layFields_23 rfl (lv_at hl 5 rfl) ?_
        refine lv_iload hx hb dX0_layFields_24 (lv_at hl 0 rfl) ?_
        refine cq_RV (st0 := [.int (nI k13), .int load, .ref (ald 3)] ++ []) (As := [.int load, .int (nI k13)]) (rest := []) ⟨hx, hb, hml, hown, hts⟩ (ct_X1_get l D Y (ald 3) (ald 4) 81 4 324 ld.2.1 load (nI k13) (by decide)) (cwV 2 hts gX0_layFields_X1_get rfl rfl rfl (by decide +kernel) ⟨Nat.le_of_ble_eq_true rfl, Nat.le_of_ble_eq_true rfl⟩) hG hP hD [25, 26] rfl (by decide) 25 1 rfl rfl rfl rfl hl.1 rfl (Nat.le_of_ble_eq_true rfl) dX0_layFields_26 ⟨Nat.zero_le _, Nat.zero_le _⟩ ?_
        change W _ _ _ _ _ _ _ _ _ _ _ _ _ _ _ (F0 m 29 _ (.int (m_X1_get 81 4 324 ld.2.1 load (nI k13)) :: []))
        refine lv_topi (fun x_5 ex_5 => ?_)
        refine lv_istore (lv' := [(7, .int x_5), (6, .int (nI k13)), (5, .int x_1), (0, .ref (act 0)), (1, .ref (ast 0)), (2, .ref (ald 0)), (3, .int load), (4, .int record)]) hx hb dX0_layFields_29 hl (by decide) rfl (fun ls hl => ?_)
        refine lv_iload hx hb dX0_layFields_31 (lv_at hl 0 rfl) ?_
        refine lv_iconst (v := (-1)) hx hb dX0_layFields_33 (by decide) ?_
        refine lv_icmp_eq (tgt := 114) hx hb dX0_layFields_34 (by decide) (fun c_6 => ?_) (fun c_6 => ?_)
        · refine lv_iinc (v := nI (k13 + 1)) (lv' := [(6, .int (nI (k13 + 1))), (7, .int x_5), (5, .int x_1), (0, .ref (act 0)), (1, .ref (ast 0)), (2, .ref (ald 0)), (3, .int load), (4, .int record)]) hx hb dX0_layFields_114 hl (k := 1) rfl (nI_1 k13) (by decide) rfl (fun ls hl => ?_)
          refine lv_goto (tgt := 13) hx hb dX0_layFields_117 (by decide) ?_
          exact ih13 (k13 + 1) s0_13 _ _ _ (by omega) (Eq.trans (by subst ex_5; subst ex_1; simp only [m_X0_layFields_lp13, eq_true c_6, ↓reduceIte, if_true, if_false]) hres13) hP hD hS (lv_sub hl [0, 2, 3, 4, 5, 6, 7] rfl)
        · refine lv_aload_n hx hb dX0_layFields_37 rfl (lv_at hl 3 rfl) ?_
          refine va_get (D := D) (ci := 0) (v := .ref (act 9)) (C := RX0) (T := TX0) (N := 7) hx hb hts (fun _ h => List.mem_cons_of_mem _ (List.mem_append_left _ (List.mem_append_left _ (List.mem_append_left _ (List.mem_append_right _ h))))) hown hG.1 hP 0 rfl rfl 4 (by decide) (hts (.fieldLink RX0 35 "CatalogueLoader$Catalogue" "guards" "LCatalogueLoader$Grid;") (List.mem_of_getElem? (i := 1) rfl)) (fun _ h9 => h9) rfl dX0_layFields_38 ?_
          refine lv_iload hx hb dX0_layFields_41 (lv_at hl 7 rfl) ?_
          refine lv_iload hx hb dX0_layFields_43 (lv_at hl 1 rfl) ?_
          refine cq_RV (st0 := [.int (nI k13), .int record, .ref (act 9)] ++ []) (As := [.int record, .int (nI k13)]) (rest := []) ⟨hx, hb, hml, hown, hts⟩ (ct_X1_get l D Y (act 9) (act 10) 80 4 320 s0_13.2.2.2.2.1 record (nI k13) (by decide)) (cwV 2 hts gX0_layFields_X1_get rfl rfl rfl (by decide +kernel) ⟨Nat.le_of_ble_eq_true rfl, Nat.le_of_ble_eq_true rfl⟩) hG hP hD [9, 10] rfl (by decide) 9 1 rfl rfl rfl rfl hl.1 rfl (Nat.le_of_ble_eq_true rfl) dX0_layFields_45 ⟨Nat.zero_le _, Nat.zero_le _⟩ ?_
          change W _ _ _ _ _ _ _ _ _ _ _ _ _ _ _ (F0 m 48 _ (.int (m_X1_get 80 4 320 s0_13.2.2.2.2.1 record (nI k13)) :: []))
          refine lv_if_ne (tgt := 114) hx hb dX0_layFields_48 (by decide) (fun c_7 => ?_) (fun c_7 => ?_)
          · refine lv_iinc (v := nI (k13 + 1)) (lv' := [(6, .int (nI (k13 + 1))), (7, .int x_5), (5, .int x_1), (0, .ref (act 0)), (1, .ref (ast 0)), (2, .ref (ald 0)), (3, .int load), (4, .int record)]) hx hb dX0_layFields_114 hl (k := 1) rfl (nI_1 k13) (by decide) rfl (fun ls hl => ?_)
            refine lv_goto (tgt := 13) hx hb dX0_layFields_117 (by decide) ?_
            exact ih13 (k13 + 1) s0_13 _ _ _ (by omega) (Eq.trans (by subst ex_5; subst ex_1; simp only [m_X0_layFields_lp13, eq_false c_6, eq_false c_7, ↓reduceIte, if_true, if_false]) hres13) hP hD hS (lv_sub hl [0, 2, 3, 4, 5, 6, 7] rfl)
          · refine lv_aload_n hx hb dX0_layFields_51 rfl (lv_at hl 3 rfl) ?_
            refine va_get (D := D) (ci := 0) (v := .ref (act 5)) (C := RX0) (T := TX0) (N := 7) hx hb hts (fun _ h => List.mem_cons_of_mem _ (List.mem_append_left _ (List.mem_append_left _ (List.mem_append_left _ (List.mem_append_right _ h))))) hown hG.1 hP 0 rfl rfl 2 (by decide) (hts (.fieldLink RX0 29 "CatalogueLoader$Catalogue" "fields" "LCatalogueLoader$Grid;") (List.mem_of_getElem? (i := 2) rfl)) (fun _ h9 => h9) rfl dX0_layFields_52 ?_
            refine lv_iload hx hb dX0_layFields_55 (lv_at hl 7 rfl) ?_
            refine lv_iload hx hb dX0_layFields_57 (lv_at hl 1 rfl) ?_
            refine cq_RV (st0 := [.int (nI k13), .int record, .ref (act 5)] ++ []) (As := [.int record, .int (nI k13)]) (rest := []) ⟨hx, hb, hml, hown, hts⟩ (ct_X1_get l D Y (act 5) (act 6) 80 4 320 s0_13.2.2.1 record (nI k13) (by decide)) (cwV 2 hts gX0_layFields_X1_get rfl rfl rfl (by decide +kernel) ⟨Nat.le_of_ble_eq_true rfl, Nat.le_of_ble_eq_true rfl⟩) hG hP hD [5, 6] rfl (by decide) 5 1 rfl rfl rfl rfl hl.1 rfl (Nat.le_of_ble_eq_true rfl) dX0_layFields_59 ⟨Nat.zero_le _, Nat.zero_le _⟩ ?_
            change W _ _ _ _ _ _ _ _ _ _ _ _ _ _ _ (F0 m 62 _ (.int (m_X1_get 80 4 320 s0_13.2.2.1 record (nI k13)) :: []))
            refine lv_iconst (v := (-1)) hx hb dX0_layFields_62 (by decide) ?_
            refine lv_icmp_eq (tgt := 88) hx hb dX0_layFields_63 (by decide) (fun c_8 => ?_) (fun c_8 => ?_)
            · refine lv_aload_n hx hb dX0_layFields_88 rfl (lv_at hl 3 rfl) ?_
              refine va_get (D := D) (ci := 0) (v := .ref (act 5)) (C := RX0) (T := TX0) (N := 7) hx hb hts (fun _ h => List.mem_cons_of_mem _ (List.mem_append_left _ (List.mem_append_left _ (List.mem_append_left _ (List.mem_append_right _ h))))) hown hG.1 hP 0 rfl rfl 2 (by decide) (hts (.fieldLink RX0 29 "CatalogueLoader$Catalogue" "fields" "LCatalogueLoader$Grid;") (List.mem_of_getElem? (i := 2) rfl)) (fun _ h9 => h9) rfl dX0_layFields_89 ?_
              refine lv_iload hx hb dX0_layFields_92 (lv_at hl 7 rfl) ?_
              refine lv_iload hx hb dX0_layFields_94 (lv_at hl 1 rfl) ?_
              refine lv_iload hx hb dX0_layFields_96 (lv_at hl 0 rfl) ?_
              refine cq_WV (st0 := [.int x_5, .int (nI k13), .int record, .ref (act 5)] ++ []) (As := [.int record, .int (nI k13), .int x_5]) (rest := []) ⟨hx, hb, hml, hown, hts⟩ (ct_X1_set l D Y (act 5) (act 6) 80 4 320 s0_13.2.2.1 record (nI k13) x_5 (by decide)) (cwV 3 hts gX0_layFields_X1_set rfl rfl rfl (by decide +kernel) ⟨Nat.le_of_ble_eq_true rfl, Nat.le_of_ble_eq_true rfl⟩) hG hP hD hS [5, 6] rfl (by decide) rfl 5 1 rfl rfl rfl rfl hl.1 rfl (Nat.le_of_ble_eq_true rfl) dX0_layFields_98 ⟨Nat.zero_le _, Nat.zero_le _⟩ (fun H locs hP hD hS => ?_)
              have hP : va_P D vwCl (cl_cat Y act (s0_13.1, s0_13.2.1, m_X1_set 80 4 320 s0_13.2.2.1 record (nI k13) x_5, s0_13.2.2.2.1, s0_13.2.2.2.2.1, s0_13.2.2.2.2.2.1, s0_13.2.2.2.2.2.2) ++ (cl_set Y ast st ++ (cl_lod Y ald ld))) H := hP
              have hD : va_D (cq_in (cl_cat Y act ct ++ (cl_set Y ast st ++ (cl_lod Y ald ld)))) (cl_cat Y act (s0_13.1, s0_13.2.1, m_X1_set 80 4 320 s0_13.2.2.1 record (nI k13) x_5, s0_13.2.2.2.1, s0_13.2.2.2.2.1, s0_13.2.2.2.2.2.1, s0_13.2.2.2.2.2.2) ++ (cl_set Y ast st ++ (cl_lod Y ald ld))) := hD
              change W _ _ _ _ _ _ _ _ _ _ _ _ _ _ _ (F0 m 101 _ [])
              refine lv_aload_n hx hb dX0_layFields_101 rfl (lv_at hl 3 rfl) ?_
              refine va_get (D := D) (ci := 0) (v := .ref (act 7)) (C := RX0) (T := TX0) (N := 7) hx hb hts (fun _ h => List.mem_cons_of_mem _ (List.mem_append_left _ (List.mem_append_left _ (List.mem_append_left _ (List.mem_append_right _ h))))) hown hG.1 hP 0 rfl rfl 3 (by decide) (hts (.fieldLink RX0 32 "CatalogueLoader$Catalogue" "sources" "LCatalogueLoader$Grid;") (List.mem_of_getElem? (i := 3) rfl)) (fun _ h9 => h9) rfl dX0_layFields_102 ?_
              refine lv_iload hx hb dX0_layFields_105 (lv_at hl 7 rfl) ?_
              refine lv_iload hx hb dX0_layFields_107 (lv_at hl 1 rfl) ?_
              refine lv_iload hx hb dX0_layFields_109 (lv_at hl 2 rfl) ?_
              refine cq_WV (st0 := [.int x_1, .int (nI k13), .int record, .ref (act 7)] ++ []) (As := [.int record, .int (nI k13), .int x_1]) (rest := []) ⟨hx, hb, hml, hown, hts⟩ (ct_X1_set l D Y (act 7) (act 8) 80 4 320 s0_13.2.2.2.1 record (nI k13) x_1 (by decide)) (cwV 3 hts gX0_layFields_X1_set rfl rfl rfl (by decide +kernel) ⟨Nat.le_of_ble_eq_true rfl, Nat.le_of_ble_eq_true rfl⟩) hG hP hD hS [7, 8] rfl (by decide) rfl 7 1 rfl rfl rfl rfl hl.1 rfl (Nat.le_of_ble_eq_true rfl) dX0_layFields_111 ⟨Nat.zero_le _, Nat.zero_le _⟩ (fun H locs hP hD hS => ?_)
              have hP : va_P D vwCl (cl_cat Y act (s0_13.1, s0_13.2.1, m_X1_set 80 4 320 s0_13.2.2.1 record (nI k13) x_5, m_X1_set 80 4 320 s0_13.2.2.2.1 record (nI k13) x_1, s0_13.2.2.2.2.1, s0_13.2.2.2.2.2.1, s0_13.2.2.2.2.2.2) ++ (cl_set Y ast st ++ (cl_lod Y ald ld))) H := hP
              have hD : va_D (cq_in (cl_cat Y act ct ++ (cl_set Y ast st ++ (cl_lod Y ald ld)))) (cl_cat Y act (s0_13.1, s0_13.2.1, m_X1_set 80 4 320 s0_13.2.2.1 record (nI k13) x_5, m_X1_set 80 4 320 s0_13.2.2.2.1 record (nI k13) x_1, s0_13.2.2.2.2.1, s0_13.2.2.2.2.2.1, s0_13.2.2.2.2.2.2) ++ (cl_set Y ast st ++ (cl_lod Y ald ld))) := hD
              change W _ _ _ _ _ _ _ _ _ _ _ _ _ _ _ (F0 m 114 _ [])
              refine lv_iinc (v := nI (k13 + 1)) (lv' := [(6, .int (nI (k13 + 1))), (7, .int x_5), (5, .int x_1), (0, .ref (act 0)), (1, .ref (ast 0)), (2, .ref (ald 0)), (3, .int load), (4, .int record)]) hx hb dX0_layFields_114 hl (k := 1) rfl (nI_1 k13) (by decide) rfl (fun ls hl => ?_)
              refine lv_goto (tgt := 13) hx hb dX0_layFields_117 (by decide) ?_
              exact ih13 (k13 + 1) (s0_13.1, s0_13.2.1, m_X1_set 80 4 320 s0_13.2.2.1 record (nI k13) x_5, m_X1_set 80 4 320 s0_13.2.2.2.1 record (nI k13) x_1, s0_13.2.2.2.2.1, s0_13.2.2.2.2.2.1, s0_13.2.2.2.2.2.2) _ _ _ (by omega) (Eq.trans (by subst ex_5; subst ex_1; simp only [m_X0_layFields_lp13, eq_false c_6, eq_true c_7, eq_true c_8, ↓reduceIte, if_true, if_false]) hres13) hP hD hS (lv_sub hl [0, 2, 3, 4, 5, 6, 7] rfl)
            · refine lv_aload_n hx hb dX0_layFields_66 rfl (lv_at hl 4 rfl) ?_
              refine lv_iload hx hb dX0_layFields_67 (lv_at hl 1 rfl) ?_
              refine lv_iload hx hb dX0_layFields_69 (lv_at hl 2 rfl) ?_
              refine lv_aload_n hx hb dX0_layFields_71 rfl (lv_at hl 3 rfl) ?_
              refine va_get (D := D) (ci := 0) (v := .ref (act 7)) (C := RX0) (T := TX0) (N := 7) hx hb hts (fun _ h => List.mem_cons_of_mem _ (List.mem_append_left _ (List.mem_append_left _ (List.mem_append_left _ (List.mem_append_right _ h))))) hown hG.1 hP 0 rfl rfl 3 (by decide) (hts (.fieldLink RX0 32 "CatalogueLoader$Catalogue" "sources" "LCatalogueLoader$Grid;") (List.mem_of_getElem? (i := 3) rfl)) (fun _ h9 => h9) rfl dX0_layFields_72 ?_
              refine lv_iload hx hb dX0_layFields_75 (lv_at hl 7 rfl) ?_
              refine lv_iload hx hb dX0_layFields_77 (lv_at hl 1 rfl) ?_
              refine cq_RV (st0 := [.int (nI k13), .int record, .ref (act 7)] ++ [.int x_1, .int (nI k13), .ref (ast 0)]) (As := [.int record, .int (nI k13)]) (rest := [.int x_1, .int (nI k13), .ref (ast 0)]) ⟨hx, hb, hml, hown, hts⟩ (ct_X1_get l D Y (act 7) (act 8) 80 4 320 s0_13.2.2.2.1 record (nI k13) (by decide)) (cwV 2 hts gX0_layFields_X1_get rfl rfl rfl (by decide +kernel) ⟨Nat.le_of_ble_eq_true rfl, Nat.le_of_ble_eq_true rfl⟩) hG hP hD [7, 8] rfl (by decide) 7 1 rfl rfl rfl rfl hl.1 rfl (Nat.le_of_ble_eq_true rfl) dX0_layFields_79 ⟨Nat.zero_le _, Nat.zero_le _⟩ ?_
              change W _ _ _ _ _ _ _ _ _ _ _ _ _ _ _ (F0 m 82 _ (.int (m_X1_get 80 4 320 s0_13.2.2.2.1 record (nI k13)) :: [.int x_1, .int (nI k13), .ref (ast 0)]))
              refine cq_RV (st0 := [.int (m_X1_get 80 4 320 s0_13.2.2.2.1 record (nI k13)), .int x_1, .int (nI k13), .ref (ast 0)] ++ []) (As := [.int (nI k13), .int x_1, .int (m_X1_get 80 4 320 s0_13.2.2.2.1 record (nI k13))]) (rest := []) ⟨hx, hb, hml, hown, hts⟩ (ct_X5_replaces l D Y ast st (nI k13) x_1 (m_X1_get 80 4 320 s0_13.2.2.2.1 record (nI k13))) (cwV 3 hts gX0_layFields_X5_replaces rfl rfl rfl (by decide +kernel) ⟨Nat.le_of_ble_eq_true rfl, Nat.le_of_ble_eq_true rfl⟩) hG hP hD [15, 16, 17, 18, 19, 20, 21] rfl (by decide) 15 5 rfl rfl rfl rfl hl.1 rfl (Nat.le_of_ble_eq_true rfl) dX0_layFields_82 ⟨Nat.zero_le _, Nat.zero_le _⟩ ?_
              change W _ _ _ _ _ _ _ _ _ _ _ _ _ _ _ (F0 m 85 _ (.int (m_X5_replaces st (nI k13) x_1 (m_X1_get 80 4 320 s0_13.2.2.2.1 record (nI k13))) :: []))
              refine lv_if_eq (tgt := 114) hx hb dX0_layFields_85 (by decide) (fun c_9 => ?_) (fun c_9 => ?_)
              · refine lv_iinc (v := nI (k13 + 1)) (lv' := [(6, .int (nI (k13 + 1))), (7, .int x_5), (5, .int x_1), (0, .ref (act 0)), (1, .ref (ast 0)), (2, .ref (ald 0)), (3, .int load), (4, .int record)]) hx hb dX0_layFields_114 hl (k := 1) rfl (nI_1 k13) (by decide) rfl (fun ls hl => ?_)
                refine lv_goto (tgt := 13) hx hb dX0_layFields_117 (by decide) ?_
                exact ih13 (k13 + 1) s0_13 _ _ _ (by omega) (Eq.trans (by subst ex_5; subst ex_1; simp only [m_X0_layFields_lp13, eq_false c_6, eq_true c_7, eq_false c_8, eq_true c_9, ↓reduceIte, if_true, if_false]) hres13) hP hD hS (lv_sub hl [0, 2, 3, 4, 5, 6, 7] rfl)
              · refine lv_aload_n hx hb dX0_layFields_88 rfl (lv_at hl 3 rfl) ?_
                refine va_get (D := D) (ci := 0) (v := .ref (act 5)) (C := RX0) (T := TX0) (N := 7) hx hb hts (fun _ h => List.mem_cons_of_mem _ (List.mem_append_left _ (List.mem_append_left _ (List.mem_append_left _ (List.mem_append_right _ h))))) hown hG.1 hP 0 rfl rfl 2 (by decide) (hts (.fieldLink RX0 29 "CatalogueLoader$Catalogue" "fields" "LCatalogueLoader$Grid;") (List.mem_of_getElem? (i := 2) rfl)) (fun _ h9 => h9) rfl dX0_layFields_89 ?_
                refine lv_iload hx hb dX0_layFields_92 (lv_at hl 7 rfl) ?_
                refine lv_iload hx hb dX0_layFields_94 (lv_at hl 1 rfl) ?_
                refine lv_iload hx hb dX0_layFields_96 (lv_at hl 0 rfl) ?_
                refine cq_WV (st0 := [.int x_5, .int (nI k13), .int record, .ref (act 5)] ++ []) (As := [.int record, .int (nI k13), .int x_5]) (rest := []) ⟨hx, hb, hml, hown, hts⟩ (ct_X1_set l D Y (act 5) (act 6) 80 4 320 s0_13.2.2.1 record (nI k13) x_5 (by decide)) (cwV 3 hts gX0_layFields_X1_set rfl rfl rfl (by decide +kernel) ⟨Nat.le_of_ble_eq_true rfl, Nat.le_of_ble_eq_true rfl⟩) hG hP hD hS [5, 6] rfl (by decide) rfl 5 1 rfl rfl rfl rfl hl.1 rfl (Nat.le_of_ble_eq_true rfl) dX0_layFields_98 ⟨Nat.zero_le _, Nat.zero_le _⟩ (fun H locs hP hD hS => ?_)
                have hP : va_P D vwCl (cl_cat Y act (s0_13.1, s0_13.2.1, m_X1_set 80 4 320 s0_13.2.2.1 record (nI k13) x_5, s0_13.2.2.2.1, s0_13.2.2.2.2.1, s0_13.2.2.2.2.2.1, s0_13.2.2.2.2.2.2) ++ (cl_set Y ast st ++ (cl_lod Y ald ld))) H := hP
                have hD : va_D (cq_in (cl_cat Y act ct ++ (cl_set Y ast st ++ (cl_lod Y ald ld)))) (cl_cat Y act (s0_13.1, s0_13.2.1, m_X1_set 80 4 320 s0_13.2.2.1 record (nI k13) x_5, s0_13.2.2.2.1, s0_13.2.2.2.2.1, s0_13.2.2.2.2.2.1, s0_13.2.2.2.2.2.2) ++ (cl_set Y ast st ++ (cl_lod Y ald ld))) := hD
                change W _ _ _ _ _ _ _ _ _ _ _ _ _ _ _ (F0 m 101 _ [])
                refine lv_aload_n hx hb dX0_layFields_101 rfl (lv_at hl 3 rfl) ?_
                refine va_get (D := D) (ci := 0) (v := .ref (act 7)) (C := RX0) (T := TX0) (N := 7) hx hb hts (fun _ h => List.mem_cons_of_mem _ (List.mem_append_left _ (List.mem_append_left _ (List.mem_append_left _ (List.mem_append_right _ h))))) hown hG.1 hP 0 rfl rfl 3 (by decide) (hts (.fieldLink RX0 32 "CatalogueLoader$Catalogue" "sources" "LCatalogueLoader$Grid;") (List.mem_of_getElem? (i := 3) rfl)) (fun _ h9 => h9) rfl dX0_layFields_102 ?_
                refine lv_iload hx hb dX0_layFields_105 (lv_at hl 7 rfl) ?_
                refine lv_iload hx hb dX0_layFields_107 (lv_at hl 1 rfl) ?_
                refine lv_iload hx hb dX0_layFields_109 (lv_at hl 2 rfl) ?_
                refine cq_WV (st0 := [.int x_1, .int (nI k13), .int record, .ref (act 7)] ++ []) (As := [.int record, .int (nI k13), .int x_1]) (rest := []) ⟨hx, hb, hml, hown, hts⟩ (ct_X1_set l D Y (act 7) (act 8) 80 4 320 s0_13.2.2.2.1 record (nI k13) x_1 (by decide)) (cwV 3 hts gX0_layFields_X1_set rfl rfl rfl (by decide +kernel) ⟨Nat.le_of_ble_eq_true rfl, Nat.le_of_ble_eq_true rfl⟩) hG hP hD hS [7, 8] rfl (by decide) rfl 7 1 rfl rfl rfl rfl hl.1 rfl (Nat.le_of_ble_eq_true rfl) dX0_layFields_111 ⟨Nat.zero_le _, Nat.zero_le _⟩ (fun H locs hP hD hS => ?_)
                have hP : va_P D vwCl (cl_cat Y act (s0_13.1, s0_13.2.1, m_X1_set 80 4 320 s0_13.2.2.1 record (nI k13) x_5, m_X1_set 80 4 320 s0_13.2.2.2.1 record (nI k13) x_1, s0_13.2.2.2.2.1, s0_13.2.2.2.2.2.1, s0_13.2.2.2.2.2.2) ++ (cl_set Y ast st ++ (cl_lod Y ald ld))) H := hP
                have hD : va_D (cq_in (cl_cat Y act ct ++ (cl_set Y ast st ++ (cl_lod Y ald ld)))) (cl_cat Y act (s0_13.1, s0_13.2.1, m_X1_set 80 4 320 s0_13.2.2.1 record (nI k13) x_5, m_X1_set 80 4 320 s0_13.2.2.2.1 record (nI k13) x_1, s0_13.2.2.2.2.1, s0_13.2.2.2.2.2.1, s0_13.2.2.2.2.2.2) ++ (cl_set Y ast st ++ (cl_lod Y ald ld))) := hD
                change W _ _ _ _ _ _ _ _ _ _ _ _ _ _ _ (F0 m 114 _ [])
                refine lv_iinc (v := nI (k13 + 1)) (lv' := [(6, .int (nI (k13 + 1))), (7, .int x_5), (5, .int x_1), (0, .ref (act 0)), (1, .ref (ast 0)), (2, .ref (ald 0)), (3, .int load), (4, .int record)]) hx hb dX0_layFields_114 hl (k := 1) rfl (nI_1 k13) (by decide) rfl (fun ls hl => ?_)
                refine lv_goto (tgt := 13) hx hb dX0_layFields_117 (by decide) ?_
                exact ih13 (k13 + 1) (s0_13.1, s0_13.2.1, m_X1_set 80 4 320 s0_13.2.2.1 record (nI k13) x_5, m_X1_set 80 4 320 s0_13.2.2.2.1 record (nI k13) x_1, s0_13.2.2.2.2.1, s0_13.2.2.2.2.2.1, s0_13.2.2.2.2.2.2) _ _ _ (by omega) (Eq.trans (by subst ex_5; subst ex_1; simp only [m_X0_layFields_lp13, eq_false c_6, eq_true c_7, eq_false c_8, eq_false c_9, ↓reduceIte, if_true, if_false]) hres13) hP hD hS (lv_sub hl [0, 2, 3, 4, 5, 6, 7] rfl)
  exact lp13 4 0 ct _ _ _ (Nat.zero_add _) efin_2.symm hP hD hS (lv_sub hl [0, 1, 2, 3, 4, 5, 6] rfl)

def m_X0_take (ct : CatS) (st : SetS) (ld : LodS) (load : Int32) : CatS × Int32 := (if m_X3_isLeftOut ld load = 0 then (let x_2 := m_X0_target ct st ld load; (if x_2 < 0 then ((ct.1, ct.2.1, ct.2.2.1, ct.2.2.2.1, ct.2.2.2.2.1, ct.2.2.2.2.2.1, m_X4_set 80 ct.2.2.2.2.2.2 load x_2), x_2) else (let c_4 := m_X0_layKeys (m_X4_set 80 ct.1 x_2 1, ct.2.1, ct.2.2.1, ct.2.2.2.1, ct.2.2.2.2.1, ct.2.2.2.2.2.1, ct.2.2.2.2.2.2) ld load x_2; (let c_5 := m_X0_layFields c_4 st ld load x_2; ((c_5.1, c_5.2.1, c_5.2.2.1, c_5.2.2.2.1, c_5.2.2.2.2.1, c_5.2.2.2.2.2.1, m_X4_set 80 c_5.2.2.2.2.2.2 load x_2), x_2))))) else ((ct.1, ct.2.1, ct.2.2.1, ct.2.2.2.1, ct.2.2.2.2.1, ct.2.2.2.2.2.1, m_X4_set 80 ct.2.2.2.2.2.2 load (-1)), (-1)))
set_option maxHeartbeats 4000000 in
set_option maxRecDepth 100000 in
theorem ct_X0_take (l : Launch) (D : va_G) (Y : cq_Y) (act : Nat → Nat) (ct : CatS) (ast : Nat → Nat) (st : SetS) (ald : Nat → Nat) (ld : LodS) (load : Int32) : cq_MW l yX0_take wsX0_take (cq_rm 3 73) D Y (cl_cat Y act ct ++ (cl_set Y ast st ++ (cl_lod Y ald ld))) [.ref (act 0), .ref (ast 0), .ref (ald 0), .int load] (some (.int (m_X0_take ct st ld load).2)) (cl_cat Y act ((m_X0_take ct st ld load).1) ++ (cl_set Y ast st ++ (cl_lod Y ald ld))) := by
  refine cq_body (cc := cX0_take) (maxL := 5) (ret := (some .int)) (by decide) rfl (Nat.le_of_ble_eq_true rfl) ?_
  intro p e s m below meth c hE hP hG hD ls hl
  obtain ⟨hx, hb, hr, hml, hts, hown, hnm, hlocks⟩ := hE
  have hS : va_S (cq_in (cl_cat Y act ct ++ (cl_set Y ast st ++ (cl_lod Y ald ld)))) s.heap s.heap [] := va_S.rf
  have hl : lv_has ls 5 [(0, .ref (act 0)), (1, .ref (ast 0)), (2, .ref (ald 0)), (3, .int load)] := hl
  refine lv_aload_n hx hb dX0_take_0 rfl (lv_at hl 2 rfl) ?_
  refine lv_iload_n hx hb dX0_take_1 rfl (lv_at hl 3 rfl) ?_
  refine cq_RV (st0 := [.int load, .ref (ald 0)] ++ []) (As := [.int load]) (rest := []) ⟨hx, hb, hml, hown, hts⟩ (ct_X3_isLeftOut l D Y ald ld load) (cwV 1 hts gX0_take_X3_isLeftOut rfl rfl rfl (by decide +kernel) ⟨Nat.le_of_ble_eq_true rfl, Nat.le_of_ble_eq_true rfl⟩) hG hP hD [22, 23, 24, 25, 26, 27, 28, 29, 30, 31, 32] rfl (by decide) 22 3 rfl rfl rfl rfl hl.1 rfl (Nat.le_of_ble_eq_true rfl) dX0_take_2 ⟨Nat.zero_le _, Nat.zero_le _⟩ ?_
  change W _ _ _ _ _ _ _ _ _ _ _ _ _ _ _ (F0 m 5 _ (.int (m_X3_isLeftOut ld load) :: []))
  refine lv_if_eq (tgt := 12) hx hb dX0_take_5 (by decide) (fun c_1 => ?_) (fun c_1 => ?_)
  · refine lv_aload_n hx hb dX0_take_12 rfl (lv_at hl 0 rfl) ?_
    refine lv_aload_n hx hb dX0_take_13 rfl (lv_at hl 1 rfl) ?_
    refine lv_aload_n hx hb dX0_take_14 rfl (lv_at hl 2 rfl) ?_
    refine lv_iload_n hx hb dX0_take_15 rfl (lv_at hl 3 rfl) ?_
    refine cq_RV (st0 := [.int load, .ref (ald 0), .ref (ast 0), .ref (act 0)] ++ []) (As := [.ref (ast 0), .ref (ald 0), .int load]) (rest := []) ⟨hx, hb, hml, hown, hts⟩ (ct_X0_target l D Y act ct ast st ald ld load) (cwV 3 hts gX0_take_X0_target rfl rfl rfl (by decide +kernel) ⟨Nat.le_of_ble_eq_true rfl, Nat.le_of_ble_eq_true rfl⟩) hG hP hD [0, 1, 2, 3, 4, 5, 6, 7, 8, 9, 10, 11, 12, 13, 14, 15, 16, 17, 18, 19, 20, 21, 22, 23, 24, 25, 26, 27, 28, 29, 30, 31, 32] rfl (by decide) 0 0 rfl rfl rfl rfl hl.1 rfl (Nat.le_of_ble_eq_true rfl) dX0_take_16 ⟨Nat.zero_le _, Nat.zero_le _⟩ ?_
    change W _ _ _ _ _ _ _ _ _ _ _ _ _ _ _ (F0 m 19 _ (.int (m_X0_target ct st ld load) :: []))
    refine lv_topi (fun x_2 ex_2 => ?_)
    refine lv_istore (lv' := [(4, .int x_2), (0, .ref (act 0)), (1, .ref (ast 0)), (2, .ref (ald 0)), (3, .int load)]) hx hb dX0_take_19 hl (by decide) rfl (fun ls hl => ?_)
    refine lv_iload hx hb dX0_take_21 (lv_at hl 0 rfl) ?_
    refine lv_if_lt (tgt := 53) hx hb dX0_take_23 (by decide) (fun c_3 => ?_) (fun c_3 => ?_)
    · refine lv_aload_n hx hb dX0_take_53 rfl (lv_at hl 1 rfl) ?_
      refine va_get (D := D) (ci := 0) (v := .ref (act 13)) (C := RX0) (T := TX0) (N := 7) hx hb hts (fun _ h => List.mem_cons_of_mem _ (List.mem_append_left _ (List.mem_append_left _ (List.mem_append_left _ (List.mem_append_left _ (List.mem_append_right _ h)))))) hown hG.1 hP 0 rfl rfl 6 (by decide) (hts (.fieldLink RX0 41 "CatalogueLoader$Catalogue" "hits" "LCatalogueLoader$Row;") (List.mem_of_getElem? (i := 2) rfl)) (fun _ h9 => h9) rfl dX0_take_54 ?_
      refine lv_iload_n hx hb dX0_take_57 rfl (lv_at hl 4 rfl) ?_
      refine lv_iload hx hb dX0_take_58 (lv_at hl 0 rfl) ?_
      refine cq_WV (st0 := [.int x_2, .int load, .ref (act 13)] ++ []) (As := [.int load, .int x_2]) (rest := []) ⟨hx, hb, hml, hown, hts⟩ (ct_X4_set l D Y (act 13) (act 14) 80 ct.2.2.2.2.2.2 load x_2 (by decide)) (cwV 2 hts gX0_take_X4_set rfl rfl rfl (by decide +kernel) ⟨Nat.le_of_ble_eq_true rfl, Nat.le_of_ble_eq_true rfl⟩) hG hP hD hS [13, 14] rfl (by decide) rfl 13 4 rfl rfl rfl rfl hl.1 rfl (Nat.le_of_ble_eq_true rfl) dX0_take_60 ⟨Nat.zero_le _, Nat.zero_le _⟩ (fun H locs hP hD hS => ?_)
      have hP : va_P D vwCl (cl_cat Y act (ct.1, ct.2.1, ct.2.2.1, ct.2.2.2.1, ct.2.2.2.2.1, ct.2.2.2.2.2.1, m_X4_set 80 ct.2.2.2.2.2.2 load x_2) ++ (cl_set Y ast st ++ (cl_lod Y ald ld))) H := hP
      have hD : va_D (cq_in (cl_cat Y act ct ++ (cl_set Y ast st ++ (cl_lod Y ald ld)))) (cl_cat Y act (ct.1, ct.2.1, ct.2.2.1, ct.2.2.2.1, ct.2.2.2.2.1, ct.2.2.2.2.2.1, m_X4_set 80 ct.2.2.2.2.2.2 load x_2) ++ (cl_set Y ast st ++ (cl_lod Y ald ld))) := hD
      change W _ _ _ _ _ _ _ _ _ _ _ _ _ _ _ (F0 m 63 _ [])
      refine lv_iload hx hb dX0_take_63 (lv_at hl 0 rfl) ?_
      exact cq_wI (wl := cl_cat Y act (ct.1, ct.2.1, ct.2.2.1, ct.2.2.2.1, ct.2.2.2.2.1, ct.2.2.2.2.2.1, m_X4_set 80 ct.2.2.2.2.2.2 load x_2) ++ (cl_set Y ast st ++ (cl_lod Y ald ld))) hx hb hr hlocks (vp_nar_int _) hP hS (by subst ex_2; simp only [m_X0_take, eq_true c_1, eq_true c_3, ↓reduceIte, if_true, if_false]) (by subst ex_2; simp only [m_X0_take, eq_true c_1, eq_true c_3, ↓reduceIte, if_true, if_false]) dX0_take_65
    · refine lv_aload_n hx hb dX0_take_26 rfl (lv_at hl 1 rfl) ?_
      refine va_get (D := D) (ci := 0) (v := .ref (act 1)) (C := RX0) (T := TX0) (N := 7) hx hb hts (fun _ h => List.mem_cons_of_mem _ (List.mem_append_left _ (List.mem_append_left _ (List.mem_append_left _ (List.mem_append_left _ (List.mem_append_right _ h)))))) hown hG.1 hP 0 rfl rfl 0 (by decide) (hts (.fieldLink RX0 14 "CatalogueLoader$Catalogue" "there" "LCatalogueLoader$Row;") (List.mem_of_getElem? (i := 1) rfl)) (fun _ h9 => h9) rfl dX0_take_27 ?_
      refine lv_iload hx hb dX0_take_30 (lv_at hl 0 rfl) ?_
      refine lv_iconst (v := 1) hx hb dX0_take_32 (by decide) ?_
      refine cq_WV (st0 := [.int 1, .int x_2, .ref (act 1)] ++ []) (As := [.int x_2, .int 1]) (rest := []) ⟨hx, hb, hml, hown, hts⟩ (ct_X4_set l D Y (act 1) (act 2) 80 ct.1 x_2 1 (by decide)) (cwV 2 hts gX0_take_X4_set rfl rfl rfl (by decide +kernel) ⟨Nat.le_of_ble_eq_true rfl, Nat.le_of_ble_eq_true rfl⟩) hG hP hD hS [1, 2] rfl (by decide) rfl 1 4 rfl rfl rfl rfl hl.1 rfl (Nat.le_of_ble_eq_true rfl) dX0_take_33 ⟨Nat.zero_le _, Nat.zero_le _⟩ (fun H locs hP hD hS => ?_)
      have hP : va_P D vwCl (cl_cat Y act (m_X4_set 80 ct.1 x_2 1, ct.2.1, ct.2.2.1, ct.2.2.2.1, ct.2.2.2.2.1, ct.2.2.2.2.2.1, ct.2.2.2.2.2.2) ++ (cl_set Y ast st ++ (cl_lod Y ald ld))) H := hP
      have hD : va_D (cq_in (cl_cat Y act ct ++ (cl_set Y ast st ++ (cl_lod Y ald ld)))) (cl_cat Y act (m_X4_set 80 ct.1 x_2 1, ct.2.1, ct.2.2.1, ct.2.2.2.1, ct.2.2.2.2.1, ct.2.2.2.2.2.1, ct.2.2.2.2.2.2) ++ (cl_set Y ast st ++ (cl_lod Y ald ld))) := hD
      change W _ _ _ _ _ _ _ _ _ _ _ _ _ _ _ (F0 m 36 _ [])
      refine lv_aload_n hx hb dX0_take_36 rfl (lv_at hl 1 rfl) ?_
      refine lv_aload_n hx hb dX0_take_37 rfl (lv_at hl 3 rfl) ?_
      refine lv_iload_n hx hb dX0_take_38 rfl (lv_at hl 4 rfl) ?_
      refine lv_iload hx hb dX0_take_39 (lv_at hl 0 rfl) ?_
      refine cq_WV (st0 := [.int x_2, .int load, .ref (ald 0), .ref (act 0)] ++ []) (As := [.ref (ald 0), .int load, .int x_2]) (rest := []) ⟨hx, hb, hml, hown, hts⟩ (ct_X0_layKeys l D Y act (m_X4_set 80 ct.1 x_2 1, ct.2.1, ct.2.2.1, ct.2.2.2.1, ct.2.2.2.2.1, ct.2.2.2.2.2.1, ct.2.2.2.2.2.2) ald ld load x_2) (cwV 3 hts gX0_take_X0_layKeys rfl rfl rfl (by decide +kernel) ⟨Nat.le_of_ble_eq_true rfl, Nat.le_of_ble_eq_true rfl⟩) hG hP hD hS [0, 1, 2, 3, 4, 5, 6, 7, 8, 9, 10, 11, 12, 13, 14, 22, 23, 24, 25, 26, 27, 28, 29, 30, 31, 32] rfl (by decide) rfl 0 0 rfl rfl rfl rfl hl.1 rfl (Nat.le_of_ble_eq_true rfl) dX0_take_41 ⟨Nat.zero_le _, Nat.zero_le _⟩ (fun H locs hP hD hS => ?_)
      have hP : va_P D vwCl (cl_cat Y act (m_X0_layKeys (m_X4_set 80 ct.1 x_2 1, ct.2.1, ct.2.2.1, ct.2.2.2.1, ct.2.2.2.2.1, ct.2.2.2.2.2.1, ct.2.2.2.2.2.2) ld load x_2) ++ (cl_set Y ast st ++ (cl_lod Y ald ld))) H := hP
      have hD : va_D (cq_in (cl_cat Y act ct ++ (cl_set Y ast st ++ (cl_lod Y ald ld)))) (cl_cat Y act (m_X0_layKeys (m_X4_set 80 ct.1 x_2 1, ct.2.1, ct.2.2.1, ct.2.2.2.1, ct.2.2.2.2.1, ct.2.2.2.2.2.1, ct.2.2.2.2.2.2) ld load x_2) ++ (cl_set Y ast st ++ (cl_lod Y ald ld))) := hD
      obtain ⟨c_4, ec_4⟩ : ∃ z, z = m_X0_layKeys (m_X4_set 80 ct.1 x_2 1, ct.2.1, ct.2.2.1, ct.2.2.2.1, ct.2.2.2.2.1, ct.2.2.2.2.2.1, ct.2.2.2.2.2.2) ld load x_2 := ⟨_, rfl⟩
      rw [← ec_4] at hP hD
      change W _ _ _ _ _ _ _ _ _ _ _ _ _ _ _ (F0 m 44 _ [])
      refine lv_aload_n hx hb dX0_take_44 rfl (lv_at hl 1 rfl) ?_
      refine lv_aload_n hx hb dX0_take_45 rfl (lv_at hl 2 rfl) ?_
      refine lv_aload_n hx hb dX0_take_46 rfl (lv_at hl 3 rfl) ?_
      refine lv_iload_n hx hb dX0_take_47 rfl (lv_at hl 4 rfl) ?_
      refine lv_iload hx hb dX0_take_48 (lv_at hl 0 rfl) ?_
      refine cq_WV (st0 := [.int x_2, .int load, .ref (ald 0), .ref (ast 0), .ref (act 0)] ++ []) (As := [.ref (ast 0), .ref (ald 0), .int load, .int x_2]) (rest := []) ⟨hx, hb, hml, hown, hts⟩ (ct_X0_layFields l D Y act c_4 ast st ald ld load x_2) (cwV 4 hts gX0_take_X0_layFields rfl rfl rfl (by decide +kernel) ⟨Nat.le_of_ble_eq_true rfl, Nat.le_of_ble_eq_true rfl⟩) hG hP hD hS [0, 1, 2, 3, 4, 5, 6, 7, 8, 9, 10, 11, 12, 13, 14, 15, 16, 17, 18, 19, 20, 21, 22, 23, 24, 25, 26, 27, 28, 29, 30, 31, 32] rfl (by decide) rfl 0 0 rfl rfl rfl rfl hl.1 rfl (Nat.le_of_ble_eq_true rfl) dX0_take_50 ⟨Nat.zero_le _, Nat.zero_le _⟩ (fun H locs hP hD hS => ?_)
      have hP : va_P D vwCl (cl_cat Y act (m_X0_layFields c_4 st ld load x_2) ++ (cl_set Y ast st ++ (cl_lod Y ald ld))) H := hP
      have hD : va_D (cq_in (cl_cat Y act ct ++ (cl_set Y ast st ++ (cl_lod Y ald ld)))) (cl_cat Y act (m_X0_layFields c_4 st ld load x_2) ++ (cl_set Y ast st ++ (cl_lod Y ald ld))) := hD
      obtain ⟨c_5, ec_5⟩ : ∃ z, z = m_X0_layFields c_4 st ld load x_2 := ⟨_, rfl⟩
      rw [← ec_5] at hP hD
      change W _ _ _ _ _ _ _ _ _ _ _ _ _ _ _ (F0 m 53 _ [])
      refine lv_aload_n hx hb dX0_take_53 rfl (lv_at hl 1 rfl) ?_
      refine va_get (D := D) (ci := 0) (v := .ref (act 13)) (C := RX0) (T := TX0) (N := 7) hx hb hts (fun _ h => List.mem_cons_of_mem _ (List.mem_append_left _ (List.mem_append_left _ (List.mem_append_left _ (List.mem_append_left _ (List.mem_append_right _ h)))))) hown hG.1 hP 0 rfl rfl 6 (by decide) (hts (.fieldLink RX0 41 "CatalogueLoader$Catalogue" "hits" "LCatalogueLoader$Row;") (List.mem_of_getElem? (i := 2) rfl)) (fun _ h9 => h9) rfl dX0_take_54 ?_
      refine lv_iload_n hx hb dX0_take_57 rfl (lv_at hl 4 rfl) ?_
      refine lv_iload hx hb dX0_take_58 (lv_at hl 0 rfl) ?_
      refine cq_WV (st0 := [.int x_2, .int load, .ref (act 13)] ++ []) (As := [.int load, .int x_2]) (rest := []) ⟨hx, hb, hml, hown, hts⟩ (ct_X4_set l D Y (act 13) (act 14) 80 c_5.2.2.2.2.2.2 load x_2 (by decide)) (cwV 2 hts gX0_take_X4_set rfl rfl rfl (by decide +kernel) ⟨Nat.le_of_ble_eq_true rfl, Nat.le_of_ble_eq_true rfl⟩) hG hP hD hS [13, 14] rfl (by decide) rfl 13 4 rfl rfl rfl rfl hl.1 rfl (Nat.le_of_ble_eq_true rfl) dX0_take_60 ⟨Nat.zero_le _, Nat.zero_le _⟩ (fun H locs hP hD hS => ?_)
      have hP : va_P D vwCl (cl_cat Y act (c_5.1, c_5.2.1, c_5.2.2.1, c_5.2.2.2.1, c_5.2.2.2.2.1, c_5.2.2.2.2.2.1, m_X4_set 80 c_5.2.2.2.2.2.2 load x_2) ++ (cl_set Y ast st ++ (cl_lod Y ald ld))) H := hP
      have hD : va_D (cq_in (cl_cat Y act ct ++ (cl_set Y ast st ++ (cl_lod Y ald ld)))) (cl_cat Y act (c_5.1, c_5.2.1, c_5.2.2.1, c_5.2.2.2.1, c_5.2.2.2.2.1, c_5.2.2.2.2.2.1, m_X4_set 80 c_5.2.2.2.2.2.2 load x_2) ++ (cl_set Y ast st ++ (cl_lod Y ald ld))) := hD
      change W _ _ _ _ _ _ _ _ _ _ _ _ _ _ _ (F0 m 63 _ [])
      refine lv_iload hx hb dX0_take_63 (lv_at hl 0 rfl) ?_
      exact cq_wI (wl := cl_cat Y act (c_5.1, c_5.2.1, c_5.2.2.1, c_5.2.2.2.1, c_5.2.2.2.2.1, c_5.2.2.2.2.2.1, m_X4_set 80 c_5.2.2.2.2.2.2 load x_2) ++ (cl_set Y ast st ++ (cl_lod Y ald ld))) hx hb hr hlocks (vp_nar_int _) hP hS (by subst ec_5; subst ec_4; subst ex_2; simp only [m_X0_take, eq_true c_1, eq_false c_3, ↓reduceIte, if_true, if_false]) (by subst ec_5; subst ec_4; subst ex_2; simp only [m_X0_take, eq_true c_1, eq_false c_3, ↓reduceIte, if_true, if_false]) dX0_take_65
  · refine lv_iconst (v := (-1)) hx hb dX0_take_8 (by decide) ?_
    refine lv_goto (tgt := 19) hx hb dX0_take_9 (by decide) ?_
    refine lv_istore (lv' := [(4, .int (-1)), (0, .ref (act 0)), (1, .ref (ast 0)), (2, .ref (ald 0)), (3, .int load)]) hx hb dX0_take_19 hl (by decide) rfl (fun ls hl => ?_)
    refine lv_iload hx hb dX0_take_21 (lv_at hl 0 rfl) ?_
    refine lv_if_lt (tgt := 53) hx hb dX0_take_23 (by decide) (fun c_6 => ?_) (fun c_6 => ?_)
    · refine lv_aload_n hx hb dX0_take_53 rfl (lv_at hl 1 rfl) ?_
      refine va_get (D := D) (ci := 0) (v := .ref (act 13)) (C := RX0) (T := TX0) (N := 7) hx hb hts (fun _ h => List.mem_cons_of_mem _ (List.mem_append_left _ (List.mem_append_left _ (List.mem_append_left _ (List.mem_append_left _ (List.mem_append_right _ h)))))) hown hG.1 hP 0 rfl rfl 6 (by decide) (hts (.fieldLink RX0 41 "CatalogueLoader$Catalogue" "hits" "LCatalogueLoader$Row;") (List.mem_of_getElem? (i := 2) rfl)) (fun _ h9 => h9) rfl dX0_take_54 ?_
      refine lv_iload_n hx hb dX0_take_57 rfl (lv_at hl 4 rfl) ?_
      refine lv_iload hx hb dX0_take_58 (lv_at hl 0 rfl) ?_
      refine cq_WV (st0 := [.int (-1), .int load, .ref (act 13)] ++ []) (As := [.int load, .int (-1)]) (rest := []) ⟨hx, hb, hml, hown, hts⟩ (ct_X4_set l D Y (act 13) (act 14) 80 ct.2.2.2.2.2.2 load (-1) (by decide)) (cwV 2 hts gX0_take_X4_set rfl rfl rfl (by decide +kernel) ⟨Nat.le_of_ble_eq_true rfl, Nat.le_of_ble_eq_true rfl⟩) hG hP hD hS [13, 14] rfl (by decide) rfl 13 4 rfl rfl rfl rfl hl.1 rfl (Nat.le_of_ble_eq_true rfl) dX0_take_60 ⟨Nat.zero_le _, Nat.zero_le _⟩ (fun H locs hP hD hS => ?_)
      have hP : va_P D vwCl (cl_cat Y act (ct.1, ct.2.1, ct.2.2.1, ct.2.2.2.1, ct.2.2.2.2.1, ct.2.2.2.2.2.1, m_X4_set 80 ct.2.2.2.2.2.2 load (-1)) ++ (cl_set Y ast st ++ (cl_lod Y ald ld))) H := hP
      have hD : va_D (cq_in (cl_cat Y act ct ++ (cl_set Y ast st ++ (cl_lod Y ald ld)))) (cl_cat Y act (ct.1, ct.2.1, ct.2.2.1, ct.2.2.2.1, ct.2.2.2.2.1, ct.2.2.2.2.2.1, m_X4_set 80 ct.2.2.2.2.2.2 load (-1)) ++ (cl_set Y ast st ++ (cl_lod Y ald ld))) := hD
      change W _ _ _ _ _ _ _ _ _ _ _ _ _ _ _ (F0 m 63 _ [])
      refine lv_iload hx hb dX0_take_63 (lv_at hl 0 rfl) ?_
      exact cq_wI (wl := cl_cat Y act (ct.1, ct.2.1, ct.2.2.1, ct.2.2.2.1, ct.2.2.2.2.1, ct.2.2.2.2.2.1, m_X4_set 80 ct.2.2.2.2.2.2 load (-1)) ++ (cl_set Y ast st ++ (cl_lod Y ald ld))) hx hb hr hlocks (vp_nar_int _) hP hS (by simp only [m_X0_take, eq_false c_1, ↓reduceIte, if_true, if_false]) (by simp only [m_X0_take, eq_false c_1, ↓reduceIte, if_true, if_false]) dX0_take_65
    · exact absurd c_6 (by decide)

def m_X0_guard (ct : CatS) (record : Int32) (field : Int32) (flag : Int32) : CatS × Int32 := (if m_X0_has ct record = 0 then (ct, 0) else (let x_2 := m_X1_get 80 4 320 ct.2.2.2.2.1 record field; ((ct.1, ct.2.1, ct.2.2.1, ct.2.2.2.1, m_X1_set 80 4 320 ct.2.2.2.2.1 record field flag, ct.2.2.2.2.2.1, ct.2.2.2.2.2.2), x_2)))
set_option maxHeartbeats 4000000 in
set_option maxRecDepth 100000 in
theorem ct_X0_guard (l : Launch) (D : va_G) (Y : cq_Y) (act : Nat → Nat) (ct : CatS) (record : Int32) (field : Int32) (flag : Int32) : cq_MW l yX0_guard wsX0_guard (cq_rm 2 42) D Y (cl_cat Y act ct) [.ref (act 0), .int record, .int field, .int flag] (some (.int (m_X0_guard ct record field flag).2)) (cl_cat Y act ((m_X0_guard ct record field flag).1)) := by
  refine cq_body (cc := cX0_guard) (maxL := 5) (ret := (some .int)) (by decide) rfl (Nat.le_of_ble_eq_true rfl) ?_
  intro p e s m below meth c hE hP hG hD ls hl
  obtain ⟨hx, hb, hr, hml, hts, hown, hnm, hlocks⟩ := hE
  have hS : va_S (cq_in (cl_cat Y act ct)) s.heap s.heap [] := va_S.rf
  have hl : lv_has ls 5 [(0, .ref (act 0)), (1, .int record), (2, .int field), (3, .int flag)] := hl
  refine lv_aload_n hx hb dX0_guard_0 rfl (lv_at hl 0 rfl) ?_
  refine lv_iload_n hx hb dX0_guard_1 rfl (lv_at hl 1 rfl) ?_
  refine cq_RV (st0 := [.int record, .ref (act 0)] ++ []) (As := [.int record]) (rest := []) ⟨hx, hb, hml, hown, hts⟩ (ct_X0_has l D Y act ct record) (cwV 1 hts gX0_guard_X0_has rfl rfl rfl (by decide +kernel) ⟨Nat.le_of_ble_eq_true rfl, Nat.le_of_ble_eq_true rfl⟩) hG hP hD [0, 1, 2, 3, 4, 5, 6, 7, 8, 9, 10, 11, 12, 13, 14] rfl (by decide) 0 0 rfl rfl rfl rfl hl.1 rfl (Nat.le_of_ble_eq_true rfl) dX0_guard_2 ⟨Nat.zero_le _, Nat.zero_le _⟩ ?_
  change W _ _ _ _ _ _ _ _ _ _ _ _ _ _ _ (F0 m 5 _ (.int (m_X0_has ct record) :: []))
  refine lv_if_ne (tgt := 10) hx hb dX0_guard_5 (by decide) (fun c_1 => ?_) (fun c_1 => ?_)
  · refine lv_aload_n hx hb dX0_guard_10 rfl (lv_at hl 0 rfl) ?_
    refine va_get (D := D) (ci := 0) (v := .ref (act 9)) (C := RX0) (T := TX0) (N := 7) hx hb hts (fun _ h => List.mem_cons_of_mem _ (List.mem_append_left _ (List.mem_append_left _ (List.mem_append_right _ h)))) hown hG.1 hP 0 rfl rfl 4 (by decide) (hts (.fieldLink RX0 35 "CatalogueLoader$Catalogue" "guards" "LCatalogueLoader$Grid;") (List.mem_of_getElem? (i := 1) rfl)) (fun _ h9 => h9) rfl dX0_guard_11 ?_
    refine lv_iload_n hx hb dX0_guard_14 rfl (lv_at hl 1 rfl) ?_
    refine lv_iload_n hx hb dX0_guard_15 rfl (lv_at hl 2 rfl) ?_
    refine cq_RV (st0 := [.int field, .int record, .ref (act 9)] ++ []) (As := [.int record, .int field]) (rest := []) ⟨hx, hb, hml, hown, hts⟩ (ct_X1_get l D Y (act 9) (act 10) 80 4 320 ct.2.2.2.2.1 record field (by decide)) (cwV 2 hts gX0_guard_X1_get rfl rfl rfl (by decide +kernel) ⟨Nat.le_of_ble_eq_true rfl, Nat.le_of_ble_eq_true rfl⟩) hG hP hD [9, 10] rfl (by decide) 9 1 rfl rfl rfl rfl hl.1 rfl (Nat.le_of_ble_eq_true rfl) dX0_guard_16 ⟨Nat.zero_le _, Nat.zero_le _⟩ ?_
    change W _ _ _ _ _ _ _ _ _ _ _ _ _ _ _ (F0 m 19 _ (.int (m_X1_get 80 4 320 ct.2.2.2.2.1 record field) :: []))
    refine lv_topi (fun x_2 ex_2 => ?_)
    refine lv_istore (lv' := [(4, .int x_2), (0, .ref (act 0)), (1, .int record), (2, .int field), (3, .int flag)]) hx hb dX0_guard_19 hl (by decide) rfl (fun ls hl => ?_)
    refine lv_aload_n hx hb dX0_guard_21 rfl (lv_at hl 1 rfl) ?_
    refine va_get (D := D) (ci := 0) (v := .ref (act 9)) (C := RX0) (T := TX0) (N := 7) hx hb hts (fun _ h => List.mem_cons_of_mem _ (List.mem_append_left _ (List.mem_append_left _ (List.mem_append_right _ h)))) hown hG.1 hP 0 rfl rfl 4 (by decide) (hts (.fieldLink RX0 35 "CatalogueLoader$Catalogue" "guards" "LCatalogueLoader$Grid;") (List.mem_of_getElem? (i := 1) rfl)) (fun _ h9 => h9) rfl dX0_guard_22 ?_
    refine lv_iload_n hx hb dX0_guard_25 rfl (lv_at hl 2 rfl) ?_
    refine lv_iload_n hx hb dX0_guard_26 rfl (lv_at hl 3 rfl) ?_
    refine lv_iload_n hx hb dX0_guard_27 rfl (lv_at hl 4 rfl) ?_
    refine cq_WV (st0 := [.int flag, .int field, .int record, .ref (act 9)] ++ []) (As := [.int record, .int field, .int flag]) (rest := []) ⟨hx, hb, hml, hown, hts⟩ (ct_X1_set l D Y (act 9) (act 10) 80 4 320 ct.2.2.2.2.1 record field flag (by decide)) (cwV 3 hts gX0_guard_X1_set rfl rfl rfl (by decide +kernel) ⟨Nat.le_of_ble_eq_true rfl, Nat.le_of_ble_eq_true rfl⟩) hG hP hD hS [9, 10] rfl (by decide) rfl 9 1 rfl rfl rfl rfl hl.1 rfl (Nat.le_of_ble_eq_true rfl) dX0_guard_28 ⟨Nat.zero_le _, Nat.zero_le _⟩ (fun H locs hP hD hS => ?_)
    have hP : va_P D vwCl (cl_cat Y act (ct.1, ct.2.1, ct.2.2.1, ct.2.2.2.1, m_X1_set 80 4 320 ct.2.2.2.2.1 record field flag, ct.2.2.2.2.2.1, ct.2.2.2.2.2.2)) H := hP
    have hD : va_D (cq_in (cl_cat Y act ct)) (cl_cat Y act (ct.1, ct.2.1, ct.2.2.1, ct.2.2.2.1, m_X1_set 80 4 320 ct.2.2.2.2.1 record field flag, ct.2.2.2.2.2.1, ct.2.2.2.2.2.2)) := hD
    change W _ _ _ _ _ _ _ _ _ _ _ _ _ _ _ (F0 m 31 _ [])
    refine lv_iload hx hb dX0_guard_31 (lv_at hl 0 rfl) ?_
    exact cq_wI (wl := cl_cat Y act (ct.1, ct.2.1, ct.2.2.1, ct.2.2.2.1, m_X1_set 80 4 320 ct.2.2.2.2.1 record field flag, ct.2.2.2.2.2.1, ct.2.2.2.2.2.2)) hx hb hr hlocks (vp_nar_int _) hP hS (by subst ex_2; simp only [m_X0_guard, eq_false c_1, ↓reduceIte, if_true, if_false]) (by subst ex_2; simp only [m_X0_guard, eq_false c_1, ↓reduceIte, if_true, if_false]) dX0_guard_33
  · refine lv_iconst (v := 0) hx hb dX0_guard_8 (by decide) ?_
    exact cq_wI (wl := cl_cat Y act ct) hx hb hr hlocks (vp_nar_int _) hP hS (by simp only [m_X0_guard, eq_true c_1, ↓reduceIte, if_true, if_false]) (by simp only [m_X0_guard, eq_true c_1, ↓reduceIte, if_true, if_false]) dX0_guard_9

def m_X0_addHoldings (ct : CatS) (record : Int32) (more : Int32) : CatS × Int32 := (if m_X0_has ct record = 0 then (ct, 0) else ((ct.1, ct.2.1, ct.2.2.1, ct.2.2.2.1, ct.2.2.2.2.1, m_X4_set 80 ct.2.2.2.2.2.1 record ((m_X4_get 80 ct.2.2.2.2.2.1 record) + more), ct.2.2.2.2.2.2), m_X4_get 80 (m_X4_set 80 ct.2.2.2.2.2.1 record ((m_X4_get 80 ct.2.2.2.2.2.1 record) + more)) record))
set_option maxHeartbeats 4000000 in
set_option maxRecDepth 100000 in
theorem ct_X0_addHoldings (l : Launch) (D : va_G) (Y : cq_Y) (act : Nat → Nat) (ct : CatS) (record : Int32) (more : Int32) : cq_MW l yX0_addHoldings wsX0_addHoldings (cq_rm 2 42) D Y (cl_cat Y act ct) [.ref (act 0), .int record, .int more] (some (.int (m_X0_addHoldings ct record more).2)) (cl_cat Y act ((m_X0_addHoldings ct record more).1)) := by
  refine cq_body (cc := cX0_addHoldings) (maxL := 3) (ret := (some .int)) (by decide) rfl (Nat.le_of_ble_eq_true rfl) ?_
  intro p e s m below meth c hE hP hG hD ls hl
  obtain ⟨hx, hb, hr, hml, hts, hown, hnm, hlocks⟩ := hE
  have hS : va_S (cq_in (cl_cat Y act ct)) s.heap s.heap [] := va_S.rf
  have hl : lv_has ls 3 [(0, .ref (act 0)), (1, .int record), (2, .int more)] := hl
  refine lv_aload_n hx hb dX0_addHoldings_0 rfl (lv_at hl 0 rfl) ?_
  refine lv_iload_n hx hb dX0_addHoldings_1 rfl (lv_at hl 1 rfl) ?_
  refine cq_RV (st0 := [.int record, .ref (act 0)] ++ []) (As := [.int record]) (rest := []) ⟨hx, hb, hml, hown, hts⟩ (ct_X0_has l D Y act ct record) (cwV 1 hts gX0_addHoldings_X0_has rfl rfl rfl (by decide +kernel) ⟨Nat.le_of_ble_eq_true rfl, Nat.le_of_ble_eq_true rfl⟩) hG hP hD [0, 1, 2, 3, 4, 5, 6, 7, 8, 9, 10, 11, 12, 13, 14] rfl (by decide) 0 0 rfl rfl rfl rfl hl.1 rfl (Nat.le_of_ble_eq_true rfl) dX0_addHoldings_2 ⟨Nat.zero_le _, Nat.zero_le _⟩ ?_
  change W _ _ _ _ _ _ _ _ _ _ _ _ _ _ _ (F0 m 5 _ (.int (m_X0_has ct record) :: []))
  refine lv_if_ne (tgt := 10) hx hb dX0_addHoldings_5 (by decide) (fun c_1 => ?_) (fun c_1 => ?_)
  · refine lv_aload_n hx hb dX0_addHoldings_10 rfl (lv_at hl 0 rfl) ?_
    refine va_get (D := D) (ci := 0) (v := .ref (act 11)) (C := RX0) (T := TX0) (N := 7) hx hb hts (fun _ h => List.mem_cons_of_mem _ (List.mem_append_left _ (List.mem_append_right _ h))) hown hG.1 hP 0 rfl rfl 5 (by decide) (hts (.fieldLink RX0 38 "CatalogueLoader$Catalogue" "held" "LCatalogueLoader$Row;") (List.mem_of_getElem? (i := 1) rfl)) (fun _ h9 => h9) rfl dX0_addHoldings_11 ?_
    refine lv_iload_n hx hb dX0_addHoldings_14 rfl (lv_at hl 1 rfl) ?_
    refine lv_aload_n hx hb dX0_addHoldings_15 rfl (lv_at hl 0 rfl) ?_
    refine va_get (D := D) (ci := 0) (v := .ref (act 11)) (C := RX0) (T := TX0) (N := 7) hx hb hts (fun _ h => List.mem_cons_of_mem _ (List.mem_append_left _ (List.mem_append_right _ h))) hown hG.1 hP 0 rfl rfl 5 (by decide) (hts (.fieldLink RX0 38 "CatalogueLoader$Catalogue" "held" "LCatalogueLoader$Row;") (List.mem_of_getElem? (i := 1) rfl)) (fun _ h9 => h9) rfl dX0_addHoldings_16 ?_
    refine lv_iload_n hx hb dX0_addHoldings_19 rfl (lv_at hl 1 rfl) ?_
    refine cq_RV (st0 := [.int record, .ref (act 11)] ++ [.int record, .ref (act 11)]) (As := [.int record]) (rest := [.int record, .ref (act 11)]) ⟨hx, hb, hml, hown, hts⟩ (ct_X4_get l D Y (act 11) (act 12) 80 ct.2.2.2.2.2.1 record (by decide)) (cwV 1 hts gX0_addHoldings_X4_get rfl rfl rfl (by decide +kernel) ⟨Nat.le_of_ble_eq_true rfl, Nat.le_of_ble_eq_true rfl⟩) hG hP hD [11, 12] rfl (by decide) 11 4 rfl rfl rfl rfl hl.1 rfl (Nat.le_of_ble_eq_true rfl) dX0_addHoldings_20 ⟨Nat.zero_le _, Nat.zero_le _⟩ ?_
    change W _ _ _ _ _ _ _ _ _ _ _ _ _ _ _ (F0 m 23 _ (.int (m_X4_get 80 ct.2.2.2.2.2.1 record) :: [.int record, .ref (act 11)]))
    refine lv_iload_n hx hb dX0_addHoldings_23 rfl (lv_at hl 2 rfl) ?_
    refine lv_iadd hx hb dX0_addHoldings_24 ?_
    refine cq_WV (st0 := [.int ((m_X4_get 80 ct.2.2.2.2.2.1 record) + more), .int record, .ref (act 11)] ++ []) (As := [.int record, .int ((m_X4_get 80 ct.2.2.2.2.2.1 record) + more)]) (rest := []) ⟨hx, hb, hml, hown, hts⟩ (ct_X4_set l D Y (act 11) (act 12) 80 ct.2.2.2.2.2.1 record ((m_X4_get 80 ct.2.2.2.2.2.1 record) + more) (by decide)) (cwV 2 hts gX0_addHoldings_X4_set rfl rfl rfl (by decide +kernel) ⟨Nat.le_of_ble_eq_true rfl, Nat.le_of_ble_eq_true rfl⟩) hG hP hD hS [11, 12] rfl (by decide) rfl 11 4 rfl rfl rfl rfl hl.1 rfl (Nat.le_of_ble_eq_true rfl) dX0_addHoldings_25 ⟨Nat.zero_le _, Nat.zero_le _⟩ (fun H locs hP hD hS => ?_)
    have hP : va_P D vwCl (cl_cat Y act (ct.1, ct.2.1, ct.2.2.1, ct.2.2.2.1, ct.2.2.2.2.1, m_X4_set 80 ct.2.2.2.2.2.1 record ((m_X4_get 80 ct.2.2.2.2.2.1 record) + more), ct.2.2.2.2.2.2)) H := hP
    have hD : va_D (cq_in (cl_cat Y act ct)) (cl_cat Y act (ct.1, ct.2.1, ct.2.2.1, ct.2.2.2.1, ct.2.2.2.2.1, m_X4_set 80 ct.2.2.2.2.2.1 record ((m_X4_get 80 ct.2.2.2.2.2.1 record) + more), ct.2.2.2.2.2.2)) := hD
    change W _ _ _ _ _ _ _ _ _ _ _ _ _ _ _ (F0 m 28 _ [])
    refine lv_aload_n hx hb dX0_addHoldings_28 rfl (lv_at hl 0 rfl) ?_
    refine va_get (D := D) (ci := 0) (v := .ref (act 11)) (C := RX0) (T := TX0) (N := 7) hx hb hts (fun _ h => List.mem_cons_of_mem _ (List.mem_append_left _ (List.mem_append_right _ h))) hown hG.1 hP 0 rfl rfl 5 (by decide) (hts (.fieldLink RX0 38 "CatalogueLoader$Catalogue" "held" "LCatalogueLoader$Row;") (List.mem_of_getElem? (i := 1) rfl)) (fun _ h9 => h9) rfl dX0_addHoldings_29 ?_
    refine lv_iload_n hx hb dX0_addHoldings_32 rfl (lv_at hl 1 rfl) ?_
    refine cq_RV (st0 := [.int record, .ref (act 11)] ++ []) (As := [.int record]) (rest := []) ⟨hx, hb, hml, hown, hts⟩ (ct_X4_get l D Y (act 11) (act 12) 80 (m_X4_set 80 ct.2.2.2.2.2.1 record ((m_X4_get 80 ct.2.2.2.2.2.1 record) + more)) record (by decide)) (cwV 1 hts gX0_addHoldings_X4_get rfl rfl rfl (by decide +kernel) ⟨Nat.le_of_ble_eq_true rfl, Nat.le_of_ble_eq_true rfl⟩) hG hP hD [11, 12] rfl (by decide) 11 4 rfl rfl rfl rfl hl.1 rfl (Nat.le_of_ble_eq_true rfl) dX0_addHoldings_33 ⟨Nat.zero_le _, Nat.zero_le _⟩ ?_
    change W _ _ _ _ _ _ _ _ _ _ _ _ _ _ _ (F0 m 36 _ (.int (m_X4_get 80 (m_X4_set 80 ct.2.2.2.2.2.1 record ((m_X4_get 80 ct.2.2.2.2.2.1 record) + more)) record) :: []))
    exact cq_wI (wl := cl_cat Y act (ct.1, ct.2.1, ct.2.2.1, ct.2.2.2.1, ct.2.2.2.2.1, m_X4_set 80 ct.2.2.2.2.2.1 record ((m_X4_get 80 ct.2.2.2.2.2.1 record) + more), ct.2.2.2.2.2.2)) hx hb hr hlocks (vp_nar_int _) hP hS (by simp only [m_X0_addHoldings, eq_false c_1, ↓reduceIte, if_true, if_false]) (by simp only [m_X0_addHoldings, eq_false c_1, ↓reduceIte, if_true, if_false]) dX0_addHoldings_36
  · refine lv_iconst (v := 0) hx hb dX0_addHoldings_8 (by decide) ?_
    exact cq_wI (wl := cl_cat Y act ct) hx hb hr hlocks (vp_nar_int _) hP hS (by simp only [m_X0_addHoldings, eq_true c_1, ↓reduceIte, if_true, if_false]) (by simp only [m_X0_addHoldings, eq_true c_1, ↓reduceIte, if_true, if_false]) dX0_addHoldings_9

def m_X0_join_lp64 (ct : CatS) (record : Int32) (other : Int32) (fin_3 : CatS) : Nat → Nat → CatS → CatS
  | 0, k64, s0_64 => s0_64
  | n64 + 1, k64, s0_64 => (if m_X1_get 80 4 320 s0_64.2.2.1 other (nI k64) = (-1) then m_X0_join_lp64 ct record other fin_3 n64 (k64 + 1) (s0_64.1, s0_64.2.1, m_X1_set 80 4 320 s0_64.2.2.1 other (nI k64) (m_X1_get 80 4 320 s0_64.2.2.1 record (nI k64)), m_X1_set 80 4 320 s0_64.2.2.2.1 other (nI k64) (m_X1_get 80 4 320 s0_64.2.2.2.1 record (nI k64)), s0_64.2.2.2.2.1, s0_64.2.2.2.2.2.1, s0_64.2.2.2.2.2.2) else m_X0_join_lp64 ct record other fin_3 n64 (k64 + 1) s0_64)
def m_X0_join_lp20 (ct : CatS) (record : Int32) (other : Int32) : Nat → Nat → CatS → CatS
  | 0, k20, s0_20 => s0_20
  | n20 + 1, k20, s0_20 => (if m_X1_get 80 3 240 s0_20.2.1 other (nI k20) = (-1) then m_X0_join_lp20 ct record other n20 (k20 + 1) (s0_20.1, m_X1_set 80 3 240 s0_20.2.1 other (nI k20) (m_X1_get 80 3 240 s0_20.2.1 record (nI k20)), s0_20.2.2.1, s0_20.2.2.2.1, s0_20.2.2.2.2.1, s0_20.2.2.2.2.2.1, s0_20.2.2.2.2.2.2) else m_X0_join_lp20 ct record other n20 (k20 + 1) s0_20)
def m_X0_join (ct : CatS) (record : Int32) (other : Int32) : CatS × Int32 := (if m_X0_has ct record = 0 then (ct, 0) else (if m_X0_has ct other = 0 then (ct, 0) else (let fin_3 := m_X0_join_lp20 ct record other 3 0 ct; (let fin_5 := m_X0_join_lp64 ct record other fin_3 4 0 fin_3; (let c_7 := (m_X0_addHoldings (m_X4_set 80 fin_5.1 record 0, fin_5.2.1, fin_5.2.2.1, fin_5.2.2.2.1, fin_5.2.2.2.2.1, fin_5.2.2.2.2.2.1, fin_5.2.2.2.2.2.2) other (m_X4_get 80 fin_5.2.2.2.2.2.1 record)).1; (c_7, (m_X0_addHoldings (m_X4_set 80 fin_5.1 record 0, fin_5.2.1, fin_5.2.2.1, fin_5.2.2.2.1, fin_5.2.2.2.2.1, fin_5.2.2.2.2.2.1, fin_5.2.2.2.2.2.2) other (m_X4_get 80 fin_5.2.2.2.2.2.1 record)).2))))))
set_option maxHeartbeats 4000000 in
set_option maxRecDepth 100000 in
theorem ct_X0_join (l : Launch) (D : va_G) (Y : cq_Y) (act : Nat → Nat) (ct : CatS) (record : Int32) (other : Int32) : cq_MW l yX0_join wsX0_join (cq_rm 3 64) D Y (cl_cat Y act ct) [.ref (act 0), .int record, .int other] (some (.int (m_X0_join ct record other).2)) (cl_cat Y act ((m_X0_join ct record other).1)) := by
  refine cq_body (cc := cX0_join) (maxL := 4) (ret := (some .int)) (by decide) rfl (Nat.le_of_ble_eq_true rfl) ?_
  intro p e s m below meth c hE hP hG hD ls hl
  obtain ⟨hx, hb, hr, hml, hts, hown, hnm, hlocks⟩ := hE
  have hS : va_S (cq_in (cl_cat Y act ct)) s.heap s.heap [] := va_S.rf
  have hl : lv_has ls 4 [(0, .ref (act 0)), (1, .int record), (2, .int other)] := hl
  refine lv_aload_n hx hb dX0_join_0 rfl (lv_at hl 0 rfl) ?_
  refine lv_iload_n hx hb dX0_join_1 rfl (lv_at hl 1 rfl) ?_
  refine cq_RV (st0 := [.int record, .ref (act 0)] ++ []) (As := [.int record]) (rest := []) ⟨hx, hb, hml, hown, hts⟩ (ct_X0_has l D Y act ct record) (cwV 1 hts gX0_join_X0_has rfl rfl rfl (by decide +kernel) ⟨Nat.le_of_ble_eq_true rfl, Nat.le_of_ble_eq_true rfl⟩) hG hP hD [0, 1, 2, 3, 4, 5, 6, 7, 8, 9, 10, 11, 12, 13, 14] rfl (by decide) 0 0 rfl rfl rfl rfl hl.1 rfl (Nat.le_of_ble_eq_true rfl) dX0_join_2 ⟨Nat.zero_le _, Nat.zero_le _⟩ ?_
  change W _ _ _ _ _ _ _ _ _ _ _ _ _ _ _ (F0 m 5 _ (.int (m_X0_has ct record) :: []))
  refine lv_if_eq (tgt := 16) hx hb dX0_join_5 (by decide) (fun c_1 => ?_) (fun c_1 => ?_)
  · refine lv_iconst (v := 0) hx hb dX0_join_16 (by decide) ?_
    exact cq_wI (wl := cl_cat Y act ct) hx hb hr hlocks (vp_nar_int _) hP hS (by simp only [m_X0_join, eq_true c_1, ↓reduceIte, if_true, if_false]) (by simp only [m_X0_join, eq_true c_1, ↓reduceIte, if_true, if_false]) dX0_join_17
  · refine lv_aload_n hx hb dX0_join_8 rfl (lv_at hl 0 rfl) ?_
    refine lv_iload_n hx hb dX0_join_9 rfl (lv_at hl 2 rfl) ?_
    refine cq_RV (st0 := [.int other, .ref (act 0)] ++ []) (As := [.int other]) (rest := []) ⟨hx, hb, hml, hown, hts⟩ (ct_X0_has l D Y act ct other) (cwV 1 hts gX0_join_X0_has rfl rfl rfl (by decide +kernel) ⟨Nat.le_of_ble_eq_true rfl, Nat.le_of_ble_eq_true rfl⟩) hG hP hD [0, 1, 2, 3, 4, 5, 6, 7, 8, 9, 10, 11, 12, 13, 14] rfl (by decide) 0 0 rfl rfl rfl rfl hl.1 rfl (Nat.le_of_ble_eq_true rfl) dX0_join_10 ⟨Nat.zero_le _, Nat.zero_le _⟩ ?_
    change W _ _ _ _ _ _ _ _ _ _ _ _ _ _ _ (F0 m 13 _ (.int (m_X0_has ct other) :: []))
    refine lv_if_ne (tgt := 18) hx hb dX0_join_13 (by decide) (fun c_2 => ?_) (fun c_2 => ?_)
    · refine lv_iconst (v := 0) hx hb dX0_join_18 (by decide) ?_
      refine lv_istore_n (lv' := [(3, .int 0), (0, .ref (act 0)), (1, .int record), (2, .int other)]) hx hb dX0_join_19 rfl hl (by decide) rfl (fun ls hl => ?_)
      obtain ⟨fin_3, efin_3⟩ : ∃ z, z = m_X0_join_lp20 ct record other 3 0 ct := ⟨_, rfl⟩
      have lp20 : ∀ (n20 k20 : Nat) (s0_20 : CatS) (H : Heap) (locs : List Loc) (ls : Array Slot), k20 + n20 = 3 → m_X0_join_lp20 ct record other n20 k20 s0_20 = fin_3 → va_P D vwCl (cl_cat Y act s0_20) H → va_D (cq_in (cl_cat Y act ct)) (cl_cat Y act s0_20) → va_S (cq_in (cl_cat Y act ct)) s.heap H locs → lv_has ls 4 [(3, .int (nI k20)), (0, .ref (act 0)), (1, .int record), (2, .int other)] → W p l e (cq_rm 3 64) s m ([.ref (act 0), .int record, .int other] : List Value).toArray below meth c H locs 0 0 (MQ below (cq_W D (some (.int (m_X0_join ct record other).2)) (cl_cat Y act ct) (cl_cat Y act ((m_X0_join ct record other).1))) ([.ref (act 0), .int record, .int other] : List Value).toArray s 0 0 (cq_in (cl_cat Y act ct))) (F0 m 20 ls []) := by
        intro n20; induction n20 with
        | zero =>
          intro k20 s0_20 H locs ls hkn hres20 hP hD hS hl
          have hz : 3 ≤ nI k20 := cq_z (N := 3) rfl (by omega) (by omega)
          have e9 : fin_3 = s0_20 := hres20.symm
          subst e9
          refine lv_iload_n hx hb dX0_join_20 rfl (lv_at hl 0 rfl) ?_
          refine lv_iconst (v := 3) hx hb dX0_join_21 (by decide) ?_
          refine lv_icmp_ge (tgt := 62) hx hb dX0_join_22 (by decide) (fun c_4 => ?_) (fun c_4 => ?_)
          · refine lv_iconst (v := 0) hx hb dX0_join_62 (by decide) ?_
            refine lv_istore_n (lv' := [(3, .int 0), (0, .ref (act 0)), (1, .int record), (2, .int other)]) hx hb dX0_join_63 rfl hl (by decide) rfl (fun ls hl => ?_)
            obtain ⟨fin_5, efin_5⟩ : ∃ z, z = m_X0_join_lp64 ct record other fin_3 4 0 fin_3 := ⟨_, rfl⟩
            have lp64 : ∀ (n64 k64 : Nat) (s0_64 : CatS) (H : Heap) (locs : List Loc) (ls : Array Slot), k64 + n64 = 4 → m_X0_join_lp64 ct record other fin_3 n64 k64 s0_64 = fin_5 → va_P D vwCl (cl_cat Y act s0_64) H → va_D (cq_in (cl_cat Y act ct)) (cl_cat Y act s0_64) → va_S (cq_in (cl_cat Y act ct)) s.heap H locs → lv_has ls 4 [(3, .int (nI k64)), (0, .ref (act 0)), (1, .int record), (2, .int other)] → W p l e (cq_rm 3 64) s m ([.ref (act 0), .int record, .int other] : List Value).toArray below meth c H locs 0 0 (MQ below (cq_W D (some (.int (m_X0_join ct record other).2)) (cl_cat Y act ct) (cl_cat Y act ((m_X0_join ct record other).1))) ([.ref (act 0), .int record, .int other] : List Value).toArray s 0 0 (cq_in (cl_cat Y act ct))) (F0 m 64 ls []) := by
              intro n64; induction n64 with
              | zero =>
                intro k64 s0_64 H locs ls hkn hres64 hP hD hS hl
                have hz : 4 ≤ nI k64 := cq_z (N := 4) rfl (by omega) (by omega)
                have e9 : fin_5 = s0_64 := hres64.symm
                subst e9
                refine lv_iload_n hx hb dX0_join_64 rfl (lv_at hl 0 rfl) ?_
                refine lv_iconst (v := 4) hx hb dX0_join_65 (by decide) ?_
                refine lv_icmp_ge (tgt := 124) hx hb dX0_join_66 (by decide) (fun c_6 => ?_) (fun c_6 => ?_)
                · refine lv_aload_n hx hb dX0_join_124 rfl (lv_at hl 1 rfl) ?_
                  refine va_get (D := D) (ci := 0) (v := .ref (act 1)) (C := RX0) (T := TX0) (N := 7) hx hb hts (fun _ h => List.mem_cons_of_mem _ (List.mem_append_left _ (List.mem_append_left _ (List.mem_append_right _ h)))) hown hG.1 hP 0 rfl rfl 0 (by decide) (hts (.fieldLink RX0 14 "CatalogueLoader$Catalogue" "there" "LCatalogueLoader$Row;") (List.mem_of_getElem? (i := 4) rfl)) (fun _ h9 => h9) rfl dX0_join_125 ?_
                  refine lv_iload_n hx hb dX0_join_128 rfl (lv_at hl 2 rfl) ?_
                  refine lv_iconst (v := 0) hx hb dX0_join_129 (by decide) ?_
                  refine cq_WV (st0 := [.int 0, .int record, .ref (act 1)] ++ []) (As := [.int record, .int 0]) (rest := []) ⟨hx, hb, hml, hown, hts⟩ (ct_X4_set l D Y (act 1) (act 2) 80 fin_5.1 record 0 (by decide)) (cwV 2 hts gX0_join_X4_set rfl rfl rfl (by decide +kernel) ⟨Nat.le_of_ble_eq_true rfl, Nat.le_of_ble_eq_true rfl⟩) hG hP hD hS [1, 2] rfl (by decide) rfl 1 4 rfl rfl rfl rfl hl.1 rfl (Nat.le_of_ble_eq_true rfl) dX0_join_130 ⟨Nat.zero_le _, Nat.zero_le _⟩ (fun H locs hP hD hS => ?_)
                  have hP : va_P D vwCl (cl_cat Y act (m_X4_set 80 fin_5.1 record 0, fin_5.2.1, fin_5.2.2.1, fin_5.2.2.2.1, fin_5.2.2.2.2.1, fin_5.2.2.2.2.2.1, fin_5.2.2.2.2.2.2)) H := hP
                  have hD : va_D (cq_in (cl_cat Y act ct)) (cl_cat Y act (m_X4_set 80 fin_5.1 record 0, fin_5.2.1, fin_5.2.2.1, fin_5.2.2.2.1, fin_5.2.2.2.2.1, fin_5.2.2.2.2.2.1, fin_5.2.2.2.2.2.2)) := hD
                  change W _ _ _ _ _ _ _ _ _ _ _ _ _ _ _ (F0 m 133 _ [])
                  refine lv_aload_n hx hb dX0_join_133 rfl (lv_at hl 1 rfl) ?_
                  refine lv_iload_n hx hb dX0_join_134 rfl (lv_at hl 3 rfl) ?_
                  refine lv_aload_n hx hb dX0_join_135 rfl (lv_at hl 1 rfl) ?_
                  refine va_get (D := D) (ci := 0) (v := .ref (act 11)) (C := RX0) (T := TX0) (N := 7) hx hb hts (fun _ h => List.mem_cons_of_mem _ (List.mem_append_left _ (List.mem_append_left _ (List.mem_append_right _ h)))) hown hG.1 hP 0 rfl rfl 5 (by decide) (hts (.fieldLink RX0 38 "CatalogueLoader$Catalogue" "held" "LCatalogueLoader$Row;") (List.mem_of_getElem? (i := 5) rfl)) (fun _ h9 => h9) rfl dX0_join_136 ?_
                  refine lv_iload_n hx hb dX0_join_139 rfl (lv_at hl 2 rfl) ?_
                  refine cq_RV (st0 := [.int record, .ref (act 11)] ++ [.int other, .ref (act 0)]) (As := [.int record]) (rest := [.int other, .ref (act 0)]) ⟨hx, hb, hml, hown, hts⟩ (ct_X4_get l D Y (act 11) (act 12) 80 fin_5.2.2.2.2.2.1 record (by decide)) (cwV 1 hts gX0_join_X4_get rfl rfl rfl (by decide +kernel) ⟨Nat.le_of_ble_eq_true rfl, Nat.le_of_ble_eq_true rfl⟩) hG hP hD [11, 12] rfl (by decide) 11 4 rfl rfl rfl rfl hl.1 rfl (Nat.le_of_ble_eq_true rfl) dX0_join_140 ⟨Nat.zero_le _, Nat.zero_le _⟩ ?_
                  change W _ _ _ _ _ _ _ _ _ _ _ _ _ _ _ (F0 m 143 _ (.int (m_X4_get 80 fin_5.2.2.2.2.2.1 record) :: [.int other, .ref (act 0)]))
                  refine cq_WV (st0 := [.int (m_X4_get 80 fin_5.2.2.2.2.2.1 record), .int other, .ref (act 0)] ++ []) (As := [.int other, .int (m_X4_get 80 fin_5.2.2.2.2.2.1 record)]) (rest := []) ⟨hx, hb, hml, hown, hts⟩ (ct_X0_addHoldings l D Y act (m_X4_set 80 fin_5.1 record 0, fin_5.2.1, fin_5.2.2.1, fin_5.2.2.2.1, fin_5.2.2.2.2.1, fin_5.2.2.2.2.2.1, fin_5.2.2.2.2.2.2) other (m_X4_get 80 fin_5.2.2.2.2.2.1 record)) (cwV 2 hts gX0_join_X0_addHoldings rfl rfl rfl (by decide +kernel) ⟨Nat.le_of_ble_eq_true rfl, Nat.le_of_ble_eq_true rfl⟩) hG hP hD hS [0, 1, 2, 3, 4, 5, 6, 7, 8, 9, 10, 11, 12, 13, 14] rfl (by decide) rfl 0 0 rfl rfl rfl rfl hl.1 rfl (Nat.le_of_ble_eq_true rfl) dX0_join_143 ⟨Nat.zero_le _, Nat.zero_le _⟩ (fun H locs hP hD hS => ?_)
                  have hP : va_P D vwCl (cl_cat Y act ((m_X0_addHoldings (m_X4_set 80 fin_5.1 record 0, fin_5.2.1, fin_5.2.2.1, fin_5.2.2.2.1, fin_5.2.2.2.2.1, fin_5.2.2.2.2.2.1, fin_5.2.2.2.2.2.2) other (m_X4_get 80 fin_5.2.2.2.2.2.1 record)).1)) H := hP
                  have hD : va_D (cq_in (cl_cat Y act ct)) (cl_cat Y act ((m_X0_addHoldings (m_X4_set 80 fin_5.1 record 0, fin_5.2.1, fin_5.2.2.1, fin_5.2.2.2.1, fin_5.2.2.2.2.1, fin_5.2.2.2.2.2.1, fin_5.2.2.2.2.2.2) other (m_X4_get 80 fin_5.2.2.2.2.2.1 record)).1)) := hD
                  obtain ⟨c_7, ec_7⟩ : ∃ z, z = (m_X0_addHoldings (m_X4_set 80 fin_5.1 record 0, fin_5.2.1, fin_5.2.2.1, fin_5.2.2.2.1, fin_5.2.2.2.2.1, fin_5.2.2.2.2.2.1, fin_5.2.2.2.2.2.2) other (m_X4_get 80 fin_5.2.2.2.2.2.1 record)).1 := ⟨_, rfl⟩
                  rw [← ec_7] at hP hD
                  change W _ _ _ _ _ _ _ _ _ _ _ _ _ _ _ (F0 m 146 _ (.int ((m_X0_addHoldings (m_X4_set 80 fin_5.1 record 0, fin_5.2.1, fin_5.2.2.1, fin_5.2.2.2.1, fin_5.2.2.2.2.1, fin_5.2.2.2.2.2.1, fin_5.2.2.2.2.2.2) other (m_X4_get 80 fin_5.2.2.2.2.2.1 record)).2) :: []))
                  exact cq_wI (wl := cl_cat Y act c_7) hx hb hr hlocks (vp_nar_int _) hP hS (by subst ec_7; subst efin_5; subst efin_3; simp only [m_X0_join, eq_false c_1, eq_false c_2, ↓reduceIte, if_true, if_false]) (by subst ec_7; subst efin_5; subst efin_3; simp only [m_X0_join, eq_false c_1, eq_false c_2, ↓reduceIte, if_true, if_false]) dX0_join_146
                · exact absurd hz c_6
              | succ n64 ih64 =>
                intro k64 s0_64 H locs ls hkn hres64 hP hD hS hl
                have hz : ¬ (4 ≤ nI k64) := cq_s (N := 4) rfl (by omega) (by omega)
                refine lv_iload_n hx hb dX0_join_64 rfl (lv_at hl 0 rfl) ?_
                refine lv_iconst (v := 4) hx hb dX0_join_65 (by decide) ?_
                refine lv_icmp_ge (tgt := 124) hx hb dX0_join_66 (by decide) (fun c_8 => ?_) (fun c_8 => ?_)
                · exact absurd c_8 hz
                · refine lv_aload_n hx hb dX0_join_69 rfl (lv_at hl 1 rfl) ?_
                  refine va_get (D := D) (ci := 0) (v := .ref (act 5)) (C := RX0) (T := TX0) (N := 7) hx hb hts (fun _ h => List.mem_cons_of_mem _ (List.mem_append_left _ (List.mem_append_left _ (List.mem_append_right _ h)))) hown hG.1 hP 0 rfl rfl 2 (by decide) (hts (.fieldLink RX0 29 "CatalogueLoader$Catalogue" "fields" "LCatalogueLoader$Grid;") (List.mem_of_getElem? (i := 2) rfl)) (fun _ h9 => h9) rfl dX0_join_70 ?_
                  refine lv_iload_n hx hb dX0_join_73 rfl (lv_at hl 3 rfl) ?_
                  refine lv_iload_n hx hb dX0_join_74 rfl (lv_at hl 0 rfl) ?_
                  refine cq_RV (st0 := [.int (nI k64), .int other, .ref (act 5)] ++ []) (As := [.int other, .int (nI k64)]) (rest := []) ⟨hx, hb, hml, hown, hts⟩ (ct_X1_get l D Y (act 5) (act 6) 80 4 320 s0_64.2.2.1 other (nI k64) (by decide)) (cwV 2 hts gX0_join_X1_get rfl rfl rfl (by decide +kernel) ⟨Nat.le_of_ble_eq_true rfl, Nat.le_of_ble_eq_true rfl⟩) hG hP hD [5, 6] rfl (by decide) 5 1 rfl rfl rfl rfl hl.1 rfl (Nat.le_of_ble_eq_true rfl) dX0_join_75 ⟨Nat.zero_le _, Nat.zero_le _⟩ ?_
                  change W _ _ _ _ _ _ _ _ _ _ _ _ _ _ _ (F0 m 78 _ (.int (m_X1_get 80 4 320 s0_64.2.2.1 other (nI k64)) :: []))
                  refine lv_iconst (v := (-1)) hx hb dX0_join_78 (by decide) ?_
                  refine lv_icmp_ne (tgt := 118) hx hb dX0_join_79 (by decide) (fun c_9 => ?_) (fun c_9 => ?_)
                  · refine lv_iinc (v := nI (k64 + 1)) (lv' := [(3, .int (nI (k64 + 1))), (0, .ref (act 0)), (1, .int record), (2, .int other)]) hx hb dX0_join_118 hl (k := 0) rfl (nI_1 k64) (by decide) rfl (fun ls hl => ?_)
                    refine lv_goto (tgt := 64) hx hb dX0_join_121 (by decide) ?_
                    exact ih64 (k64 + 1) s0_64 _ _ _ (by omega) (Eq.trans (by subst efin_3; simp only [m_X0_join_lp64, eq_false c_1, eq_false c_2, eq_false c_9, ↓reduceIte, if_true, if_false]) hres64) hP hD hS (lv_sub hl [0, 1, 2, 3] rfl)
                  · refine lv_aload_n hx hb dX0_join_82 rfl (lv_at hl 1 rfl) ?_
                    refine va_get (D := D) (ci := 0) (v := .ref (act 5)) (C := RX0) (T := TX0) (N := 7) hx hb hts (fun _ h => List.mem_cons_of_mem _ (List.mem_append_left _ (List.mem_append_left _ (List.mem_append_right _ h)))) hown hG.1 hP 0 rfl rfl 2 (by decide) (hts (.fieldLink RX0 29 "CatalogueLoader$Catalogue" "fields" "LCatalogueLoader$Grid;") (List.mem_of_getElem? (i := 2) rfl)) (fun _ h9 => h9) rfl dX0_join_83 ?_
                    refine lv_iload_n hx hb dX0_join_86 rfl (lv_at hl 3 rfl) ?_
                    refine lv_iload_n hx hb dX0_join_87 rfl (lv_at hl 0 rfl) ?_
                    refine lv_aload_n hx hb dX0_join_88 rfl (lv_at hl 1 rfl) ?_
                    refine va_get (D := D) (ci := 0) (v := .ref (act 5)) (C := RX0) (T := TX0) (N := 7) hx hb hts (fun _ h => List.mem_cons_of_mem _ (List.mem_append_left _ (List.mem_append_left _ (List.mem_append_right _ h)))) hown hG.1 hP 0 rfl rfl 2 (by decide) (hts (.fieldLink RX0 29 "CatalogueLoader$Catalogue" "fields" "LCatalogueLoader$Grid;") (List.mem_of_getElem? (i := 2) rfl)) (fun _ h9 => h9) rfl dX0_join_89 ?_
                    refine lv_iload_n hx hb dX0_join_92 rfl (lv_at hl 2 rfl) ?_
                    refine lv_iload_n hx hb dX0_join_93 rfl (lv_at hl 0 rfl) ?_
                    refine cq_RV (st0 := [.int (nI k64), .int record, .ref (act 5)] ++ [.int (nI k64), .int other, .ref (act 5)]) (As := [.int record, .int (nI k64)]) (rest := [.int (nI k64), .int other, .ref (act 5)]) ⟨hx, hb, hml, hown, hts⟩ (ct_X1_get l D Y (act 5) (act 6) 80 4 320 s0_64.2.2.1 record (nI k64) (by decide)) (cwV 2 hts gX0_join_X1_get rfl rfl rfl (by decide +kernel) ⟨Nat.le_of_ble_eq_true rfl, Nat.le_of_ble_eq_true rfl⟩) hG hP hD [5, 6] rfl (by decide) 5 1 rfl rfl rfl rfl hl.1 rfl (Nat.le_of_ble_eq_true rfl) dX0_join_94 ⟨Nat.zero_le _, Nat.zero_le _⟩ ?_
                    change W _ _ _ _ _ _ _ _ _ _ _ _ _ _ _ (F0 m 97 _ (.int (m_X1_get 80 4 320 s0_64.2.2.1 record (nI k64)) :: [.int (nI k64), .int other, .ref (act 5)]))
                    refine cq_WV (st0 := [.int (m_X1_get 80 4 320 s0_64.2.2.1 record (nI k64)), .int (nI k64), .int other, .ref (act 5)] ++ []) (As := [.int other, .int (nI k64), .int (m_X1_get 80 4 320 s0_64.2.2.1 record (nI k64))]) (rest := []) ⟨hx, hb, hml, hown, hts⟩ (ct_X1_set l D Y (act 5) (act 6) 80 4 320 s0_64.2.2.1 other (nI k64) (m_X1_get 80 4 320 s0_64.2.2.1 record (nI k64)) (by decide)) (cwV 3 hts gX0_join_X1_set rfl rfl rfl (by decide +kernel) ⟨Nat.le_of_ble_eq_true rfl, Nat.le_of_ble_eq_true rfl⟩) hG hP hD hS [5, 6] rfl (by decide) rfl 5 1 rfl rfl rfl rfl hl.1 rfl (Nat.le_of_ble_eq_true rfl) dX0_join_97 ⟨Nat.zero_le _, Nat.zero_le _⟩ (fun H locs hP hD hS => ?_)
                    have hP : va_P D vwCl (cl_cat Y act (s0_64.1, s0_64.2.1, m_X1_set 80 4 320 s0_64.2.2.1 other (nI k64) (m_X1_get 80 4 320 s0_64.2.2.1 record (nI k64)), s0_64.2.2.2.1, s0_64.2.2.2.2.1, s0_64.2.2.2.2.2.1, s0_64.2.2.2.2.2.2)) H := hP
                    have hD : va_D (cq_in (cl_cat Y act ct)) (cl_cat Y act (s0_64.1, s0_64.2.1, m_X1_set 80 4 320 s0_64.2.2.1 other (nI k64) (m_X1_get 80 4 320 s0_64.2.2.1 record (nI k64)), s0_64.2.2.2.1, s0_64.2.2.2.2.1, s0_64.2.2.2.2.2.1, s0_64.2.2.2.2.2.2)) := hD
                    change W _ _ _ _ _ _ _ _ _ _ _ _ _ _ _ (F0 m 100 _ [])
                    refine lv_aload_n hx hb dX0_join_100 rfl (lv_at hl 1 rfl) ?_
                    refine va_get (D := D) (ci := 0) (v := .ref (act 7)) (C := RX0) (T := TX0) (N := 7) hx hb hts (fun _ h => List.mem_cons_of_mem _ (List.mem_append_left _ (List.mem_append_left _ (List.mem_append_right _ h)))) hown hG.1 hP 0 rfl rfl 3 (by decide) (hts (.fieldLink RX0 32 "CatalogueLoader$Catalogue" "sources" "LCatalogueLoader$Grid;") (List.mem_of_getElem? (i := 3) rfl)) (fun _ h9 => h9) rfl dX0_join_101 ?_
                    refine lv_iload_n hx hb dX0_join_104 rfl (lv_at hl 3 rfl) ?_
                    refine lv_iload_n hx hb dX0_join_105 rfl (lv_at hl 0 rfl) ?_
                    refine lv_aload_n hx hb dX0_join_106 rfl (lv_at hl 1 rfl) ?_
                    refine va_get (D := D) (ci := 0) (v := .ref (act 7)) (C := RX0) (T := TX0) (N := 7) hx hb hts (fun _ h => List.mem_cons_of_mem _ (List.mem_append_left _ (List.mem_append_left _ (List.mem_append_right _ h)))) hown hG.1 hP 0 rfl rfl 3 (by decide) (hts (.fieldLink RX0 32 "CatalogueLoader$Catalogue" "sources" "LCatalogueLoader$Grid;") (List.mem_of_getElem? (i := 3) rfl)) (fun _ h9 => h9) rfl dX0_join_107 ?_
                    refine lv_iload_n hx hb dX0_join_110 rfl (lv_at hl 2 rfl) ?_
                    refine lv_iload_n hx hb dX0_join_111 rfl (lv_at hl 0 rfl) ?_
                    refine cq_RV (st0 := [.int (nI k64), .int record, .ref (act 7)] ++ [.int (nI k64), .int other, .ref (act 7)]) (As := [.int record, .int (nI k64)]) (rest := [.int (nI k64), .int other, .ref (act 7)]) ⟨hx, hb, hml, hown, hts⟩ (ct_X1_get l D Y (act 7) (act 8) 80 4 320 s0_64.2.2.2.1 record (nI k64) (by decide)) (cwV 2 hts gX0_join_X1_get rfl rfl rfl (by decide +kernel) ⟨Nat.le_of_ble_eq_true rfl, Nat.le_of_ble_eq_true rfl⟩) hG hP hD [7, 8] rfl (by decide) 7 1 rfl rfl rfl rfl hl.1 rfl (Nat.le_of_ble_eq_true rfl) dX0_join_112 ⟨Nat.zero_le _, Nat.zero_le _⟩ ?_
                    change W _ _ _ _ _ _ _ _ _ _ _ _ _ _ _ (F0 m 115 _ (.int (m_X1_get 80 4 320 s0_64.2.2.2.1 record (nI k64)) :: [.int (nI k64), .int other, .ref (act 7)]))
                    refine cq_WV (st0 := [.int (m_X1_get 80 4 320 s0_64.2.2.2.1 record (nI k64)), .int (nI k64), .int other, .ref (act 7)] ++ []) (As := [.int other, .int (nI k64), .int (m_X1_get 80 4 320 s0_64.2.2.2.1 record (nI k64))]) (rest := []) ⟨hx, hb, hml, hown, hts⟩ (ct_X1_set l D Y (act 7) (act 8) 80 4 320 s0_64.2.2.2.1 other (nI k64) (m_X1_get 80 4 320 s0_64.2.2.2.1 record (nI k64)) (by decide)) (cwV 3 hts gX0_join_X1_set rfl rfl rfl (by decide +kernel) ⟨Nat.le_of_ble_eq_true rfl, Nat.le_of_ble_eq_true rfl⟩) hG hP hD hS [7, 8] rfl (by decide) rfl 7 1 rfl rfl rfl rfl hl.1 rfl (Nat.le_of_ble_eq_true rfl) dX0_join_115 ⟨Nat.zero_le _, Nat.zero_le _⟩ (fun H locs hP hD hS => ?_)
                    have hP : va_P D vwCl (cl_cat Y act (s0_64.1, s0_64.2.1, m_X1_set 80 4 320 s0_64.2.2.1 other (nI k64) (m_X1_get 80 4 320 s0_64.2.2.1 record (nI k64)), m_X1_set 80 4 320 s0_64.2.2.2.1 other (nI k64) (m_X1_get 80 4 320 s0_64.2.2.2.1 record (nI k64)), s0_64.2.2.2.2.1, s0_64.2.2.2.2.2.1, s0_64.2.2.2.2.2.2)) H := hP
                    have hD : va_D (cq_in (cl_cat Y act ct)) (cl_cat Y act (s0_64.1, s0_64.2.1, m_X1_set 80 4 320 s0_64.2.2.1 other (nI k64) (m_X1_get 80 4 320 s0_64.2.2.1 record (nI k64)), m_X1_set 80 4 320 s0_64.2.2.2.1 other (nI k64) (m_X1_get 80 4 320 s0_64.2.2.2.1 record (nI k64)), s0_64.2.2.2.2.1, s0_64.2.2.2.2.2.1, s0_64.2.2.2.2.2.2)) := hD
                    change W _ _ _ _ _ _ _ _ _ _ _ _ _ _ _ (F0 m 118 _ [])
                    refine lv_iinc (v := nI (k64 + 1)) (lv' := [(3, .int (nI (k64 + 1))), (0, .ref (act 0)), (1, .int record), (2, .int other)]) hx hb dX0_join_118 hl (k := 0) rfl (nI_1 k64) (by decide) rfl (fun ls hl => ?_)
                    refine lv_goto (tgt := 64) hx hb dX0_join_121 (by decide) ?_
                    exact ih64 (k64 + 1) (s0_64.1, s0_64.2.1, m_X1_set 80 4 320 s0_64.2.2.1 other (nI k64) (m_X1_get 80 4 320 s0_64.2.2.1 record (nI k64)), m_X1_set 80 4 320 s0_64.2.2.2.1 other (nI k64) (m_X1_get 80 4 320 s0_64.2.2.2.1 record (nI k64)), s0_64.2.2.2.2.1, s0_64.2.2.2.2.2.1, s0_64.2.2.2.2.2.2) _ _ _ (by omega) (Eq.trans (by subst efin_3; simp only [m_X0_join_lp64, eq_false c_1, eq_false c_2, eq_true c_9, ↓reduceIte, if_true, if_false]) hres64) hP hD hS (lv_sub hl [0, 1, 2, 3] rfl)
            exact lp64 4 0 fin_3 _ _ _ (Nat.zero_add _) efin_5.symm hP hD hS (lv_sub hl [0, 1, 2, 3] rfl)
          · exact absurd hz c_4
        | succ n20 ih20 =>
          intro k20 s0_20 H locs ls hkn hres20 hP hD hS hl
          have hz : ¬ (3 ≤ nI k20) := cq_s (N := 3) rfl (by omega) (by omega)
          refine lv_iload_n hx hb dX0_join_20 rfl (lv_at hl 0 rfl) ?_
          refine lv_iconst (v := 3) hx hb dX0_join_21 (by decide) ?_
          refine lv_icmp_ge (tgt := 62) hx hb dX0_join_22 (by decide) (fun c_10 => ?_) (fun c_10 => ?_)
          · exact absurd c_10 hz
          · refine lv_aload_n hx hb dX0_join_25 rfl (lv_at hl 1 rfl) ?_
            refine va_get (D := D) (ci := 0) (v := .ref (act 3)) (C := RX0) (T := TX0) (N := 7) hx hb hts (fun _ h => List.mem_cons_of_mem _ (List.mem_append_left _ (List.mem_append_left _ (List.mem_append_right _ h)))) hown hG.1 hP 0 rfl rfl 1 (by decide) (hts (.fieldLink RX0 25 "CatalogueLoader$Catalogue" "keys" "LCatalogueLoader$Grid;") (List.mem_of_getElem? (i := 1) rfl)) (fun _ h9 => h9) rfl dX0_join_26 ?_
            refine lv_iload_n hx hb dX0_join_29 rfl (lv_at hl 3 rfl) ?_
            refine lv_iload_n hx hb dX0_join_30 rfl (lv_at hl 0 rfl) ?_
            refine cq_RV (st0 := [.int (nI k20), .int other, .ref (act 3)] ++ []) (As := [.int other, .int (nI k20)]) (rest := []) ⟨hx, hb, hml, hown, hts⟩ (ct_X1_get l D Y (act 3) (act 4) 80 3 240 s0_20.2.1 other (nI k20) (by decide)) (cwV 2 hts gX0_join_X1_get rfl rfl rfl (by decide +kernel) ⟨Nat.le_of_ble_eq_true rfl, Nat.le_of_ble_eq_true rfl⟩) hG hP hD [3, 4] rfl (by decide) 3 1 rfl rfl rfl rfl hl.1 rfl (Nat.le_of_ble_eq_true rfl) dX0_join_31 ⟨Nat.zero_le _, Nat.zero_le _⟩ ?_
            change W _ _ _ _ _ _ _ _ _ _ _ _ _ _ _ (F0 m 34 _ (.int (m_X1_get 80 3 240 s0_20.2.1 other (nI k20)) :: []))
            refine lv_iconst (v := (-1)) hx hb dX0_join_34 (by decide) ?_
            refine lv_icmp_ne (tgt := 56) hx hb dX0_join_35 (by decide) (fun c_11 => ?_) (fun c_11 => ?_)
            · refine lv_iinc (v := nI (k20 + 1)) (lv' := [(3, .int (nI (k20 + 1))), (0, .ref (act 0)), (1, .int record), (2, .int other)]) hx hb dX0_join_56 hl (k := 0) rfl (nI_1 k20) (by decide) rfl (fun ls hl => ?_)
              refine lv_goto (tgt := 20) hx hb dX0_join_59 (by decide) ?_
              exact ih20 (k20 + 1) s0_20 _ _ _ (by omega) (Eq.trans (by simp only [m_X0_join_lp20, eq_false c_1, eq_false c_2, eq_false c_11, ↓reduceIte, if_true, if_false]) hres20) hP hD hS (lv_sub hl [0, 1, 2, 3] rfl)
            · refine lv_aload_n hx hb dX0_join_38 rfl (lv_at hl 1 rfl) ?_
              refine va_get (D := D) (ci := 0) (v := .ref (act 3)) (C := RX0) (T := TX0) (N := 7) hx hb hts (fun _ h => List.mem_cons_of_mem _ (List.mem_append_left _ (List.mem_append_left _ (List.mem_append_right _ h)))) hown hG.1 hP 0 rfl rfl 1 (by decide) (hts (.fieldLink RX0 25 "CatalogueLoader$Catalogue" "keys" "LCatalogueLoader$Grid;") (List.mem_of_getElem? (i := 1) rfl)) (fun _ h9 => h9) rfl dX0_join_39 ?_
              refine lv_iload_n hx hb dX0_join_42 rfl (lv_at hl 3 rfl) ?_
              refine lv_iload_n hx hb dX0_join_43 rfl (lv_at hl 0 rfl) ?_
              refine lv_aload_n hx hb dX0_join_44 rfl (lv_at hl 1 rfl) ?_
              refine va_get (D := D) (ci := 0) (v := .ref (act 3)) (C := RX0) (T := TX0) (N := 7) hx hb hts (fun _ h => List.mem_cons_of_mem _ (List.mem_append_left _ (List.mem_append_left _ (List.mem_append_right _ h)))) hown hG.1 hP 0 rfl rfl 1 (by decide) (hts (.fieldLink RX0 25 "CatalogueLoader$Catalogue" "keys" "LCatalogueLoader$Grid;") (List.mem_of_getElem? (i := 1) rfl)) (fun _ h9 => h9) rfl dX0_join_45 ?_
              refine lv_iload_n hx hb dX0_join_48 rfl (lv_at hl 2 rfl) ?_
              refine lv_iload_n hx hb dX0_join_49 rfl (lv_at hl 0 rfl) ?_
              refine cq_RV (st0 := [.int (nI k20), .int record, .ref (act 3)] ++ [.int (nI k20), .int other, .ref (act 3)]) (As := [.int record, .int (nI k20)]) (rest := [.int (nI k20), .int other, .ref (act 3)]) ⟨hx, hb, hml, hown, hts⟩ (ct_X1_get l D Y (act 3) (act 4) 80 3 240 s0_20.2.1 record (nI k20) (by decide)) (cwV 2 hts gX0_join_X1_get rfl rfl rfl (by decide +kernel) ⟨Nat.le_of_ble_eq_true rfl, Nat.le_of_ble_eq_true rfl⟩) hG hP hD [3, 4] rfl (by decide) 3 1 rfl rfl rfl rfl hl.1 rfl (Nat.le_of_ble_eq_true rfl) dX0_join_50 ⟨Nat.zero_le _, Nat.zero_le _⟩ ?_
              change W _ _ _ _ _ _ _ _ _ _ _ _ _ _ _ (F0 m 53 _ (.int (m_X1_get 80 3 240 s0_20.2.1 record (nI k20)) :: [.int (nI k20), .int other, .ref (act 3)]))
              refine cq_WV (st0 := [.int (m_X1_get 80 3 240 s0_20.2.1 record (nI k20)), .int (nI k20), .int other, .ref (act 3)] ++ []) (As := [.int other, .int (nI k20), .int (m_X1_get 80 3 240 s0_20.2.1 record (nI k20))]) (rest := []) ⟨hx, hb, hml, hown, hts⟩ (ct_X1_set l D Y (act 3) (act 4) 80 3 240 s0_20.2.1 other (nI k20) (m_X1_get 80 3 240 s0_20.2.1 record (nI k20)) (by decide)) (cwV 3 hts gX0_join_X1_set rfl rfl rfl (by decide +kernel) ⟨Nat.le_of_ble_eq_true rfl, Nat.le_of_ble_eq_true rfl⟩) hG hP hD hS [3, 4] rfl (by decide) rfl 3 1 rfl rfl rfl rfl hl.1 rfl (Nat.le_of_ble_eq_true rfl) dX0_join_53 ⟨Nat.zero_le _, Nat.zero_le _⟩ (fun H locs hP hD hS => ?_)
              have hP : va_P D vwCl (cl_cat Y act (s0_20.1, m_X1_set 80 3 240 s0_20.2.1 other (nI k20) (m_X1_get 80 3 240 s0_20.2.1 record (nI k20)), s0_20.2.2.1, s0_20.2.2.2.1, s0_20.2.2.2.2.1, s0_20.2.2.2.2.2.1, s0_20.2.2.2.2.2.2)) H := hP
              have hD : va_D (cq_in (cl_cat Y act ct)) (cl_cat Y act (s0_20.1, m_X1_set 80 3 240 s0_20.2.1 other (nI k20) (m_X1_get 80 3 240 s0_20.2.1 record (nI k20)), s0_20.2.2.1, s0_20.2.2.2.1, s0_20.2.2.2.2.1, s0_20.2.2.2.2.2.1, s0_20.2.2.2.2.2.2)) := hD
              change W _ _ _ _ _ _ _ _ _ _ _ _ _ _ _ (F0 m 56 _ [])
              refine lv_iinc (v := nI (k20 + 1)) (lv' := [(3, .int (nI (k20 + 1))), (0, .ref (act 0)), (1, .int record), (2, .int other)]) hx hb dX0_join_56 hl (k := 0) rfl (nI_1 k20) (by decide) rfl (fun ls hl => ?_)
              refine lv_goto (tgt := 20) hx hb dX0_join_59 (by decide) ?_
              exact ih20 (k20 + 1) (s0_20.1, m_X1_set 80 3 240 s0_20.2.1 other (nI k20) (m_X1_get 80 3 240 s0_20.2.1 record (nI k20)), s0_20.2.2.1, s0_20.2.2.2.1, s0_20.2.2.2.2.1, s0_20.2.2.2.2.2.1, s0_20.2.2.2.2.2.2) _ _ _ (by omega) (Eq.trans (by simp only [m_X0_join_lp20, eq_false c_1, eq_false c_2, eq_true c_11, ↓reduceIte, if_true, if_false]) hres20) hP hD hS (lv_sub hl [0, 1, 2, 3] rfl)
      exact lp20 3 0 ct _ _ _ (Nat.zero_add _) efin_3.symm hP hD hS (lv_sub hl [0, 1, 2, 3] rfl)
    · refine lv_iconst (v := 0) hx hb dX0_join_16 (by decide) ?_
      exact cq_wI (wl := cl_cat Y act ct) hx hb hr hlocks (vp_nar_int _) hP hS (by simp only [m_X0_join, eq_false c_1, eq_true c_2, ↓reduceIte, if_true, if_false]) (by simp only [m_X0_join, eq_false c_1, eq_true c_2, ↓reduceIte, if_true, if_false]) dX0_join_17
