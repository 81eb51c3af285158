set_option maxHeartbeats 4000000 in
set_option maxRecDepth 100000 in
theorem ct_does_undo0_ok (l : Launch) (D : va_G) (Y : cq_Y) (o0 : Nat) (ast : Nat → Nat) (st : SetS) (ald : Nat → Nat) (ld : LodS) (ahi : Nat → Nat) (hi : HisS) (act : Nat → Nat) (ct : CatS) (acd : Nat → Nat) (cd : CatS) (x : Int32) (r : (LodS × CatS) × Int32) (htot : m_X6_undo st ld hi ct cd x (0 : Int32) = .inr r) (hl0 : l.stackTraces = false) : cq_ML l yL_does wsL_does (cq_rx 8 2 12 166) D Y (cl_ldr o0 (ast 0) (ald 0) (ahi 0) (act 0) (acd 0) ++ (cl_set Y ast st ++ (cl_lod Y ald ld ++ (cl_his Y ahi hi ++ (cl_cat Y act ct ++ (cl_cat Y acd cd)))))) [.ref o0, .int 6, .int x, .int 0] (some (.int r.2)) (cl_ldr o0 (ast 0) (ald 0) (ahi 0) (act 0) (acd 0) ++ (cl_set Y ast st ++ (cl_lod Y ald r.1.1 ++ (cl_his Y ahi hi ++ (cl_cat Y act r.1.2 ++ (cl_cat Y acd cd)))))) 2 12 := by
  refine cq_bodyL (cc := cL_does) (maxL := 5) (ret := (some .int)) (hh := [(0, 124, 125, 88), (0, 124, 130, 90), (0, 124, 135, 92)]) (by decide) rfl (Nat.le_of_ble_eq_true rfl) ?_
  intro p e s m below meth c hE htab hP hG hD hEC hNC ls hl
  obtain ⟨hx, hb, hr, hml, hts, hown, hnm, hlocks⟩ := hE
  have hown : s.vm.findClass RL = some m.cls := hown
  have hS : va_S (cq_in (cl_ldr o0 (ast 0) (ald 0) (ahi 0) (act 0) (acd 0) ++ (cl_set Y ast st ++ (cl_lod Y ald ld ++ (cl_his Y ahi hi ++ (cl_cat Y act ct ++ (cl_cat Y acd cd))))))) s.heap s.heap [] := va_S.rf
  have hl : lv_has ls 5 [(0, .ref o0), (1, .int 6), (2, .int x), (3, .int 0)] := hl
  refine lv_iload_n hx hb dL_does_0 rfl (lv_at hl 1 rfl) ?_
  refine lv_if_ne (tgt := 11) hx hb dL_does_1 (by decide) (fun c_1 => ?_) (fun c_1 => ?_)
  · refine lv_iload_n hx hb dL_does_11 rfl (lv_at hl 1 rfl) ?_
    refine lv_iconst (v := 1) hx hb dL_does_12 (by decide) ?_
    refine lv_icmp_ne (tgt := 25) hx hb dL_does_13 (by decide) (fun c_2 => ?_) (fun c_2 => ?_)
    · refine lv_iload_n hx hb dL_does_25 rfl (lv_at hl 1 rfl) ?_
      refine lv_iconst (v := 2) hx hb dL_does_26 (by decide) ?_
      refine lv_icmp_ne (tgt := 39) hx hb dL_does_27 (by decide) (fun c_3 => ?_) (fun c_3 => ?_)
      · refine lv_iload_n hx hb dL_does_39 rfl (lv_at hl 1 rfl) ?_
        refine lv_iconst (v := 3) hx hb dL_does_40 (by decide) ?_
        refine lv_icmp_ne (tgt := 52) hx hb dL_does_41 (by decide) (fun c_4 => ?_) (fun c_4 => ?_)
        · refine lv_iload_n hx hb dL_does_52 rfl (lv_at hl 1 rfl) ?_
          refine lv_iconst (v := 4) hx hb dL_does_53 (by decide) ?_
          refine lv_icmp_ne (tgt := 65) hx hb dL_does_54 (by decide) (fun c_5 => ?_) (fun c_5 => ?_)
          · refine lv_iload_n hx hb dL_does_65 rfl (lv_at hl 1 rfl) ?_
            refine lv_iconst (v := 5) hx hb dL_does_66 (by decide) ?_
            refine lv_icmp_ne (tgt := 79) hx hb dL_does_67 (by decide) (fun c_6 => ?_) (fun c_6 => ?_)
            · refine lv_iload_n hx hb dL_does_79 rfl (lv_at hl 1 rfl) ?_
              refine lv_bipush (v := 6) hx hb dL_does_80 (by decide) ?_
              refine lv_icmp_ne (tgt := 103) hx hb dL_does_82 (by decide) (fun c_7 => ?_) (fun c_7 => ?_)
              · exact absurd c_7 (by decide)
              · refine lv_aload_n hx hb dL_does_85 rfl (lv_at hl 0 rfl) ?_
                refine lv_iload_n hx hb dL_does_86 rfl (lv_at hl 2 rfl) ?_
                refine lv_iload_n hx hb dL_does_87 rfl (lv_at hl 3 rfl) ?_
                refine lv_iconst (v := 1) hx hb dL_does_88 (by decide) ?_
                refine lv_icmp_ne (tgt := 96) hx hb dL_does_89 (by decide) (fun c_8 => ?_) (fun c_8 => ?_)
                · refine lv_iconst (v := 0) hx hb dL_does_96 (by decide) ?_
                  have hrun := cq_LrunW (p := p) (l := l) (e := e) (R := (cq_rx 8 2 12 166)) (s := s) (m := m) (args := ([.ref o0, .int 6, .int x, .int 0] : List Value).toArray) (below := below) (meth := meth) (c := c) (H := s.heap) (locs := []) (cells := 0) (slots := 0) (y := yX6_undo) (bytes := cX6_undo) (cc := cL_does) (maxL := 4) (nL := 5) (n := 2) (index := 78) (pc := 97) (mc := 2) (ms := 12) (ret := (some .int)) (ws := wsX6_undo) (rm := cq_rx 7 2 12 143) (Ts := wsL_does) (own := RL) (C := RX6) (b := o0) (As := [.int x, .int 0]) (rest := []) (st0 := [.int 0, .int x, .ref o0]) (ls := ls) (D := D) (Y := Y) (W0 := cl_ldr o0 (ast 0) (ald 0) (ahi 0) (act 0) (acd 0) ++ (cl_set Y ast st ++ (cl_lod Y ald ld ++ (cl_his Y ahi hi ++ (cl_cat Y act ct ++ (cl_cat Y acd cd)))))) (wl := cl_ldr o0 (ast 0) (ald 0) (ahi 0) (act 0) (acd 0) ++ (cl_set Y ast st ++ (cl_lod Y ald ld ++ (cl_his Y ahi hi ++ (cl_cat Y act ct ++ (cl_cat Y acd cd)))))) (α := (LodS × CatS) × Int32) (tot := m_X6_undo st ld hi ct cd x (0 : Int32)) (v := fun r => some (.int r.2)) (W1 := fun r => cl_ldr o0 (ast 0) (ald 0) (ahi 0) (act 0) (acd 0) ++ (cl_set Y ast st ++ (cl_lod Y ald r.1.1 ++ (cl_his Y ahi hi ++ (cl_cat Y act r.1.2 ++ (cl_cat Y acd cd)))))) ⟨hx, hb, hml, hown, hts⟩ (ct_X6_undo l D Y o0 ast st ald ld ahi hi act ct acd cd x (0 : Int32) hl0) (cwV 2 hts gL_does_X6_undo rfl rfl rfl (by decide +kernel) ⟨Nat.le_of_ble_eq_true rfl, Nat.le_of_ble_eq_true rfl⟩) hG hP hD hEC [0, 1, 2, 3, 4, 5, 6, 7, 8, 9, 10, 11, 12, 13, 14, 15, 16, 17, 18, 19, 20, 21, 22, 23, 24, 25, 26, 27, 28, 29, 30, 31, 32, 33, 34, 35, 36, 37, 38, 39, 40, 41, 42, 43, 44, 45, 46, 47, 48, 49, 50, 51, 52, 53, 54, 55, 56, 57] rfl (by decide +kernel) 0 6 (qc := (RX6, TX6, 5)) (fs := [.ref (ast 0), .ref (ald 0), .ref (ahi 0), .ref (act 0), .ref (acd 0)]) rfl rfl rfl rfl hl.1 rfl (Nat.le_of_ble_eq_true rfl) dL_does_97 ⟨Nat.le_of_ble_eq_true rfl, Nat.le_of_ble_eq_true rfl⟩
                  have had : (cl_ldr o0 (ast 0) (ald 0) (ahi 0) (act 0) (acd 0) ++ (cl_set Y ast st ++ (cl_lod Y ald r.1.1 ++ (cl_his Y ahi hi ++ (cl_cat Y act r.1.2 ++ (cl_cat Y acd cd)))))).map (·.1) = (cl_ldr o0 (ast 0) (ald 0) (ahi 0) (act 0) (acd 0) ++ (cl_set Y ast st ++ (cl_lod Y ald ld ++ (cl_his Y ahi hi ++ (cl_cat Y act ct ++ (cl_cat Y acd cd)))))).map (·.1) := (show (cl_ldr o0 (ast 0) (ald 0) (ahi 0) (act 0) (acd 0) ++ (cl_set Y ast st ++ (cl_lod Y ald r.1.1 ++ (cl_his Y ahi hi ++ (cl_cat Y act r.1.2 ++ (cl_cat Y acd cd)))))).map (·.1) = ([o0, ast 0, ast 1, ast 2, ast 3, ast 4, ast 5, ast 6, ald 0, ald 1, ald 2, ald 3, ald 4, ald 5, ald 6, ald 7, ald 8, ald 9, ald 10, ahi 0, ahi 1, ahi 2, ahi 3, ahi 4, ahi 5, ahi 6, ahi 7, ahi 8, act 0, act 1, act 2, act 3, act 4, act 5, act 6, act 7, act 8, act 9, act 10, act 11, act 12, act 13, act 14, acd 0, acd 1, acd 2, acd 3, acd 4, acd 5, acd 6, acd 7, acd 8, acd 9, acd 10, acd 11, acd 12, acd 13, acd 14] : List Nat) from rfl).trans (show (cl_ldr o0 (ast 0) (ald 0) (ahi 0) (act 0) (acd 0) ++ (cl_set Y ast st ++ (cl_lod Y ald ld ++ (cl_his Y ahi hi ++ (cl_cat Y act ct ++ (cl_cat Y acd cd)))))).map (·.1) = ([o0, ast 0, ast 1, ast 2, ast 3, ast 4, ast 5, ast 6, ald 0, ald 1, ald 2, ald 3, ald 4, ald 5, ald 6, ald 7, ald 8, ald 9, ald 10, ahi 0, ahi 1, ahi 2, ahi 3, ahi 4, ahi 5, ahi 6, ahi 7, ahi 8, act 0, act 1, act 2, act 3, act 4, act 5, act 6, act 7, act 8, act 9, act 10, act 11, act 12, act 13, act 14, acd 0, acd 1, acd 2, acd 3, acd 4, acd 5, acd 6, acd 7, acd 8, acd 9, acd 10, acd 11, acd 12, acd 13, acd 14] : List Nat) from rfl).symm
                  have hnew : cq_new (cl_ldr o0 (ast 0) (ald 0) (ahi 0) (act 0) (acd 0) ++ (cl_set Y ast st ++ (cl_lod Y ald ld ++ (cl_his Y ahi hi ++ (cl_cat Y act ct ++ (cl_cat Y acd cd)))))) (cl_ldr o0 (ast 0) (ald 0) (ahi 0) (act 0) (acd 0) ++ (cl_set Y ast st ++ (cl_lod Y ald r.1.1 ++ (cl_his Y ahi hi ++ (cl_cat Y act r.1.2 ++ (cl_cat Y acd cd)))))) (cl_ldr o0 (ast 0) (ald 0) (ahi 0) (act 0) (acd 0) ++ (cl_set Y ast st ++ (cl_lod Y ald r.1.1 ++ (cl_his Y ahi hi ++ (cl_cat Y act r.1.2 ++ (cl_cat Y acd cd)))))) [0, 1, 2, 3, 4, 5, 6, 7, 8, 9, 10, 11, 12, 13, 14, 15, 16, 17, 18, 19, 20, 21, 22, 23, 24, 25, 26, 27, 28, 29, 30, 31, 32, 33, 34, 35, 36, 37, 38, 39, 40, 41, 42, 43, 44, 45, 46, 47, 48, 49, 50, 51, 52, 53, 54, 55, 56, 57] [] := ⟨rfl, ⟨[], rfl, rfl⟩, 58, rfl, by decide +kernel⟩
                  refine cq_LW_ok (wl1 := cl_ldr o0 (ast 0) (ald 0) (ahi 0) (act 0) (acd 0) ++ (cl_set Y ast st ++ (cl_lod Y ald r.1.1 ++ (cl_his Y ahi hi ++ (cl_cat Y act r.1.2 ++ (cl_cat Y acd cd)))))) (A := cq_in (cl_ldr o0 (ast 0) (ald 0) (ahi 0) (act 0) (acd 0) ++ (cl_set Y ast st ++ (cl_lod Y ald ld ++ (cl_his Y ahi hi ++ (cl_cat Y act ct ++ (cl_cat Y acd cd))))))) r htot hrun hP hD hS rfl hnew had (fun H locs hP hD hS => ?_)
                  change W _ _ _ _ _ _ _ _ _ _ _ _ _ _ _ (F0 m 100 _ (.int r.2 :: []))
                  refine lv_goto (tgt := 124) hx hb dL_does_100 (by decide) ?_
                  exact cq_lI (wl := cl_ldr o0 (ast 0) (ald 0) (ahi 0) (act 0) (acd 0) ++ (cl_set Y ast st ++ (cl_lod Y ald r.1.1 ++ (cl_his Y ahi hi ++ (cl_cat Y act r.1.2 ++ (cl_cat Y acd cd)))))) hx hb hr hlocks (vp_nar_int _) hP hS rfl rfl (Nat.le_of_ble_eq_true rfl) (Nat.le_of_ble_eq_true rfl) dL_does_124
                · exact absurd c_8 (by decide)
            · exact absurd c_6 (by decide)
          · exact absurd c_5 (by decide)
        · exact absurd c_4 (by decide)
      · exact absurd c_3 (by decide)
    · exact absurd c_2 (by decide)
  · exact absurd c_1 (by decide)

set_option maxHeartbeats 4000000 in
set_option maxRecDepth 100000 in
theorem ct_does_undo1_ok (l : Launch) (D : va_G) (Y : cq_Y) (o0 : Nat) (ast : Nat → Nat) (st : SetS) (ald : Nat → Nat) (ld : LodS) (ahi : Nat → Nat) (hi : HisS) (act : Nat → Nat) (ct : CatS) (acd : Nat → Nat) (cd : CatS) (x : Int32) (r : (LodS × CatS) × Int32) (htot : m_X6_undo st ld hi ct cd x (1 : Int32) = .inr r) (hl0 : l.stackTraces = false) : cq_ML l yL_does wsL_does (cq_rx 8 2 12 166) D Y (cl_ldr o0 (ast 0) (ald 0) (ahi 0) (act 0) (acd 0) ++ (cl_set Y ast st ++ (cl_lod Y ald ld ++ (cl_his Y ahi hi ++ (cl_cat Y act ct ++ (cl_cat Y acd cd)))))) [.ref o0, .int 6, .int x, .int 1] (some (.int r.2)) (cl_ldr o0 (ast 0) (ald 0) (ahi 0) (act 0) (acd 0) ++ (cl_set Y ast st ++ (cl_lod Y ald r.1.1 ++ (cl_his Y ahi hi ++ (cl_cat Y act r.1.2 ++ (cl_cat Y acd cd)))))) 2 12 := by
  refine cq_bodyL (cc := cL_does) (maxL := 5) (ret := (some .int)) (hh := [(0, 124, 125, 88), (0, 124, 130, 90), (0, 124, 135, 92)]) (by decide) rfl (Nat.le_of_ble_eq_true rfl) ?_
  intro p e s m below meth c hE htab hP hG hD hEC hNC ls hl
  obtain ⟨hx, hb, hr, hml, hts, hown, hnm, hlocks⟩ := hE
  have hown : s.vm.findClass RL = some m.cls := hown
  have hS : va_S (cq_in (cl_ldr o0 (ast 0) (ald 0) (ahi 0) (act 0) (acd 0) ++ (cl_set Y ast st ++ (cl_lod Y ald ld ++ (cl_his Y ahi hi ++ (cl_cat Y act ct ++ (cl_cat Y acd cd))))))) s.heap s.heap [] := va_S.rf
  have hl : lv_has ls 5 [(0, .ref o0), (1, .int 6), (2, .int x), (3, .int 1)] := hl
  refine lv_iload_n hx hb dL_does_0 rfl (lv_at hl 1 rfl) ?_
  refine lv_if_ne (tgt := 11) hx hb dL_does_1 (by decide) (fun c_1 => ?_) (fun c_1 => ?_)
  · refine lv_iload_n hx hb dL_does_11 rfl (lv_at hl 1 rfl) ?_
    refine lv_iconst (v := 1) hx hb dL_does_12 (by decide) ?_
    refine lv_icmp_ne (tgt := 25) hx hb dL_does_13 (by decide) (fun c_2 => ?_) (fun c_2 => ?_)
    · refine lv_iload_n hx hb dL_does_25 rfl (lv_at hl 1 rfl) ?_
      refine lv_iconst (v := 2) hx hb dL_does_26 (by decide) ?_
      refine lv_icmp_ne (tgt := 39) hx hb dL_does_27 (by decide) (fun c_3 => ?_) (fun c_3 => ?_)
      · refine lv_iload_n hx hb dL_does_39 rfl (lv_at hl 1 rfl) ?_
        refine lv_iconst (v := 3) hx hb dL_does_40 (by decide) ?_
        refine lv_icmp_ne (tgt := 52) hx hb dL_does_41 (by decide) (fun c_4 => ?_) (fun c_4 => ?_)
        · refine lv_iload_n hx hb dL_does_52 rfl (lv_at hl 1 rfl) ?_
          refine lv_iconst (v := 4) hx hb dL_does_53 (by decide) ?_
          refine lv_icmp_ne (tgt := 65) hx hb dL_does_54 (by decide) (fun c_5 => ?_) (fun c_5 => ?_)
          · refine lv_iload_n hx hb dL_does_65 rfl (lv_at hl 1 rfl) ?_
            refine lv_iconst (v := 5) hx hb dL_does_66 (by decide) ?_
            refine lv_icmp_ne (tgt := 79) hx hb dL_does_67 (by decide) (fun c_6 => ?_) (fun c_6 => ?_)
            · refine lv_iload_n hx hb dL_does_79 rfl (lv_at hl 1 rfl) ?_
              refine lv_bipush (v := 6) hx hb dL_does_80 (by decide) ?_
              refine lv_icmp_ne (tgt := 103) hx hb dL_does_82 (by decide) (fun c_7 => ?_) (fun c_7 => ?_)
              · exact absurd c_7 (by decide)
              · refine lv_aload_n hx hb dL_does_85 rfl (lv_at hl 0 rfl) ?_
                refine lv_iload_n hx hb dL_does_86 rfl (lv_at hl 2 rfl) ?_
                refine lv_iload_n hx hb dL_does_87 rfl (lv_at hl 3 rfl) ?_
                refine lv_iconst (v := 1) hx hb dL_does_88 (by decide) ?_
                refine lv_icmp_ne (tgt := 96) hx hb dL_does_89 (by decide) (fun c_8 => ?_) (fun c_8 => ?_)
                · exact absurd c_8 (by decide)
                · refine lv_iconst (v := 1) hx hb dL_does_92 (by decide) ?_
                  refine lv_goto (tgt := 97) hx hb dL_does_93 (by decide) ?_
                  have hrun := cq_LrunW (p := p) (l := l) (e := e) (R := (cq_rx 8 2 12 166)) (s := s) (m := m) (args := ([.ref o0, .int 6, .int x, .int 1] : List Value).toArray) (below := below) (meth := meth) (c := c) (H := s.heap) (locs := []) (cells := 0) (slots := 0) (y := yX6_undo) (bytes := cX6_undo) (cc := cL_does) (maxL := 4) (nL := 5) (n := 2) (index := 78) (pc := 97) (mc := 2) (ms := 12) (ret := (some .int)) (ws := wsX6_undo) (rm := cq_rx 7 2 12 143) (Ts := wsL_does) (own := RL) (C := RX6) (b := o0) (As := [.int x, .int 1]) (rest := []) (st0 := [.int 1, .int x, .ref o0]) (ls := ls) (D := D) (Y := Y) (W0 := cl_ldr o0 (ast 0) (ald 0) (ahi 0) (act 0) (acd 0) ++ (cl_set Y ast st ++ (cl_lod Y ald ld ++ (cl_his Y ahi hi ++ (cl_cat Y act ct ++ (cl_cat Y acd cd)))))) (wl := cl_ldr o0 (ast 0) (ald 0) (ahi 0) (act 0) (acd 0) ++ (cl_set Y ast st ++ (cl_lod Y ald ld ++ (cl_his Y ahi hi ++ (cl_cat Y act ct ++ (cl_cat Y acd cd)))))) (α := (LodS × CatS) × Int32) (tot := m_X6_undo st ld hi ct cd x (1 : Int32)) (v := fun r => some (.int r.2)) (W1 := fun r => cl_ldr o0 (ast 0) (ald 0) (ahi 0) (act 0) (acd 0) ++ (cl_set Y ast st ++ (cl_lod Y ald r.1.1 ++ (cl_his Y ahi hi ++ (cl_cat Y act r.1.2 ++ (cl_cat Y acd cd)))))) ⟨hx, hb, hml, hown, hts⟩ (ct_X6_undo l D Y o0 ast st ald ld ahi hi act ct acd cd x (1 : Int32) hl0) (cwV 2 hts gL_does_X6_undo rfl rfl rfl (by decide +kernel) ⟨Nat.le_of_ble_eq_true rfl, Nat.le_of_ble_eq_true rfl⟩) hG hP hD hEC [0, 1, 2, 3, 4, 5, 6, 7, 8, 9, 10, 11, 12, 13, 14, 15, 16, 17, 18, 19, 20, 21, 22, 23, 24, 25, 26, 27, 28, 29, 30, 31, 32, 33, 34, 35, 36, 37, 38, 39, 40, 41, 42, 43, 44, 45, 46, 47, 48, 49, 50, 51, 52, 53, 54, 55, 56, 57] rfl (by decide +kernel) 0 6 (qc := (RX6, TX6, 5)) (fs := [.ref (ast 0), .ref (ald 0), .ref (ahi 0), .ref (act 0), .ref (acd 0)]) rfl rfl rfl rfl hl.1 rfl (Nat.le_of_ble_eq_true rfl) dL_does_97 ⟨Nat.le_of_ble_eq_true rfl, Nat.le_of_ble_eq_true rfl⟩
                  have had : (cl_ldr o0 (ast 0) (ald 0) (ahi 0) (act 0) (acd 0) ++ (cl_set Y ast st ++ (cl_lod Y ald r.1.1 ++ (cl_his Y ahi hi ++ (cl_cat Y act r.1.2 ++ (cl_cat Y acd cd)))))).map (·.1) = (cl_ldr o0 (ast 0) (ald 0) (ahi 0) (act 0) (acd 0) ++ (cl_set Y ast st ++ (cl_lod Y ald ld ++ (cl_his Y ahi hi ++ (cl_cat Y act ct ++ (cl_cat Y acd cd)))))).map (·.1) := (show (cl_ldr o0 (ast 0) (ald 0) (ahi 0) (act 0) (acd 0) ++ (cl_set Y ast st ++ (cl_lod Y ald r.1.1 ++ (cl_his Y ahi hi ++ (cl_cat Y act r.1.2 ++ (cl_cat Y acd cd)))))).map (·.1) = ([o0, ast 0, ast 1, ast 2, ast 3, ast 4, ast 5, ast 6, ald 0, ald 1, ald 2, ald 3, ald 4, ald 5, ald 6, ald 7, ald 8, ald 9, ald 10, ahi 0, ahi 1, ahi 2, ahi 3, ahi 4, ahi 5, ahi 6, ahi 7, ahi 8, act 0, act 1, act 2, act 3, act 4, act 5, act 6, act 7, act 8, act 9, act 10, act 11, act 12, act 13, act 14, acd 0, acd 1, acd 2, acd 3, acd 4, acd 5, acd 6, acd 7, acd 8, acd 9, acd 10, acd 11, acd 12, acd 13, acd 14] : List Nat) from rfl).trans (show (cl_ldr o0 (ast 0) (ald 0) (ahi 0) (act 0) (acd 0) ++ (cl_set Y ast st ++ (cl_lod Y ald ld ++ (cl_his Y ahi hi ++ (cl_cat Y act ct ++ (cl_cat Y acd cd)))))).map (·.1) = ([o0, ast 0, ast 1, ast 2, ast 3, ast 4, ast 5, ast 6, ald 0, ald 1, ald 2, ald 3, ald 4, ald 5, ald 6, ald 7, ald 8, ald 9, ald 10, ahi 0, ahi 1, ahi 2, ahi 3, ahi 4, ahi 5, ahi 6, ahi 7, ahi 8, act 0, act 1, act 2, act 3, act 4, act 5, act 6, act 7, act 8, act 9, act 10, act 11, act 12, act 13, act 14, acd 0, acd 1, acd 2, acd 3, acd 4, acd 5, acd 6, acd 7, acd 8, acd 9, acd 10, acd 11, acd 12, acd 13, acd 14] : List Nat) from rfl).symm
                  have hnew : cq_new (cl_ldr o0 (ast 0) (ald 0) (ahi 0) (act 0) (acd 0) ++ (cl_set Y ast st ++ (cl_lod Y ald ld ++ (cl_his Y ahi hi ++ (cl_cat Y act ct ++ (cl_cat Y acd cd)))))) (cl_ldr o0 (ast 0) (ald 0) (ahi 0) (act 0) (acd 0) ++ (cl_set Y ast st ++ (cl_lod Y ald r.1.1 ++ (cl_his Y ahi hi ++ (cl_cat Y act r.1.2 ++ (cl_cat Y acd cd)))))) (cl_ldr o0 (ast 0) (ald 0) (ahi 0) (act 0) (acd 0) ++ (cl_set Y ast st ++ (cl_lod Y ald r.1.1 ++ (cl_his Y ahi hi ++ (cl_cat Y act r.1.2 ++ (cl_cat Y acd cd)))))) [0, 1, 2, 3, 4, 5, 6, 7, 8, 9, 10, 11, 12, 13, 14, 15, 16, 17, 18, 19, 20, 21, 22, 23, 24, 25, 26, 27, 28, 29, 30, 31, 32, 33, 34, 35, 36, 37, 38, 39, 40, 41, 42, 43, 44, 45, 46, 47, 48, 49, 50, 51, 52, 53, 54, 55, 56, 57] [] := ⟨rfl, ⟨[], rfl, rfl⟩, 58, rfl, by decide +kernel⟩
                  refine cq_LW_ok (wl1 := cl_ldr o0 (ast 0) (ald 0) (ahi 0) (act 0) (acd 0) ++ (cl_set Y ast st ++ (cl_lod Y ald r.1.1 ++ (cl_his Y ahi hi ++ (cl_cat Y act r.1.2 ++ (cl_cat Y acd cd)))))) (A := cq_in (cl_ldr o0 (ast 0) (ald 0) (ahi 0) (act 0) (acd 0) ++ (cl_set Y ast st ++ (cl_lod Y ald ld ++ (cl_his Y ahi hi ++ (cl_cat Y act ct ++ (cl_cat Y acd cd))))))) r htot hrun hP hD hS rfl hnew had (fun H locs hP hD hS => ?_)
                  change W _ _ _ _ _ _ _ _ _ _ _ _ _ _ _ (F0 m 100 _ (.int r.2 :: []))
                  refine lv_goto (tgt := 124) hx hb dL_does_100 (by decide) ?_
                  exact cq_lI (wl := cl_ldr o0 (ast 0) (ald 0) (ahi 0) (act 0) (acd 0) ++ (cl_set Y ast st ++ (cl_lod Y ald r.1.1 ++ (cl_his Y ahi hi ++ (cl_cat Y act r.1.2 ++ (cl_cat Y acd cd)))))) hx hb hr hlocks (vp_nar_int _) hP hS rfl rfl (Nat.le_of_ble_eq_true rfl) (Nat.le_of_ble_eq_true rfl) dL_does_124
            · exact absurd c_6 (by decide)
          · exact absurd c_5 (by decide)
        · exact absurd c_4 (by decide)
      · exact absurd c_3 (by decide)
    · exact absurd c_2 (by decide)
  · exact absurd c_1 (by decide)

set_option maxHeartbeats 4000000 in
set_option maxRecDepth 100000 in
theorem ct_does_undo0_ex88 (l : Launch) (D : va_G) (Y : cq_Y) (o0 : Nat) (ast : Nat → Nat) (st : SetS) (ald : Nat → Nat) (ld : LodS) (ahi : Nat → Nat) (hi : HisS) (act : Nat → Nat) (ct : CatS) (acd : Nat → Nat) (cd : CatS) (x : Int32) (htot : m_X6_undo st ld hi ct cd x (0 : Int32) = .inl "java/lang/IndexOutOfBoundsException") (hl0 : l.stackTraces = false) : cq_ML l yL_does wsL_does (cq_rx 8 2 12 166) D Y (cl_ldr o0 (ast 0) (ald 0) (ahi 0) (act 0) (acd 0) ++ (cl_set Y ast st ++ (cl_lod Y ald ld ++ (cl_his Y ahi hi ++ (cl_cat Y act ct ++ (cl_cat Y acd cd)))))) [.ref o0, .int 6, .int x, .int 0] (some (.int (-11 : Int32))) (cl_ldr o0 (ast 0) (ald 0) (ahi 0) (act 0) (acd 0) ++ (cl_set Y ast st ++ (cl_lod Y ald ld ++ (cl_his Y ahi hi ++ (cl_cat Y act ct ++ (cl_cat Y acd cd)))))) 2 12 := by
  refine cq_bodyL (cc := cL_does) (maxL := 5) (ret := (some .int)) (hh := [(0, 124, 125, 88), (0, 124, 130, 90), (0, 124, 135, 92)]) (by decide) rfl (Nat.le_of_ble_eq_true rfl) ?_
  intro p e s m below meth c hE htab hP hG hD hEC hNC ls hl
  obtain ⟨hx, hb, hr, hml, hts, hown, hnm, hlocks⟩ := hE
  have hown : s.vm.findClass RL = some m.cls := hown
  have hS : va_S (cq_in (cl_ldr o0 (ast 0) (ald 0) (ahi 0) (act 0) (acd 0) ++ (cl_set Y ast st ++ (cl_lod Y ald ld ++ (cl_his Y ahi hi ++ (cl_cat Y act ct ++ (cl_cat Y acd cd))))))) s.heap s.heap [] := va_S.rf
  have hl : lv_has ls 5 [(0, .ref o0), (1, .int 6), (2, .int x), (3, .int 0)] := hl
  refine lv_iload_n hx hb dL_does_0 rfl (lv_at hl 1 rfl) ?_
  refine lv_if_ne (tgt := 11) hx hb dL_does_1 (by decide) (fun c_1 => ?_) (fun c_1 => ?_)
  · refine lv_iload_n hx hb dL_does_11 rfl (lv_at hl 1 rfl) ?_
    refine lv_iconst (v := 1) hx hb dL_does_12 (by decide) ?_
    refine lv_icmp_ne (tgt := 25) hx hb dL_does_13 (by decide) (fun c_2 => ?_) (fun c_2 => ?_)
    · refine lv_iload_n hx hb dL_does_25 rfl (lv_at hl 1 rfl) ?_
      refine lv_iconst (v := 2) hx hb dL_does_26 (by decide) ?_
      refine lv_icmp_ne (tgt := 39) hx hb dL_does_27 (by decide) (fun c_3 => ?_) (fun c_3 => ?_)
      · refine lv_iload_n hx hb dL_does_39 rfl (lv_at hl 1 rfl) ?_
        refine lv_iconst (v := 3) hx hb dL_does_40 (by decide) ?_
        refine lv_icmp_ne (tgt := 52) hx hb dL_does_41 (by decide) (fun c_4 => ?_) (fun c_4 => ?_)
        · refine lv_iload_n hx hb dL_does_52 rfl (lv_at hl 1 rfl) ?_
          refine lv_iconst (v := 4) hx hb dL_does_53 (by decide) ?_
          refine lv_icmp_ne (tgt := 65) hx hb dL_does_54 (by decide) (fun c_5 => ?_) (fun c_5 => ?_)
          · refine lv_iload_n hx hb dL_does_65 rfl (lv_at hl 1 rfl) ?_
            refine lv_iconst (v := 5) hx hb dL_does_66 (by decide) ?_
            refine lv_icmp_ne (tgt := 79) hx hb dL_does_67 (by decide) (fun c_6 => ?_) (fun c_6 => ?_)
            · refine lv_iload_n hx hb dL_does_79 rfl (lv_at hl 1 rfl) ?_
              refine lv_bipush (v := 6) hx hb dL_does_80 (by decide) ?_
              refine lv_icmp_ne (tgt := 103) hx hb dL_does_82 (by decide) (fun c_7 => ?_) (fun c_7 => ?_)
              · exact absurd c_7 (by decide)
              · refine lv_aload_n hx hb dL_does_85 rfl (lv_at hl 0 rfl) ?_
                refine lv_iload_n hx hb dL_does_86 rfl (lv_at hl 2 rfl) ?_
                refine lv_iload_n hx hb dL_does_87 rfl (lv_at hl 3 rfl) ?_
                refine lv_iconst (v := 1) hx hb dL_does_88 (by decide) ?_
                refine lv_icmp_ne (tgt := 96) hx hb dL_does_89 (by decide) (fun c_8 => ?_) (fun c_8 => ?_)
                · refine lv_iconst (v := 0) hx hb dL_does_96 (by decide) ?_
                  have hrun := cq_LrunW (p := p) (l := l) (e := e) (R := (cq_rx 8 2 12 166)) (s := s) (m := m) (args := ([.ref o0, .int 6, .int x, .int 0] : List Value).toArray) (below := below) (meth := meth) (c := c) (H := s.heap) (locs := []) (cells := 0) (slots := 0) (y := yX6_undo) (bytes := cX6_undo) (cc := cL_does) (maxL := 4) (nL := 5) (n := 2) (index := 78) (pc := 97) (mc := 2) (ms := 12) (ret := (some .int)) (ws := wsX6_undo) (rm := cq_rx 7 2 12 143) (Ts := wsL_does) (own := RL) (C := RX6) (b := o0) (As := [.int x, .int 0]) (rest := []) (st0 := [.int 0, .int x, .ref o0]) (ls := ls) (D := D) (Y := Y) (W0 := cl_ldr o0 (ast 0) (ald 0) (ahi 0) (act 0) (acd 0) ++ (cl_set Y ast st ++ (cl_lod Y ald ld ++ (cl_his Y ahi hi ++ (cl_cat Y act ct ++ (cl_cat Y acd cd)))))) (wl := cl_ldr o0 (ast 0) (ald 0) (ahi 0) (act 0) (acd 0) ++ (cl_set Y ast st ++ (cl_lod Y ald ld ++ (cl_his Y ahi hi ++ (cl_cat Y act ct ++ (cl_cat Y acd cd)))))) (α := (LodS × CatS) × Int32) (tot := m_X6_undo st ld hi ct cd x (0 : Int32)) (v := fun r => some (.int r.2)) (W1 := fun r => cl_ldr o0 (ast 0) (ald 0) (ahi 0) (act 0) (acd 0) ++ (cl_set Y ast st ++ (cl_lod Y ald r.1.1 ++ (cl_his Y ahi hi ++ (cl_cat Y act r.1.2 ++ (cl_cat Y acd cd)))))) ⟨hx, hb, hml, hown, hts⟩ (ct_X6_undo l D Y o0 ast st ald ld ahi hi act ct acd cd x (0 : Int32) hl0) (cwV 2 hts gL_does_X6_undo rfl rfl rfl (by decide +kernel) ⟨Nat.le_of_ble_eq_true rfl, Nat.le_of_ble_eq_true rfl⟩) hG hP hD hEC [0, 1, 2, 3, 4, 5, 6, 7, 8, 9, 10, 11, 12, 13, 14, 15, 16, 17, 18, 19, 20, 21, 22, 23, 24, 25, 26, 27, 28, 29, 30, 31, 32, 33, 34, 35, 36, 37, 38, 39, 40, 41, 42, 43, 44, 45, 46, 47, 48, 49, 50, 51, 52, 53, 54, 55, 56, 57] rfl (by decide +kernel) 0 6 (qc := (RX6, TX6, 5)) (fs := [.ref (ast 0), .ref (ald 0), .ref (ahi 0), .ref (act 0), .ref (acd 0)]) rfl rfl rfl rfl hl.1 rfl (Nat.le_of_ble_eq_true rfl) dL_does_97 ⟨Nat.le_of_ble_eq_true rfl, Nat.le_of_ble_eq_true rfl⟩
                  refine cq_L_ex (A := cq_in (cl_ldr o0 (ast 0) (ald 0) (ahi 0) (act 0) (acd 0) ++ (cl_set Y ast st ++ (cl_lod Y ald ld ++ (cl_his Y ahi hi ++ (cl_cat Y act ct ++ (cl_cat Y acd cd))))))) "java/lang/IndexOutOfBoundsException" htot (fun q h => cq_sub_in hD (W0 := cl_ldr o0 (ast 0) (ald 0) (ahi 0) (act 0) (acd 0) ++ (cl_set Y ast st ++ (cl_lod Y ald ld ++ (cl_his Y ahi hi ++ (cl_cat Y act ct ++ (cl_cat Y acd cd)))))) (ps := [0, 1, 2, 3, 4, 5, 6, 7, 8, 9, 10, 11, 12, 13, 14, 15, 16, 17, 18, 19, 20, 21, 22, 23, 24, 25, 26, 27, 28, 29, 30, 31, 32, 33, 34, 35, 36, 37, 38, 39, 40, 41, 42, 43, 44, 45, 46, 47, 48, 49, 50, 51, 52, 53, 54, 55, 56, 57]) rfl q h) hrun hP hS (fun ce q9 H locs hP hS hcell hcv hcl => ?_)
                  refine vx_catch (own := RL) (name := "java/lang/IndexOutOfBoundsException") (E := "java/lang/IndexOutOfBoundsException") hown ([] : List ExceptionTableEntry) ⟨0, 124, 125, 88⟩ ([⟨0, 124, 130, 90⟩, ⟨0, 124, 135, 92⟩] : List ExceptionTableEntry) (by rw [htab]; rfl) (fun z hz => by cases hz) (by decide) (by decide) (hts (.classLink RL 88 "java/lang/IndexOutOfBoundsException") (List.mem_of_getElem? (i := 1) rfl)) (va_Nw.use rfl (hEC.1 (.castable "java/lang/IndexOutOfBoundsException" "java/lang/IndexOutOfBoundsException") (List.mem_of_getElem? (i := 3) rfl))) hcell hcv hcl ?_
                  change W _ _ _ _ _ _ _ _ _ _ _ _ _ _ _ (F0 m 125 _ [.ref q9])
                  refine lv_astore (lv' := [(4, .ref q9), (0, .ref o0), (1, .int 6), (2, .int x), (3, .int 0)]) hx hb dL_does_125 hl (by decide) rfl (fun ls hl => ?_)
                  refine lv_bipush (v := (-11)) hx hb dL_does_127 (by decide) ?_
                  exact cq_lI (wl := cl_ldr o0 (ast 0) (ald 0) (ahi 0) (act 0) (acd 0) ++ (cl_set Y ast st ++ (cl_lod Y ald ld ++ (cl_his Y ahi hi ++ (cl_cat Y act ct ++ (cl_cat Y acd cd)))))) hx hb hr hlocks (vp_nar_int _) hP hS rfl rfl (Nat.le_of_ble_eq_true rfl) (Nat.le_of_ble_eq_true rfl) dL_does_129
                · exact absurd c_8 (by decide)
            · exact absurd c_6 (by decide)
          · exact absurd c_5 (by decide)
        · exact absurd c_4 (by decide)
      · exact absurd c_3 (by decide)
    · exact absurd c_2 (by decide)
  · exact absurd c_1 (by decide)

set_option maxHeartbeats 4000000 in
set_option maxRecDepth 100000 in
theorem ct_does_undo1_ex88 (l : Launch) (D : va_G) (Y : cq_Y) (o0 : Nat) (ast : Nat → Nat) (st : SetS) (ald : Nat → Nat) (ld : LodS) (ahi : Nat → Nat) (hi : HisS) (act : Nat → Nat) (ct : CatS) (acd : Nat → Nat) (cd : CatS) (x : Int32) (htot : m_X6_undo st ld hi ct cd x (1 : Int32) = .inl "java/lang/IndexOutOfBoundsException") (hl0 : l.stackTraces = false) : cq_ML l yL_does wsL_does (cq_rx 8 2 12 166) D Y (cl_ldr o0 (ast 0) (ald 0) (ahi 0) (act 0) (acd 0) ++ (cl_set Y ast st ++ (cl_lod Y ald ld ++ (cl_his Y ahi hi ++ (cl_cat Y act ct ++ (cl_cat Y acd cd)))))) [.ref o0, .int 6, .int x, .int 1] (some (.int (-11 : Int32))) (cl_ldr o0 (ast 0) (ald 0) (ahi 0) (act 0) (acd 0) ++ (cl_set Y ast st ++ (cl_lod Y ald ld ++ (cl_his Y ahi hi ++ (cl_cat Y act ct ++ (cl_cat Y acd cd)))))) 2 12 := by
  refine cq_bodyL (cc := cL_does) (maxL := 5) (ret := (some .int)) (hh := [(0, 124, 125, 88), (0, 124, 130, 90), (0, 124, 135, 92)]) (by decide) rfl (Nat.le_of_ble_eq_true rfl) ?_
  intro p e s m below meth c hE htab hP hG hD hEC hNC ls hl
  obtain ⟨hx, hb, hr, hml, hts, hown, hnm, hlocks⟩ := hE
  have hown : s.vm.findClass RL = some m.cls := hown
  have hS : va_S (cq_in (cl_ldr o0 (ast 0) (ald 0) (ahi 0) (act 0) (acd 0) ++ (cl_set Y ast st ++ (cl_lod Y ald ld ++ (cl_his Y ahi hi ++ (cl_cat Y act ct ++ (cl_cat Y acd cd))))))) s.heap s.heap [] := va_S.rf
  have hl : lv_has ls 5 [(0, .ref o0), (1, .int 6), (2, .int x), (3, .int 1)] := hl
  refine lv_iload_n hx hb dL_does_0 rfl (lv_at hl 1 rfl) ?_
  refine lv_if_ne (tgt := 11) hx hb dL_does_1 (by decide) (fun c_1 => ?_) (fun c_1 => ?_)
  · refine lv_iload_n hx hb dL_does_11 rfl (lv_at hl 1 rfl) ?_
    refine lv_iconst (v := 1) hx hb dL_does_12 (by decide) ?_
    refine lv_icmp_ne (tgt := 25) hx hb dL_does_13 (by decide) (fun c_2 => ?_) (fun c_2 => ?_)
    · refine lv_iload_n hx hb dL_does_25 rfl (lv_at hl 1 rfl) ?_
      refine lv_iconst (v := 2) hx hb dL_does_26 (by decide) ?_
      refine lv_icmp_ne (tgt := 39) hx hb dL_does_27 (by decide) (fun c_3 => ?_) (fun c_3 => ?_)
      · refine lv_iload_n hx hb dL_does_39 rfl (lv_at hl 1 rfl) ?_
        refine lv_iconst (v := 3) hx hb dL_does_40 (by decide) ?_
        refine lv_icmp_ne (tgt := 52) hx hb dL_does_41 (by decide) (fun c_4 => ?_) (fun c_4 => ?_)
        · refine lv_iload_n hx hb dL_does_52 rfl (lv_at hl 1 rfl) ?_
          refine lv_iconst (v := 4) hx hb dL_does_53 (by decide) ?_
          refine lv_icmp_ne (tgt := 65) hx hb dL_does_54 (by decide) (fun c_5 => ?_) (fun c_5 => ?_)
          · refine lv_iload_n hx hb dL_does_65 rfl (lv_at hl 1 rfl) ?_
            refine lv_iconst (v := 5) hx hb dL_does_66 (by decide) ?_
            refine lv_icmp_ne (tgt := 79) hx hb dL_does_67 (by decide) (fun c_6 => ?_) (fun c_6 => ?_)
            · refine lv_iload_n hx hb dL_does_79 rfl (lv_at hl 1 rfl) ?_
              refine lv_bipush (v := 6) hx hb dL_does_80 (by decide) ?_
              refine lv_icmp_ne (tgt := 103) hx hb dL_does_82 (by decide) (fun c_7 => ?_) (fun c_7 => ?_)
              · exact absurd c_7 (by decide)
              · refine lv_aload_n hx hb dL_does_85 rfl (lv_at hl 0 rfl) ?_
                refine lv_iload_n hx hb dL_does_86 rfl (lv_at hl 2 rfl) ?_
                refine lv_iload_n hx hb dL_does_87 rfl (lv_at hl 3 rfl) ?_
                refine lv_iconst (v := 1) hx hb dL_does_88 (by decide) ?_
                refine lv_icmp_ne (tgt := 96) hx hb dL_does_89 (by decide) (fun c_8 => ?_) (fun c_8 => ?_)
                · exact absurd c_8 (by decide)
                · refine lv_iconst (v := 1) hx hb dL_does_92 (by decide) ?_
                  refine lv_goto (tgt := 97) hx hb dL_does_93 (by decide) ?_
                  have hrun := cq_LrunW (p := p) (l := l) (e := e) (R := (cq_rx 8 2 12 166)) (s := s) (m := m) (args := ([.ref o0, .int 6, .int x, .int 1] : List Value).toArray) (below := below) (meth := meth) (c := c) (H := s.heap) (locs := []) (cells := 0) (slots := 0) (y := yX6_undo) (bytes := cX6_undo) (cc := cL_does) (maxL := 4) (nL := 5) (n := 2) (index := 78) (pc := 97) (mc := 2) (ms := 12) (ret := (some .int)) (ws := wsX6_undo) (rm := cq_rx 7 2 12 143) (Ts := wsL_does) (own := RL) (C := RX6) (b := o0) (As := [.int x, .int 1]) (rest := []) (st0 := [.int 1, .int x, .ref o0]) (ls := ls) (D := D) (Y := Y) (W0 := cl_ldr o0 (ast 0) (ald 0) (ahi 0) (act 0) (acd 0) ++ (cl_set Y ast st ++ (cl_lod Y ald ld ++ (cl_his Y ahi hi ++ (cl_cat Y act ct ++ (cl_cat Y acd cd)))))) (wl := cl_ldr o0 (ast 0) (ald 0) (ahi 0) (act 0) (acd 0) ++ (cl_set Y ast st ++ (cl_lod Y ald ld ++ (cl_his Y ahi hi ++ (cl_cat Y act ct ++ (cl_cat Y acd cd)))))) (α := (LodS × CatS) × Int32) (tot := m_X6_undo st ld hi ct cd x (1 : Int32)) (v := fun r => some (.int r.2)) (W1 := fun r => cl_ldr o0 (ast 0) (ald 0) (ahi 0) (act 0) (acd 0) ++ (cl_set Y ast st ++ (cl_lod Y ald r.1.1 ++ (cl_his Y ahi hi ++ (cl_cat Y act r.1.2 ++ (cl_cat Y acd cd)))))) ⟨hx, hb, hml, hown, hts⟩ (ct_X6_undo l D Y o0 ast st ald ld ahi hi act ct acd cd x (1 : Int32) hl0) (cwV 2 hts gL_does_X6_undo rfl rfl rfl (by decide +kernel) ⟨Nat.le_of_ble_eq_true rfl, Nat.le_of_ble_eq_true rfl⟩) hG hP hD hEC [0, 1, 2, 3, 4, 5, 6, 7, 8, 9, 10, 11, 12, 13, 14, 15, 16, 17, 18, 19, 20, 21, 22, 23, 24, 25, 26, 27, 28, 29, 30, 31, 32, 33, 34, 35, 36, 37, 38, 39, 40, 41, 42, 43, 44, 45, 46, 47, 48, 49, 50, 51, 52, 53, 54, 55, 56, 57] rfl (by decide +kernel) 0 6 (qc := (RX6, TX6, 5)) (fs := [.ref (ast 0), .ref (ald 0), .ref (ahi 0), .ref (act 0), .ref (acd 0)]) rfl rfl rfl rfl hl.1 rfl (Nat.le_of_ble_eq_true rfl) dL_does_97 ⟨Nat.le_of_ble_eq_true rfl, Nat.le_of_ble_eq_true rfl⟩
                  refine cq_L_ex (A := cq_in (cl_ldr o0 (ast 0) (ald 0) (ahi 0) (act 0) (acd 0) ++ (cl_set Y ast st ++ (cl_lod Y ald ld ++ (cl_his Y ahi hi ++ (cl_cat Y act ct ++ (cl_cat Y acd cd))))))) "java/lang/IndexOutOfBoundsException" htot (fun q h => cq_sub_in hD (W0 := cl_ldr o0 (ast 0) (ald 0) (ahi 0) (act 0) (acd 0) ++ (cl_set Y ast st ++ (cl_lod Y ald ld ++ (cl_his Y ahi hi ++ (cl_cat Y act ct ++ (cl_cat Y acd cd)))))) (ps := [0, 1, 2, 3, 4, 5, 6, 7, 8, 9, 10, 11, 12, 13, 14, 15, 16, 17, 18, 19, 20, 21, 22, 23, 24, 25, 26, 27, 28, 29, 30, 31, 32, 33, 34, 35, 36, 37, 38, 39, 40, 41, 42, 43, 44, 45, 46, 47, 48, 49, 50, 51, 52, 53, 54, 55, 56, 57]) rfl q h) hrun hP hS (fun ce q9 H locs hP hS hcell hcv hcl => ?_)
                  refine vx_catch (own := RL) (name := "java/lang/IndexOutOfBoundsException") (E := "java/lang/IndexOutOfBoundsException") hown ([] : List ExceptionTableEntry) ⟨0, 124, 125, 88⟩ ([⟨0, 124, 130, 90⟩, ⟨0, 124, 135, 92⟩] : List ExceptionTableEntry) (by rw [htab]; rfl) (fun z hz => by cases hz) (by decide) (by decide) (hts (.classLink RL 88 "java/lang/IndexOutOfBoundsException") (List.mem_of_getElem? (i := 1) rfl)) (va_Nw.use rfl (hEC.1 (.castable "java/lang/IndexOutOfBoundsException" "java/lang/IndexOutOfBoundsException") (List.mem_of_getElem? (i := 3) rfl))) hcell hcv hcl ?_
                  change W _ _ _ _ _ _ _ _ _ _ _ _ _ _ _ (F0 m 125 _ [.ref q9])
                  refine lv_astore (lv' := [(4, .ref q9), (0, .ref o0), (1, .int 6), (2, .int x), (3, .int 1)]) hx hb dL_does_125 hl (by decide) rfl (fun ls hl => ?_)
                  refine lv_bipush (v := (-11)) hx hb dL_does_127 (by decide) ?_
                  exact cq_lI (wl := cl_ldr o0 (ast 0) (ald 0) (ahi 0) (act 0) (acd 0) ++ (cl_set Y ast st ++ (cl_lod Y ald ld ++ (cl_his Y ahi hi ++ (cl_cat Y act ct ++ (cl_cat Y acd cd)))))) hx hb hr hlocks (vp_nar_int _) hP hS rfl rfl (Nat.le_of_ble_eq_true rfl) (Nat.le_of_ble_eq_true rfl) dL_does_129
            · exact absurd c_6 (by decide)
          · exact absurd c_5 (by decide)
        · exact absurd c_4 (by decide)
      · exact absurd c_3 (by decide)
    · exact absurd c_2 (by decide)
  · exact absurd c_1 (by decide)

set_option maxHeartbeats 4000000 in
set_option maxRecDepth 100000 in
theorem ct_does_undo0_ex92 (l : Launch) (D : va_G) (Y : cq_Y) (o0 : Nat) (ast : Nat → Nat) (st : SetS) (ald : Nat → Nat) (ld : LodS) (ahi : Nat → Nat) (hi : HisS) (act : Nat → Nat) (ct : CatS) (acd : Nat → Nat) (cd : CatS) (x : Int32) (htot : m_X6_undo st ld hi ct cd x (0 : Int32) = .inl "java/lang/IllegalStateException") (hl0 : l.stackTraces = false) : cq_ML l yL_does wsL_does (cq_rx 8 2 12 166) D Y (cl_ldr o0 (ast 0) (ald 0) (ahi 0) (act 0) (acd 0) ++ (cl_set Y ast st ++ (cl_lod Y ald ld ++ (cl_his Y ahi hi ++ (cl_cat Y act ct ++ (cl_cat Y acd cd)))))) [.ref o0, .int 6, .int x, .int 0] (some (.int (-13 : Int32))) (cl_ldr o0 (ast 0) (ald 0) (ahi 0) (act 0) (acd 0) ++ (cl_set Y ast st ++ (cl_lod Y ald ld ++ (cl_his Y ahi hi ++ (cl_cat Y act ct ++ (cl_cat Y acd cd)))))) 2 12 := by
  refine cq_bodyL (cc := cL_does) (maxL := 5) (ret := (some .int)) (hh := [(0, 124, 125, 88), (0, 124, 130, 90), (0, 124, 135, 92)]) (by decide) rfl (Nat.le_of_ble_eq_true rfl) ?_
  intro p e s m below meth c hE htab hP hG hD hEC hNC ls hl
  obtain ⟨hx, hb, hr, hml, hts, hown, hnm, hlocks⟩ := hE
  have hown : s.vm.findClass RL = some m.cls := hown
  have hS : va_S (cq_in (cl_ldr o0 (ast 0) (ald 0) (ahi 0) (act 0) (acd 0) ++ (cl_set Y ast st ++ (cl_lod Y ald ld ++ (cl_his Y ahi hi ++ (cl_cat Y act ct ++ (cl_cat Y acd cd))))))) s.heap s.heap [] := va_S.rf
  have hl : lv_has ls 5 [(0, .ref o0), (1, .int 6), (2, .int x), (3, .int 0)] := hl
  refine lv_iload_n hx hb dL_does_0 rfl (lv_at hl 1 rfl) ?_
  refine lv_if_ne (tgt := 11) hx hb dL_does_1 (by decide) (fun c_1 => ?_) (fun c_1 => ?_)
  · refine lv_iload_n hx hb dL_does_11 rfl (lv_at hl 1 rfl) ?_
    refine lv_iconst (v := 1) hx hb dL_does_12 (by decide) ?_
    refine lv_icmp_ne (tgt := 25) hx hb dL_does_13 (by decide) (fun c_2 => ?_) (fun c_2 => ?_)
    · refine lv_iload_n hx hb dL_does_25 rfl (lv_at hl 1 rfl) ?_
      refine lv_iconst (v := 2) hx hb dL_does_26 (by decide) ?_
      refine lv_icmp_ne (tgt := 39) hx hb dL_does_27 (by decide) (fun c_3 => ?_) (fun c_3 => ?_)
      · refine lv_iload_n hx hb dL_does_39 rfl (lv_at hl 1 rfl) ?_
        refine lv_iconst (v := 3) hx hb dL_does_40 (by decide) ?_
        refine lv_icmp_ne (tgt := 52) hx hb dL_does_41 (by decide) (fun c_4 => ?_) (fun c_4 => ?_)
        · refine lv_iload_n hx hb dL_does_52 rfl (lv_at hl 1 rfl) ?_
          refine lv_iconst (v := 4) hx hb dL_does_53 (by decide) ?_
          refine lv_icmp_ne (tgt := 65) hx hb dL_does_54 (by decide) (fun c_5 => ?_) (fun c_5 => ?_)
          · refine lv_iload_n hx hb dL_does_65 rfl (lv_at hl 1 rfl) ?_
            refine lv_iconst (v := 5) hx hb dL_does_66 (by decide) ?_
            refine lv_icmp_ne (tgt := 79) hx hb dL_does_67 (by decide) (fun c_6 => ?_) (fun c_6 => ?_)
            · refine lv_iload_n hx hb dL_does_79 rfl (lv_at hl 1 rfl) ?_
              refine lv_bipush (v := 6) hx hb dL_does_80 (by decide) ?_
              refine lv_icmp_ne (tgt := 103) hx hb dL_does_82 (by decide) (fun c_7 => ?_) (fun c_7 => ?_)
              · exact absurd c_7 (by decide)
              · refine lv_aload_n hx hb dL_does_85 rfl (lv_at hl 0 rfl) ?_
                refine lv_iload_n hx hb dL_does_86 rfl (lv_at hl 2 rfl) ?_
                refine lv_iload_n hx hb dL_does_87 rfl (lv_at hl 3 rfl) ?_
                refine lv_iconst (v := 1) hx hb dL_does_88 (by decide) ?_
                refine lv_icmp_ne (tgt := 96) hx hb dL_does_89 (by decide) (fun c_8 => ?_) (fun c_8 => ?_)
                · refine lv_iconst (v := 0) hx hb dL_does_96 (by decide) ?_
                  have hrun := cq_LrunW (p := p) (l := l) (e := e) (R := (cq_rx 8 2 12 166)) (s := s) (m := m) (args := ([.ref o0, .int 6, .int x, .int 0] : List Value).toArray) (below := below) (meth := meth) (c := c) (H := s.heap) (locs := []) (cells := 0) (slots := 0) (y := yX6_undo) (bytes := cX6_undo) (cc := cL_does) (maxL := 4) (nL := 5) (n := 2) (index := 78) (pc := 97) (mc := 2) (ms := 12) (ret := (some .int)) (ws := wsX6_undo) (rm := cq_rx 7 2 12 143) (Ts := wsL_does) (own := RL) (C := RX6) (b := o0) (As := [.int x, .int 0]) (rest := []) (st0 := [.int 0, .int x, .ref o0]) (ls := ls) (D := D) (Y := Y) (W0 := cl_ldr o0 (ast 0) (ald 0) (ahi 0) (act 0) (acd 0) ++ (cl_set Y ast st ++ (cl_lod Y ald ld ++ (cl_his Y ahi hi ++ (cl_cat Y act ct ++ (cl_cat Y acd cd)))))) (wl := cl_ldr o0 (ast 0) (ald 0) (ahi 0) (act 0) (acd 0) ++ (cl_set Y ast st ++ (cl_lod Y ald ld ++ (cl_his Y ahi hi ++ (cl_cat Y act ct ++ (cl_cat Y acd cd)))))) (α := (LodS × CatS) × Int32) (tot := m_X6_undo st ld hi ct cd x (0 : Int32)) (v := fun r => some (.int r.2)) (W1 := fun r => cl_ldr o0 (ast 0) (ald 0) (ahi 0) (act 0) (acd 0) ++ (cl_set Y ast st ++ (cl_lod Y ald r.1.1 ++ (cl_his Y ahi hi ++ (cl_cat Y act r.1.2 ++ (cl_cat Y acd cd)))))) ⟨hx, hb, hml, hown, hts⟩ (ct_X6_undo l D Y o0 ast st ald ld ahi hi act ct acd cd x (0 : Int32) hl0) (cwV 2 hts gL_does_X6_undo rfl rfl rfl (by decide +kernel) ⟨Nat.le_of_ble_eq_true rfl, Nat.le_of_ble_eq_true rfl⟩) hG hP hD hEC [0, 1, 2, 3, 4, 5, 6, 7, 8, 9, 10, 11, 12, 13, 14, 15, 16, 17, 18, 19, 20, 21, 22, 23, 24, 25, 26, 27, 28, 29, 30, 31, 32, 33, 34, 35, 36, 37, 38, 39, 40, 41, 42, 43, 44, 45, 46, 47, 48, 49, 50, 51, 52, 53, 54, 55, 56, 57] rfl (by decide +kernel) 0 6 (qc := (RX6, TX6, 5)) (fs := [.ref (ast 0), .ref (ald 0), .ref (ahi 0), .ref (act 0), .ref (acd 0)]) rfl rfl rfl rfl hl.1 rfl (Nat.le_of_ble_eq_true rfl) dL_does_97 ⟨Nat.le_of_ble_eq_true rfl, Nat.le_of_ble_eq_true rfl⟩
                  refine cq_L_ex (A := cq_in (cl_ldr o0 (ast 0) (ald 0) (ahi 0) (act 0) (acd 0) ++ (cl_set Y ast st ++ (cl_lod Y ald ld ++ (cl_his Y ahi hi ++ (cl_cat Y act ct ++ (cl_cat Y acd cd))))))) "java/lang/IllegalStateException" htot (fun q h => cq_sub_in hD (W0 := cl_ldr o0 (ast 0) (ald 0) (ahi 0) (act 0) (acd 0) ++ (cl_set Y ast st ++ (cl_lod Y ald ld ++ (cl_his Y ahi hi ++ (cl_cat Y act ct ++ (cl_cat Y acd cd)))))) (ps := [0, 1, 2, 3, 4, 5, 6, 7, 8, 9, 10, 11, 12, 13, 14, 15, 16, 17, 18, 19, 20, 21, 22, 23, 24, 25, 26, 27, 28, 29, 30, 31, 32, 33, 34, 35, 36, 37, 38, 39, 40, 41, 42, 43, 44, 45, 46, 47, 48, 49, 50, 51, 52, 53, 54, 55, 56, 57]) rfl q h) hrun hP hS (fun ce q9 H locs hP hS hcell hcv hcl => ?_)
                  refine vx_catch (own := RL) (name := "java/lang/IllegalStateException") (E := "java/lang/IllegalStateException") hown ([⟨0, 124, 125, 88⟩, ⟨0, 124, 130, 90⟩] : List ExceptionTableEntry) ⟨0, 124, 135, 92⟩ ([] : List ExceptionTableEntry) (by rw [htab]; rfl) (List.forall_mem_cons.mpr ⟨Or.inr ⟨by decide, "java/lang/IndexOutOfBoundsException", hts (.classLink RL 88 "java/lang/IndexOutOfBoundsException") (List.mem_of_getElem? (i := 1) rfl), hNC ("java/lang/IllegalStateException", "java/lang/IndexOutOfBoundsException") (List.mem_of_getElem? (i := 4) rfl)⟩, (List.forall_mem_cons.mpr ⟨Or.inr ⟨by decide, "java/lang/IllegalArgumentException", hts (.classLink RL 90 "java/lang/IllegalArgumentException") (List.mem_of_getElem? (i := 2) rfl), hNC ("java/lang/IllegalStateException", "java/lang/IllegalArgumentException") (List.mem_of_getElem? (i := 5) rfl)⟩, (fun z hz => by cases hz)⟩)⟩) (by decide) (by decide) (hts (.classLink RL 92 "java/lang/IllegalStateException") (List.mem_of_getElem? (i := 3) rfl)) (va_Nw.use rfl (hEC.1 (.castable "java/lang/IllegalStateException" "java/lang/IllegalStateException") (List.mem_of_getElem? (i := 5) rfl))) hcell hcv hcl ?_
                  change W _ _ _ _ _ _ _ _ _ _ _ _ _ _ _ (F0 m 135 _ [.ref q9])
                  refine lv_astore (lv' := [(4, .ref q9), (0, .ref o0), (1, .int 6), (2, .int x), (3, .int 0)]) hx hb dL_does_135 hl (by decide) rfl (fun ls hl => ?_)
                  refine lv_bipush (v := (-13)) hx hb dL_does_137 (by decide) ?_
                  exact cq_lI (wl := cl_ldr o0 (ast 0) (ald 0) (ahi 0) (act 0) (acd 0) ++ (cl_set Y ast st ++ (cl_lod Y ald ld ++ (cl_his Y ahi hi ++ (cl_cat Y act ct ++ (cl_cat Y acd cd)))))) hx hb hr hlocks (vp_nar_int _) hP hS rfl rfl (Nat.le_of_ble_eq_true rfl) (Nat.le_of_ble_eq_true rfl) dL_does_139
                · exact absurd c_8 (by decide)
            · exact absurd c_6 (by decide)
          · exact absurd c_5 (by decide)
        · exact absurd c_4 (by decide)
      · exact absurd c_3 (by decide)
    · exact absurd c_2 (by decide)
  · exact absurd c_1 (by decide)

set_option maxHeartbeats 4000000 in
set_option maxRecDepth 100000 in
theorem ct_does_undo1_ex92 (l : Launch) (D : va_G) (Y : cq_Y) (o0 : Nat) (ast : Nat → Nat) (st : SetS) (ald : Nat → Nat) (ld : LodS) (ahi : Nat → Nat) (hi : HisS) (act : Nat → Nat) (ct : CatS) (acd : Nat → Nat) (cd : CatS) (x : Int32) (htot : m_X6_undo st ld hi ct cd x (1 : Int32) = .inl "java/lang/IllegalStateException") (hl0 : l.stackTraces = false) : cq_ML l yL_does wsL_does (cq_rx 8 2 12 166) D Y (cl_ldr o0 (ast 0) (ald 0) (ahi 0) (act 0) (acd 0) ++ (cl_set Y ast st ++ (cl_lod Y ald ld ++ (cl_his Y ahi hi ++ (cl_cat Y act ct ++ (cl_cat Y acd cd)))))) [.ref o0, .int 6, .int x, .int 1] (some (.int (-13 : Int32))) (cl_ldr o0 (ast 0) (ald 0) (ahi 0) (act 0) (acd 0) ++ (cl_set Y ast st ++ (cl_lod Y ald ld ++ (cl_his Y ahi hi ++ (cl_cat Y act ct ++ (cl_cat Y acd cd)))))) 2 12 := by
  refine cq_bodyL (cc := cL_does) (maxL := 5) (ret := (some .int)) (hh := [(0, 124, 125, 88), (0, 124, 130, 90), (0, 124, 135, 92)]) (by decide) rfl (Nat.le_of_ble_eq_true rfl) ?_
  intro p e s m below meth c hE htab hP hG hD hEC hNC ls hl
  obtain ⟨hx, hb, hr, hml, hts, hown, hnm, hlocks⟩ := hE
  have hown : s.vm.findClass RL = some m.cls := hown
  have hS : va_S (cq_in (cl_ldr o0 (ast 0) (ald 0) (ahi 0) (act 0) (acd 0) ++ (cl_set Y ast st ++ (cl_lod Y ald ld ++ (cl_his Y ahi hi ++ (cl_cat Y act ct ++ (cl_cat Y acd cd))))))) s.heap s.heap [] := va_S.rf
  have hl : lv_has ls 5 [(0, .ref o0), (1, .int 6), (2, .int x), (3, .int 1)] := hl
  refine lv_iload_n hx hb dL_does_0 rfl (lv_at hl 1 rfl) ?_
  refine lv_if_ne (tgt := 11) hx hb dL_does_1 (by decide) (fun c_1 => ?_) (fun c_1 => ?_)
  · refine lv_iload_n hx hb dL_does_11 rfl (lv_at hl 1 rfl) ?_
    refine lv_iconst (v := 1) hx hb dL_does_12 (by decide) ?_
    refine lv_icmp_ne (tgt := 25) hx hb dL_does_13 (by decide) (fun c_2 => ?_) (fun c_2 => ?_)
    · refine lv_iload_n hx hb dL_does_25 rfl (lv_at hl 1 rfl) ?_
      refine lv_iconst (v := 2) hx hb dL_does_26 (by decide) ?_
      refine lv_icmp_ne (tgt := 39) hx hb dL_does_27 (by decide) (fun c_3 => ?_) (fun c_3 => ?_)
      · refine lv_iload_n hx hb dL_does_39 rfl (lv_at hl 1 rfl) ?_
        refine lv_iconst (v := 3) hx hb dL_does_40 (by decide) ?_
        refine lv_icmp_ne (tgt := 52) hx hb dL_does_41 (by decide) (fun c_4 => ?_) (fun c_4 => ?_)
        · refine lv_iload_n hx hb dL_does_52 rfl (lv_at hl 1 rfl) ?_
          refine lv_iconst (v := 4) hx hb dL_does_53 (by decide) ?_
          refine lv_icmp_ne (tgt := 65) hx hb dL_does_54 (by decide) (fun c_5 => ?_) (fun c_5 => ?_)
          · refine lv_iload_n hx hb dL_does_65 rfl (lv_at hl 1 rfl) ?_
            refine lv_iconst (v := 5) hx hb dL_does_66 (by decide) ?_
            refine lv_icmp_ne (tgt := 79) hx hb dL_does_67 (by decide) (fun c_6 => ?_) (fun c_6 => ?_)
            · refine lv_iload_n hx hb dL_does_79 rfl (lv_at hl 1 rfl) ?_
              refine lv_bipush (v := 6) hx hb dL_does_80 (by decide) ?_
              refine lv_icmp_ne (tgt := 103) hx hb dL_does_82 (by decide) (fun c_7 => ?_) (fun c_7 => ?_)
              · exact absurd c_7 (by decide)
              · refine lv_aload_n hx hb dL_does_85 rfl (lv_at hl 0 rfl) ?_
                refine lv_iload_n hx hb dL_does_86 rfl (lv_at hl 2 rfl) ?_
                refine lv_iload_n hx hb dL_does_87 rfl (lv_at hl 3 rfl) ?_
                refine lv_iconst (v := 1) hx hb dL_does_88 (by decide) ?_
                refine lv_icmp_ne (tgt := 96) hx hb dL_does_89 (by decide) (fun c_8 => ?_) (fun c_8 => ?_)
                · exact absurd c_8 (by decide)
                · refine lv_iconst (v := 1) hx hb dL_does_92 (by decide) ?_
                  refine lv_goto (tgt := 97) hx hb dL_does_93 (by decide) ?_
                  have hrun := cq_LrunW (p := p) (l := l) (e := e) (R := (cq_rx 8 2 12 166)) (s := s) (m := m) (args := ([.ref o0, .int 6, .int x, .int 1] : List Value).toArray) (below := below) (meth := meth) (c := c) (H := s.heap) (locs := []) (cells := 0) (slots := 0) (y := yX6_undo) (bytes := cX6_undo) (cc := cL_does) (maxL := 4) (nL := 5) (n := 2) (index := 78) (pc := 97) (mc := 2) (ms := 12) (ret := (some .int)) (ws := wsX6_undo) (rm := cq_rx 7 2 12 143) (Ts := wsL_does) (own := RL) (C := RX6) (b := o0) (As := [.int x, .int 1]) (rest := []) (st0 := [.int 1, .int x, .ref o0]) (ls := ls) (D := D) (Y := Y) (W0 := cl_ldr o0 (ast 0) (ald 0) (ahi 0) (act 0) (acd 0) ++ (cl_set Y ast st ++ (cl_lod Y ald ld ++ (cl_his Y ahi hi ++ (cl_cat Y act ct ++ (cl_cat Y acd cd)))))) (wl := cl_ldr o0 (ast 0) (ald 0) (ahi 0) (act 0) (acd 0) ++ (cl_set Y ast st ++ (cl_lod Y ald ld ++ (cl_his Y ahi hi ++ (cl_cat Y act ct ++ (cl_cat Y acd cd)))))) (α := (LodS × CatS) × Int32) (tot := m_X6_undo st ld hi ct cd x (1 : Int32)) (v := fun r => some (.int r.2)) (W1 := fun r => cl_ldr o0 (ast 0) (ald 0) (ahi 0) (act 0) (acd 0) ++ (cl_set Y ast st ++ (cl_lod Y ald r.1.1 ++ (cl_his Y ahi hi ++ (cl_cat Y act r.1.2 ++ (cl_cat Y acd cd)))))) ⟨hx, hb, hml, hown, hts⟩ (ct_X6_undo l D Y o0 ast st ald ld ahi hi act ct acd cd x (1 : Int32) hl0) (cwV 2 hts gL_does_X6_undo rfl rfl rfl (by decide +kernel) ⟨Nat.le_of_ble_eq_true rfl, Nat.le_of_ble_eq_true rfl⟩) hG hP hD hEC [0, 1, 2, 3, 4, 5, 6, 7, 8, 9, 10, 11, 12, 13, 14, 15, 16, 17, 18, 19, 20, 21, 22, 23, 24, 25, 26, 27, 28, 29, 30, 31, 32, 33, 34, 35, 36, 37, 38, 39, 40, 41, 42, 43, 44, 45, 46, 47, 48, 49, 50, 51, 52, 53, 54, 55, 56, 57] rfl (by decide +kernel) 0 6 (qc := (RX6, TX6, 5)) (fs := [.ref (ast 0), .ref (ald 0), .ref (ahi 0), .ref (act 0), .ref (acd 0)]) rfl rfl rfl rfl hl.1 rfl (Nat.le_of_ble_eq_true rfl) dL_does_97 ⟨Nat.le_of_ble_eq_true rfl, Nat.le_of_ble_eq_true rfl⟩
                  refine cq_L_ex (A := cq_in (cl_ldr o0 (ast 0) (ald 0) (ahi 0) (act 0) (acd 0) ++ (cl_set Y ast st ++ (cl_lod Y ald ld ++ (cl_his Y ahi hi ++ (cl_cat Y act ct ++ (cl_cat Y acd cd))))))) "java/lang/IllegalStateException" htot (fun q h => cq_sub_in hD (W0 := cl_ldr o0 (ast 0) (ald 0) (ahi 0) (act 0) (acd 0) ++ (cl_set Y ast st ++ (cl_lod Y ald ld ++ (cl_his Y ahi hi ++ (cl_cat Y act ct ++ (cl_cat Y acd cd)))))) (ps := [0, 1, 2, 3, 4, 5, 6, 7, 8, 9, 10, 11, 12, 13, 14, 15, 16, 17, 18, 19, 20, 21, 22, 23, 24, 25, 26, 27, 28, 29, 30, 31, 32, 33, 34, 35, 36, 37, 38, 39, 40, 41, 42, 43, 44, 45, 46, 47, 48, 49, 50, 51, 52, 53, 54, 55, 56, 57]) rfl q h) hrun hP hS (fun ce q9 H locs hP hS hcell hcv hcl => ?_)
                  refine vx_catch (own := RL) (name := "java/lang/IllegalStateException") (E := "java/lang/IllegalStateException") hown ([⟨0, 124, 125, 88⟩, ⟨0, 124, 130, 90⟩] : List ExceptionTableEntry) ⟨0, 124, 135, 92⟩ ([] : List ExceptionTableEntry) (by rw [htab]; rfl) (List.forall_mem_cons.mpr ⟨Or.inr ⟨by decide, "java/lang/IndexOutOfBoundsException", hts (.classLink RL 88 "java/lang/IndexOutOfBoundsException") (List.mem_of_getElem? (i := 1) rfl), hNC ("java/lang/IllegalStateException", "java/lang/IndexOutOfBoundsException") (List.mem_of_getElem? (i := 4) rfl)⟩, (List.forall_mem_cons.mpr ⟨Or.inr ⟨by decide, "java/lang/IllegalArgumentException", hts (.classLink RL 90 "java/lang/IllegalArgumentException") (List.mem_of_getElem? (i := 2) rfl), hNC ("java/lang/IllegalStateException", "java/lang/IllegalArgumentException") (List.mem_of_getElem? (i := 5) rfl)⟩, (fun z hz => by cases hz)⟩)⟩) (by decide) (by decide) (hts (.classLink RL 92 "java/lang/IllegalStateException") (List.mem_of_getElem? (i := 3) rfl)) (va_Nw.use rfl (hEC.1 (.castable "java/lang/IllegalStateException" "java/lang/IllegalStateException") (List.mem_of_getElem? (i := 5) rfl))) hcell hcv hcl ?_
                  change W _ _ _ _ _ _ _ _ _ _ _ _ _ _ _ (F0 m 135 _ [.ref q9])
                  refine lv_astore (lv' := [(4, .ref q9), (0, .ref o0), (1, .int 6), (2, .int x), (3, .int 1)]) hx hb dL_does_135 hl (by decide) rfl (fun ls hl => ?_)
                  refine lv_bipush (v := (-13)) hx hb dL_does_137 (by decide) ?_
                  exact cq_lI (wl := cl_ldr o0 (ast 0) (ald 0) (ahi 0) (act 0) (acd 0) ++ (cl_set Y ast st ++ (cl_lod Y ald ld ++ (cl_his Y ahi hi ++ (cl_cat Y act ct ++ (cl_cat Y acd cd)))))) hx hb hr hlocks (vp_nar_int _) hP hS rfl rfl (Nat.le_of_ble_eq_true rfl) (Nat.le_of_ble_eq_true rfl) dL_does_139
            · exact absurd c_6 (by decide)
          · exact absurd c_5 (by decide)
        · exact absurd c_4 (by decide)
      · exact absurd c_3 (by decide)
    · exact absurd c_2 (by decide)
  · exact absurd c_1 (by decide)
