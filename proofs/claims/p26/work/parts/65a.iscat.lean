/-! THE LAW'S OWN METHODS: is it the catalogue -/
theorem cq_f1 {f c s n k : Nat} (h : k ≤ c) : k ≤ (cq_rx f c s n).cells := h
theorem cq_f2 {f c s n k : Nat} (h : k ≤ s) : k ≤ (cq_rx f c s n).slots := h
/-- the numbers of a record, in the law -/
def owK (x : Int64) : Nat → Int32
  | 0 => 0
  | k + 1 => owK x k + (if kx x k = 0 then 0 else nI (kx x k) - 1)
def owF (x : Int64) : Nat → Int32
  | 0 => owK x 3
  | k + 1 => owF x k + (if fx x k = 0 then 0 else nI (fx x k) - 1)
def dgl (qv : FL) (qh : FI) : Nat → Int32
  | 0 => 0
  | r + 1 => if ix (qv r) = 1 then dgl qv qh r + (owF (qv r) 4 * (1 + nI r) + qh r) else dgl qv qh r

set_option maxHeartbeats 4000000 in
set_option maxRecDepth 100000 in
theorem ct_L_isCatalogue (l : Launch) (D : va_G) (Y : cq_Y) (o0 : Nat) (ast : Nat → Nat) (st : SetS) (ald : Nat → Nat) (ld : LodS) (ahi : Nat → Nat) (hi : HisS) (act : Nat → Nat) (ct : CatS) (acd : Nat → Nat) (cd : CatS) (qvb : Nat) (qv : FL) (qhb : Nat) (qh : FI) (qnb : Nat) (qn : FI) (qtb : Nat) (qt : FI) (qub : Nat) (qu : FI) (n b U : Nat) (hn : n ≤ 40) (hb10 : b ≤ 10) (hU : U < 1024) (w0 : qn 0 = nI b) (w1 : qn 1 = nI n) (u0 : qu 0 = nI U) (f1 : m_X6_batches st ld hi ct cd = nI b) (f2 : m_X6_loads st ld hi ct cd = nI n) (f3 : m_L_many qv = some (m_X6_records st ld hi ct cd)) (f4 : ∀ r, r < 40 → m_X6_isThere st ld hi ct cd (nI r) = nI (ix (qv r))) (f5 : ∀ r, r < n → m_X6_hit st ld hi ct cd (nI r) = .inr (qt r)) (f6 : ∀ r, r < 40 → ix (qv r) = 1 → (∀ k, k < 3 → m_X6_keyOf st ld hi ct cd (nI r) (nI k) = .inr (nI (kx (qv r) k) - 1)) ∧ (∀ k, k < 4 → m_X6_fieldOf st ld hi ct cd (nI r) (nI k) = .inr (nI (fx (qv r) k) - 1) ∧ m_X6_sourceOf st ld hi ct cd (nI r) (nI k) = .inr (if fx (qv r) k = 0 then -1 else nI (sx (qv r) k))) ∧ m_X6_holdings st ld hi ct cd (nI r) = .inr (qh r)) (f7 : ∀ k, k < b → m_X6_isUndone st ld hi ct cd (nI k) = .inr (if U.testBit k = true then 1 else 0)) (f8 : m_X6_digest st ld hi ct cd = dgl qv qh 40) (f9 : (m_X6_digestAnew st ld hi ct cd).2 = dgl qv qh 40) (hl0 : l.stackTraces = false) : cq_MXW l yL_isCatalogue wsL_isCatalogue (cq_rx 8 970 5820 163) D Y (cl_ldr o0 (ast 0) (ald 0) (ahi 0) (act 0) (acd 0) ++ (cl_set Y ast st ++ (cl_lod Y ald ld ++ (cl_his Y ahi hi ++ (cl_cat Y act ct ++ (cl_cat Y acd cd ++ (cl_lar Y qvb 40 qv ++ (cl_arr Y qhb 40 qh ++ (cl_arr Y qnb 4 qn ++ (cl_arr Y qtb 40 qt ++ (cl_arr Y qub 1 qu))))))))))) [.ref o0, .ref qvb, .ref qhb, .ref qnb, .ref qtb, .ref qub] (Sum.inr () : String ⊕ Unit) (fun _ => some (.int 1)) (fun _ => cl_ldr o0 (ast 0) (ald 0) (ahi 0) (act 0) (acd 0) ++ (cl_set Y ast st ++ (cl_lod Y ald ld ++ (cl_his Y ahi hi ++ (cl_cat Y act ct ++ (cl_cat Y acd ((m_X6_digestAnew st ld hi ct cd).1) ++ (cl_lar Y qvb 40 qv ++ (cl_arr Y qhb 40 qh ++ (cl_arr Y qnb 4 qn ++ (cl_arr Y qtb 40 qt ++ (cl_arr Y qub 1 qu))))))))))) 970 5820 := by
  refine cq_bodyX (cc := cL_isCatalogue) (maxL := 12) (ret := (some .boolean)) (by decide) rfl (Nat.le_of_ble_eq_true rfl) ?_
  intro p e s m below meth c hE hT hP hG hD hEC ls hl
  obtain ⟨hx, hb, hr, hml, hts, hown, hnm, hlocks⟩ := hE
  have hown : s.vm.findClass RL = some m.cls := hown
  have hS : va_S (cq_in (cl_ldr o0 (ast 0) (ald 0) (ahi 0) (act 0) (acd 0) ++ (cl_set Y ast st ++ (cl_lod Y ald ld ++ (cl_his Y ahi hi ++ (cl_cat Y act ct ++ (cl_cat Y acd cd ++ (cl_lar Y qvb 40 qv ++ (cl_arr Y qhb 40 qh ++ (cl_arr Y qnb 4 qn ++ (cl_arr Y qtb 40 qt ++ (cl_arr Y qub 1 qu)))))))))))) s.heap s.heap [] := va_S.rf
  have hl : lv_has ls 12 [(0, .ref o0), (1, .ref qvb), (2, .ref qhb), (3, .ref qnb), (4, .ref qtb), (5, .ref qub)] := hl
  have lpB : ∀ (q k : Nat) (ls : Array Slot), k + q = b → lv_has ls 12 [(0, .ref o0), (1, .ref qvb), (2, .ref qhb), (3, .ref qnb), (4, .ref qtb), (5, .ref qub), (6, .int (dgl qv qh 40)), (7, .int 1), (8, .int (nI k))] → W p l e (cq_rx 8 970 5820 163) s m ([.ref o0, .ref qvb, .ref qhb, .ref qnb, .ref qtb, .ref qub] : List Value).toArray below meth c s.heap [] (960 + k) (5760 + 6 * k) (vx_MQ below (cq_QX (Sum.inr () : String ⊕ Unit) (fun _ => cq_W D (some (.int 1)) (cl_ldr o0 (ast 0) (ald 0) (ahi 0) (act 0) (acd 0) ++ (cl_set Y ast st ++ (cl_lod Y ald ld ++ (cl_his Y ahi hi ++ (cl_cat Y act ct ++ (cl_cat Y acd cd ++ (cl_lar Y qvb 40 qv ++ (cl_arr Y qhb 40 qh ++ (cl_arr Y qnb 4 qn ++ (cl_arr Y qtb 40 qt ++ (cl_arr Y qub 1 qu))))))))))) (cl_ldr o0 (ast 0) (ald 0) (ahi 0) (act 0) (acd 0) ++ (cl_set Y ast st ++ (cl_lod Y ald ld ++ (cl_his Y ahi hi ++ (cl_cat Y act ct ++ (cl_cat Y acd ((m_X6_digestAnew st ld hi ct cd).1) ++ (cl_lar Y qvb 40 qv ++ (cl_arr Y qhb 40 qh ++ (cl_arr Y qnb 4 qn ++ (cl_arr Y qtb 40 qt ++ (cl_arr Y qub 1 qu))))))))))))) (cq_XX (Sum.inr () : String ⊕ Unit)) ([.ref o0, .ref qvb, .ref qhb, .ref qnb, .ref qtb, .ref qub] : List Value).toArray s 970 5820 (cq_in (cl_ldr o0 (ast 0) (ald 0) (ahi 0) (act 0) (acd 0) ++ (cl_set Y ast st ++ (cl_lod Y ald ld ++ (cl_his Y ahi hi ++ (cl_cat Y act ct ++ (cl_cat Y acd cd ++ (cl_lar Y qvb 40 qv ++ (cl_arr Y qhb 40 qh ++ (cl_arr Y qnb 4 qn ++ (cl_arr Y qtb 40 qt ++ (cl_arr Y qub 1 qu))))))))))))) (F0 m 351 ls []) := by
    intro q; induction q with
    | zero =>
      intro k ls hk hl
      obtain rfl : b = k := by omega
      refine lv_iload hx hb dL_isCatalogue_351 (lv_at hl 8 rfl) ?_
      refine lv_aload_n hx hb dL_isCatalogue_353 rfl (lv_at hl 3 rfl) ?_
      refine lv_iconst (v := 0) hx hb dL_isCatalogue_354 (by decide) ?_
      refine va_iald hx hb hG.1 hP 60 0 rfl rfl (inb_in (by decide)) dL_isCatalogue_355 ?_
      refine lv_topi (fun w_90 ew_90 => ?_)
      obtain rfl : w_90 = nI b := ew_90.trans ((congrArg qn cl0).trans w0)
      refine lv_icmp_ge (tgt := 404) hx hb dL_isCatalogue_356 (by decide) (fun c_91 => ?_) (fun c_91 => ?_)
      · refine lv_iload hx hb dL_isCatalogue_404 (lv_at hl 7 rfl) ?_
        refine lv_if_eq (tgt := 431) hx hb dL_isCatalogue_406 (by decide) (fun c_92 => ?_) (fun c_92 => ?_)
        · exact absurd c_92 (by decide)
        · refine lv_aload_n hx hb dL_isCatalogue_409 rfl (lv_at hl 0 rfl) ?_
          refine cq_RV (R := (cq_rx 8 970 5820 163)) (args := ([.ref o0, .ref qvb, .ref qhb, .ref qnb, .ref qtb, .ref qub] : List Value).toArray) (y := yX6_digest) (bytes := cX6_digest) (cc := cL_isCatalogue) (maxL := 1) (nL := 12) (n := 0) (index := 132) (ret := (some .int)) (ws := wsX6_digest) (rm := cq_rm 3 68) (Ts := wsL_isCatalogue) (own := RL) (D := D) (Y := Y) (W0 := cl_ldr o0 (ast 0) (ald 0) (ahi 0) (act 0) (acd 0) ++ (cl_set Y ast st ++ (cl_lod Y ald ld ++ (cl_his Y ahi hi ++ (cl_cat Y act ct ++ (cl_cat Y acd cd)))))) (wl := cl_ldr o0 (ast 0) (ald 0) (ahi 0) (act 0) (acd 0) ++ (cl_set Y ast st ++ (cl_lod Y ald ld ++ (cl_his Y ahi hi ++ (cl_cat Y act ct ++ (cl_cat Y acd cd ++ (cl_lar Y qvb 40 qv ++ (cl_arr Y qhb 40 qh ++ (cl_arr Y qnb 4 qn ++ (cl_arr Y qtb 40 qt ++ (cl_arr Y qub 1 qu))))))))))) (v := some (.int (m_X6_digest st ld hi ct cd))) (st0 := [.ref o0]) (As := []) (rest := []) (C := RX6) (b := o0) ⟨hx, hb, hml, hown, hts⟩ (ct_X6_digest l D Y o0 ast st ald ld ahi hi act ct acd cd ) (cwV 0 hts gL_isCatalogue_X6_digest rfl rfl rfl (by decide +kernel) ⟨Nat.le_of_ble_eq_true rfl, Nat.le_of_ble_eq_true rfl⟩) hG hP hD [0, 1, 2, 3, 4, 5, 6, 7, 8, 9, 10, 11, 12, 13, 14, 15, 16, 17, 18, 19, 20, 21, 22, 23, 24, 25, 26, 27, 28, 29, 30, 31, 32, 33, 34, 35, 36, 37, 38, 39, 40, 41, 42, 43, 44, 45, 46, 47, 48, 49, 50, 51, 52, 53, 54, 55, 56, 57] rfl (by decide +kernel) 0 6 (qc := (RX6, TX6, 5)) (fs := [.ref (ast 0), .ref (ald 0), .ref (ahi 0), .ref (act 0), .ref (acd 0)]) rfl rfl rfl rfl hl.1 rfl (Nat.le_of_ble_eq_true rfl) dL_isCatalogue_410 ⟨cq_f1 (by omega), cq_f2 (by omega)⟩ ?_
          change W _ _ _ _ _ _ _ _ _ _ _ _ _ _ _ (F0 m 413 _ (.int (m_X6_digest st ld hi ct cd) :: []))
          refine lv_topi (fun w_93 ew_93 => ?_)
          obtain rfl : w_93 = dgl qv qh 40 := ew_93.trans f8
          refine lv_iload hx hb dL_isCatalogue_413 (lv_at hl 6 rfl) ?_
          refine lv_icmp_ne (tgt := 431) hx hb dL_isCatalogue_415 (by decide) (fun c_94 => ?_) (fun c_94 => ?_)
          · exact absurd (Eq.refl (dgl qv qh 40)) c_94
          · refine lv_aload_n hx hb dL_isCatalogue_418 rfl (lv_at hl 0 rfl) ?_
            refine cq_WV (R := (cq_rx 8 970 5820 163)) (args := ([.ref o0, .ref qvb, .ref qhb, .ref qnb, .ref qtb, .ref qub] : List Value).toArray) (y := yX6_digestAnew) (bytes := cX6_digestAnew) (cc := cL_isCatalogue) (maxL := 1) (nL := 12) (n := 0) (index := 135) (ret := (some .int)) (ws := wsX6_digestAnew) (rm := cq_rm 6 143) (Ts := wsL_isCatalogue) (own := RL) (D := D) (Y := Y) (W0 := cl_ldr o0 (ast 0) (ald 0) (ahi 0) (act 0) (acd 0) ++ (cl_set Y ast st ++ (cl_lod Y ald ld ++ (cl_his Y ahi hi ++ (cl_cat Y act ct ++ (cl_cat Y acd cd)))))) (wl := cl_ldr o0 (ast 0) (ald 0) (ahi 0) (act 0) (acd 0) ++ (cl_set Y ast st ++ (cl_lod Y ald ld ++ (cl_his Y ahi hi ++ (cl_cat Y act ct ++ (cl_cat Y acd cd ++ (cl_lar Y qvb 40 qv ++ (cl_arr Y qhb 40 qh ++ (cl_arr Y qnb 4 qn ++ (cl_arr Y qtb 40 qt ++ (cl_arr Y qub 1 qu))))))))))) (v := some (.int ((m_X6_digestAnew st ld hi ct cd).2))) (st0 := [.ref o0]) (As := []) (rest := []) (W1 := cl_ldr o0 (ast 0) (ald 0) (ahi 0) (act 0) (acd 0) ++ (cl_set Y ast st ++ (cl_lod Y ald ld ++ (cl_his Y ahi hi ++ (cl_cat Y act ct ++ (cl_cat Y acd ((m_X6_digestAnew st ld hi ct cd).1))))))) (C := RX6) (b := o0) (cl_ldr o0 (ast 0) (ald 0) (ahi 0) (act 0) (acd 0) ++ (cl_set Y ast st ++ (cl_lod Y ald ld ++ (cl_his Y ahi hi ++ (cl_cat Y act ct ++ (cl_cat Y acd ((m_X6_digestAnew st ld hi ct cd).1) ++ (cl_lar Y qvb 40 qv ++ (cl_arr Y qhb 40 qh ++ (cl_arr Y qnb 4 qn ++ (cl_arr Y qtb 40 qt ++ (cl_arr Y qub 1 qu))))))))))) [58, 59, 60, 61, 62] ⟨hx, hb, hml, hown, hts⟩ (ct_X6_digestAnew l D Y o0 ast st ald ld ahi hi act ct acd cd ) (cwV 0 hts gL_isCatalogue_X6_digestAnew rfl rfl rfl (by decide +kernel) ⟨Nat.le_of_ble_eq_true rfl, Nat.le_of_ble_eq_true rfl⟩) hG hP hD hS [0, 1, 2, 3, 4, 5, 6, 7, 8, 9, 10, 11, 12, 13, 14, 15, 16, 17, 18, 19, 20, 21, 22, 23, 24, 25, 26, 27, 28, 29, 30, 31, 32, 33, 34, 35, 36, 37, 38, 39, 40, 41, 42, 43, 44, 45, 46, 47, 48, 49, 50, 51, 52, 53, 54, 55, 56, 57] rfl (by decide +kernel) ⟨rfl, ⟨[(qvb, .inl (Y.2.2, 40, .inr (.inl qv))), (qhb, .inl (Y.1, 40, .inl qh)), (qnb, .inl (Y.1, 4, .inl qn)), (qtb, .inl (Y.1, 40, .inl qt)), (qub, .inl (Y.1, 1, .inl qu))], rfl, rfl⟩, 63, rfl, by decide +kernel⟩ ⟨[o0, ast 0, ast 1, ast 2, ast 3, ast 4, ast 5, ast 6, ald 0, ald 1, ald 2, ald 3, ald 4, ald 5, ald 6, ald 7, ald 8, ald 9, ald 10, ahi 0, ahi 1, ahi 2, ahi 3, ahi 4, ahi 5, ahi 6, ahi 7, ahi 8, act 0, act 1, act 2, act 3, act 4, act 5, act 6, act 7, act 8, act 9, act 10, act 11, act 12, act 13, act 14, acd 0, acd 1, acd 2, acd 3, acd 4, acd 5, acd 6, acd 7, acd 8, acd 9, acd 10, acd 11, acd 12, acd 13, acd 14], rfl, rfl⟩ 0 6 (qc := (RX6, TX6, 5)) (fs := [.ref (ast 0), .ref (ald 0), .ref (ahi 0), .ref (act 0), .ref (acd 0)]) rfl rfl rfl rfl hl.1 rfl (Nat.le_of_ble_eq_true rfl) dL_isCatalogue_419 ⟨cq_f1 (by omega), cq_f2 (by omega)⟩ (fun H locs hP hD hS => ?_)
            obtain ⟨c_95, ec_95⟩ : ∃ z, z = (m_X6_digestAnew st ld hi ct cd).1 := ⟨_, rfl⟩
            rw [← ec_95] at hP hD
            change W _ _ _ _ _ _ _ _ _ _ _ _ _ _ _ (F0 m 422 _ (.int ((m_X6_digestAnew st ld hi ct cd).2) :: []))
            refine lv_topi (fun w_96 ew_96 => ?_)
            obtain rfl : w_96 = dgl qv qh 40 := ew_96.trans f9
            refine lv_iload hx hb dL_isCatalogue_422 (lv_at hl 6 rfl) ?_
            refine lv_icmp_ne (tgt := 431) hx hb dL_isCatalogue_424 (by decide) (fun c_97 => ?_) (fun c_97 => ?_)
            · exact absurd (Eq.refl (dgl qv qh 40)) c_97
            · refine lv_iconst (v := 1) hx hb dL_isCatalogue_427 (by decide) ?_
              refine lv_goto (tgt := 432) hx hb dL_isCatalogue_428 (by decide) ?_
              exact cq_xWI (wl := cl_ldr o0 (ast 0) (ald 0) (ahi 0) (act 0) (acd 0) ++ (cl_set Y ast st ++ (cl_lod Y ald ld ++ (cl_his Y ahi hi ++ (cl_cat Y act ct ++ (cl_cat Y acd c_95 ++ (cl_lar Y qvb 40 qv ++ (cl_arr Y qhb 40 qh ++ (cl_arr Y qnb 4 qn ++ (cl_arr Y qtb 40 qt ++ (cl_arr Y qub 1 qu))))))))))) () hx hb hr hlocks rfl hP hS rfl rfl (by subst ec_95; rfl) (by omega) (by omega) dL_isCatalogue_432
      · exact absurd (nI_le (Nat.le_refl _) (by omega)) c_91
    | succ q ihB =>
      intro k ls hkq hl
      by_cases hb9 : U.testBit k = true
      · refine lv_iload hx hb dL_isCatalogue_351 (lv_at hl 8 rfl) ?_
        refine lv_aload_n hx hb dL_isCatalogue_353 rfl (lv_at hl 3 rfl) ?_
        refine lv_iconst (v := 0) hx hb dL_isCatalogue_354 (by decide) ?_
        refine va_iald hx hb hG.1 hP 60 0 rfl rfl (inb_in (by decide)) dL_isCatalogue_355 ?_
        refine lv_topi (fun w_106 ew_106 => ?_)
        obtain rfl : w_106 = nI b := ew_106.trans ((congrArg qn cl0).trans w0)
        refine lv_icmp_ge (tgt := 404) hx hb dL_isCatalogue_356 (by decide) (fun c_107 => ?_) (fun c_107 => ?_)
        · exact absurd c_107 (nI_ge (by omega) (by omega))
        · refine lv_iload hx hb dL_isCatalogue_359 (lv_at hl 7 rfl) ?_
          refine lv_if_eq (tgt := 404) hx hb dL_isCatalogue_361 (by decide) (fun c_108 => ?_) (fun c_108 => ?_)
          · exact absurd c_108 (by decide)
          · refine lv_aload_n hx hb dL_isCatalogue_364 rfl (lv_at hl 0 rfl) ?_
            refine lv_iload hx hb dL_isCatalogue_365 (lv_at hl 8 rfl) ?_
            refine cq_XRV (R := (cq_rx 8 970 5820 163)) (args := ([.ref o0, .ref qvb, .ref qhb, .ref qnb, .ref qtb, .ref qub] : List Value).toArray) (y := yX6_isUndone) (bytes := cX6_isUndone) (cc := cL_isCatalogue) (maxL := 2) (nL := 12) (n := 1) (index := 129) (ret := (some .boolean)) (ws := wsX6_isUndone) (rm := cq_rx 7 1 6 103) (Ts := wsL_isCatalogue) (own := RL) (D := D) (Y := Y) (W0 := cl_ldr o0 (ast 0) (ald 0) (ahi 0) (act 0) (acd 0) ++ (cl_set Y ast st ++ (cl_lod Y ald ld ++ (cl_his Y ahi hi ++ (cl_cat Y act ct ++ (cl_cat Y acd cd)))))) (wl := cl_ldr o0 (ast 0) (ald 0) (ahi 0) (act 0) (acd 0) ++ (cl_set Y ast st ++ (cl_lod Y ald ld ++ (cl_his Y ahi hi ++ (cl_cat Y act ct ++ (cl_cat Y acd cd ++ (cl_lar Y qvb 40 qv ++ (cl_arr Y qhb 40 qh ++ (cl_arr Y qnb 4 qn ++ (cl_arr Y qtb 40 qt ++ (cl_arr Y qub 1 qu))))))))))) (v := fun r => some (.int r)) (st0 := [.int (nI k), .ref o0]) (As := [.int (nI k)]) (rest := []) (C := RX6) (b := o0) (α := Int32) (tot := m_X6_isUndone st ld hi ct cd (nI k)) (mc := 1) (ms := 6) (mc0 := 970) (ms0 := 5820) (T0 := (Sum.inr () : String ⊕ Unit)) (Qc := cq_QX (Sum.inr () : String ⊕ Unit) (fun _ => cq_W D (some (.int 1)) (cl_ldr o0 (ast 0) (ald 0) (ahi 0) (act 0) (acd 0) ++ (cl_set Y ast st ++ (cl_lod Y ald ld ++ (cl_his Y ahi hi ++ (cl_cat Y act ct ++ (cl_cat Y acd cd ++ (cl_lar Y qvb 40 qv ++ (cl_arr Y qhb 40 qh ++ (cl_arr Y qnb 4 qn ++ (cl_arr Y qtb 40 qt ++ (cl_arr Y qub 1 qu))))))))))) (cl_ldr o0 (ast 0) (ald 0) (ahi 0) (act 0) (acd 0) ++ (cl_set Y ast st ++ (cl_lod Y ald ld ++ (cl_his Y ahi hi ++ (cl_cat Y act ct ++ (cl_cat Y acd ((m_X6_digestAnew st ld hi ct cd).1) ++ (cl_lar Y qvb 40 qv ++ (cl_arr Y qhb 40 qh ++ (cl_arr Y qnb 4 qn ++ (cl_arr Y qtb 40 qt ++ (cl_arr Y qub 1 qu))))))))))))) ⟨hx, hb, hml, hown, hts⟩ (ct_X6_isUndone l D Y o0 ast st ald ld ahi hi act ct acd cd (nI k) hl0) (cwV 1 hts gL_isCatalogue_X6_isUndone rfl rfl rfl (by decide +kernel) ⟨Nat.le_of_ble_eq_true rfl, Nat.le_of_ble_eq_true rfl⟩) hG hP hD hEC [0, 1, 2, 3, 4, 5, 6, 7, 8, 9, 10, 11, 12, 13, 14, 15, 16, 17, 18, 19, 20, 21, 22, 23, 24, 25, 26, 27, 28, 29, 30, 31, 32, 33, 34, 35, 36, 37, 38, 39, 40, 41, 42, 43, 44, 45, 46, 47, 48, 49, 50, 51, 52, 53, 54, 55, 56, 57] rfl (by decide +kernel) 0 6 (qc := (RX6, TX6, 5)) (fs := [.ref (ast 0), .ref (ald 0), .ref (ahi 0), .ref (act 0), .ref (acd 0)]) rfl rfl rfl rfl hl.1 rfl (Nat.le_of_ble_eq_true rfl) dL_isCatalogue_367 ⟨cq_f1 (by omega), cq_f2 (by omega)⟩ hT hlocks (fun E h9 => absurd (h9.symm.trans ((f7 k (by omega)).trans (by rw [if_pos hb9]))) (by simp)) (by omega) (by omega) (fun r_110 q_109 => ?_)
            obtain rfl : r_110 = 1 := Sum.inr.inj (q_109.symm.trans ((f7 k (by omega)).trans (by rw [if_pos hb9])))
            change W _ _ _ _ _ _ _ _ _ _ _ _ _ _ _ (F0 m 370 _ (.int 1 :: []))
            refine lv_aload hx hb dL_isCatalogue_370 (lv_at hl 5 rfl) ?_
            refine lv_iconst (v := 0) hx hb dL_isCatalogue_372 (by decide) ?_
            refine va_iald hx hb hG.1 hP 62 0 rfl rfl (inb_in (by decide)) dL_isCatalogue_373 ?_
            refine lv_topi (fun w_111 ew_111 => ?_)
            obtain rfl : w_111 = nI U := ew_111.trans ((congrArg qu cl0).trans u0)
            refine lv_iload hx hb dL_isCatalogue_374 (lv_at hl 8 rfl) ?_
            refine lv_ishr hx hb dL_isCatalogue_376 ?_
            refine lv_iconst (v := 1) hx hb dL_isCatalogue_377 (by decide) ?_
            refine lv_iand hx hb dL_isCatalogue_378 ?_
            refine lv_topi (fun w_112 ew_112 => ?_)
            obtain rfl : w_112 = 1 := ew_112.trans ((ubit U hU k (by omega)).trans (if_pos hb9))
            refine lv_iconst (v := 1) hx hb dL_isCatalogue_379 (by decide) ?_
            refine lv_icmp_ne (tgt := 387) hx hb dL_isCatalogue_380 (by decide) (fun c_113 => ?_) (fun c_113 => ?_)
            · exact absurd c_113 (by decide)
            · refine lv_iconst (v := 1) hx hb dL_isCatalogue_383 (by decide) ?_
              refine lv_goto (tgt := 388) hx hb dL_isCatalogue_384 (by decide) ?_
              refine lv_icmp_ne (tgt := 395) hx hb dL_isCatalogue_388 (by decide) (fun c_114 => ?_) (fun c_114 => ?_)
              · exact absurd c_114 (by decide)
              · refine lv_iconst (v := 1) hx hb dL_isCatalogue_391 (by decide) ?_
                refine lv_goto (tgt := 396) hx hb dL_isCatalogue_392 (by decide) ?_
                refine lv_istore (lv' := [(7, .int 1), (0, .ref o0), (1, .ref qvb), (2, .ref qhb), (3, .ref qnb), (4, .ref qtb), (5, .ref qub), (6, .int (dgl qv qh 40)), (8, .int (nI k))]) hx hb dL_isCatalogue_396 hl (by decide) rfl (fun ls hl => ?_)
                refine lv_iinc (v := nI (k + 1)) (lv' := [(8, .int (nI (k + 1))), (7, .int 1), (0, .ref o0), (1, .ref qvb), (2, .ref qhb), (3, .ref qnb), (4, .ref qtb), (5, .ref qub), (6, .int (dgl qv qh 40))]) hx hb dL_isCatalogue_398 hl (k := 8) rfl (nI_1 k) (by decide) rfl (fun ls hl => ?_)
                refine lv_goto (tgt := 351) hx hb dL_isCatalogue_401 (by decide) ?_
                exact W.widen (by omega) (by omega) (ihB (k + 1) ls (by omega) (lv_sub hl [2, 3, 4, 5, 6, 7, 8, 1, 0] rfl))
      · refine lv_iload hx hb dL_isCatalogue_351 (lv_at hl 8 rfl) ?_
        refine lv_aload_n hx hb dL_isCatalogue_353 rfl (lv_at hl 3 rfl) ?_
        refine lv_iconst (v := 0) hx hb dL_isCatalogue_354 (by decide) ?_
        refine va_iald hx hb hG.1 hP 60 0 rfl rfl (inb_in (by decide)) dL_isCatalogue_355 ?_
        refine lv_topi (fun w_115 ew_115 => ?_)
        obtain rfl : w_115 = nI b := ew_115.trans ((congrArg qn cl0).trans w0)
        refine lv_icmp_ge (tgt := 404) hx hb dL_isCatalogue_356 (by decide) (fun c_116 => ?_) (fun c_116 => ?_)
        · exact absurd c_116 (nI_ge (by omega) (by omega))
        · refine lv_iload hx hb dL_isCatalogue_359 (lv_at hl 7 rfl) ?_
          refine lv_if_eq (tgt := 404) hx hb dL_isCatalogue_361 (by decide) (fun c_117 => ?_) (fun c_117 => ?_)
          · exact absurd c_117 (by decide)
          · refine lv_aload_n hx hb dL_isCatalogue_364 rfl (lv_at hl 0 rfl) ?_
            refine lv_iload hx hb dL_isCatalogue_365 (lv_at hl 8 rfl) ?_
            refine cq_XRV (R := (cq_rx 8 970 5820 163)) (args := ([.ref o0, .ref qvb, .ref qhb, .ref qnb, .ref qtb, .ref qub] : List Value).toArray) (y := yX6_isUndone) (bytes := cX6_isUndone) (cc := cL_isCatalogue) (maxL := 2) (nL := 12) (n := 1) (index := 129) (ret := (some .boolean)) (ws := wsX6_isUndone) (rm := cq_rx 7 1 6 103) (Ts := wsL_isCatalogue) (own := RL) (D := D) (Y := Y) (W0 := cl_ldr o0 (ast 0) (ald 0) (ahi 0) (act 0) (acd 0) ++ (cl_set Y ast st ++ (cl_lod Y ald ld ++ (cl_his Y ahi hi ++ (cl_cat Y act ct ++ (cl_cat Y acd cd)))))) (wl := cl_ldr o0 (ast 0) (ald 0) (ahi 0) (act 0) (acd 0) ++ (cl_set Y ast st ++ (cl_lod Y ald ld ++ (cl_his Y ahi hi ++ (cl_cat Y act ct ++ (cl_cat Y acd cd ++ (cl_lar Y qvb 40 qv ++ (cl_arr Y qhb 40 qh ++ (cl_arr Y qnb 4 qn ++ (cl_arr Y qtb 40 qt ++ (cl_arr Y qub 1 qu))))))))))) (v := fun r => some (.int r)) (st0 := [.int (nI k), .ref o0]) (As := [.int (nI k)]) (rest := []) (C := RX6) (b := o0) (α := Int32) (tot := m_X6_isUndone st ld hi ct cd (nI k)) (mc := 1) (ms := 6) (mc0 := 970) (ms0 := 5820) (T0 := (Sum.inr () : String ⊕ Unit)) (Qc := cq_QX (Sum.inr () : String ⊕ Unit) (fun _ => cq_W D (some (.int 1)) (cl_ldr o0 (ast 0) (ald 0) (ahi 0) (act 0) (acd 0) ++ (cl_set Y ast st ++ (cl_lod Y ald ld ++ (cl_his Y ahi hi ++ (cl_cat Y act ct ++ (cl_cat Y acd cd ++ (cl_lar Y qvb 40 qv ++ (cl_arr Y qhb 40 qh ++ (cl_arr Y qnb 4 qn ++ (cl_arr Y qtb 40 qt ++ (cl_arr Y qub 1 qu))))))))))) (cl_ldr o0 (ast 0) (ald 0) (ahi 0) (act 0) (acd 0) ++ (cl_set Y ast st ++ (cl_lod Y ald ld ++ (cl_his Y ahi hi ++ (cl_cat Y act ct ++ (cl_cat Y acd ((m_X6_digestAnew st ld hi ct cd).1) ++ (cl_lar Y qvb 40 qv ++ (cl_arr Y qhb 40 qh ++ (cl_arr Y qnb 4 qn ++ (cl_arr Y qtb 40 qt ++ (cl_arr Y qub 1 qu))))))))))))) ⟨hx, hb, hml, hown, hts⟩ (ct_X6_isUndone l D Y o0 ast st ald ld ahi hi act ct acd cd (nI k) hl0) (cwV 1 hts gL_isCatalogue_X6_isUndone rfl rfl rfl (by decide +kernel) ⟨Nat.le_of_ble_eq_true rfl, Nat.le_of_ble_eq_true rfl⟩) hG hP hD hEC [0, 1, 2, 3, 4, 5, 6, 7, 8, 9, 10, 11, 12, 13, 14, 15, 16, 17, 18, 19, 20, 21, 22, 23, 24, 25, 26, 27, 28, 29, 30, 31, 32, 33, 34, 35, 36, 37, 38, 39, 40, 41, 42, 43, 44, 45, 46, 47, 48, 49, 50, 51, 52, 53, 54, 55, 56, 57] rfl (by decide +kernel) 0 6 (qc := (RX6, TX6, 5)) (fs := [.ref (ast 0), .ref (ald 0), .ref (ahi 0), .ref (act 0), .ref (acd 0)]) rfl rfl rfl rfl hl.1 rfl (Nat.le_of_ble_eq_true rfl) dL_isCatalogue_367 ⟨cq_f1 (by omega), cq_f2 (by omega)⟩ hT hlocks (fun E h9 => absurd (h9.symm.trans ((f7 k (by omega)).trans (by rw [if_neg hb9]))) (by simp)) (by omega) (by omega) (fun r_119 q_118 => ?_)
            obtain rfl : r_119 = 0 := Sum.inr.inj (q_118.symm.trans ((f7 k (by omega)).trans (by rw [if_neg hb9])))
            change W _ _ _ _ _ _ _ _ _ _ _ _ _ _ _ (F0 m 370 _ (.int 0 :: []))
            refine lv_aload hx hb dL_isCatalogue_370 (lv_at hl 5 rfl) ?_
            refine lv_iconst (v := 0) hx hb dL_isCatalogue_372 (by decide) ?_
            refine va_iald hx hb hG.1 hP 62 0 rfl rfl (inb_in (by decide)) dL_isCatalogue_373 ?_
            refine lv_topi (fun w_120 ew_120 => ?_)
            obtain rfl : w_120 = nI U := ew_120.trans ((congrArg qu cl0).trans u0)
            refine lv_iload hx hb dL_isCatalogue_374 (lv_at hl 8 rfl) ?_
            refine lv_ishr hx hb dL_isCatalogue_376 ?_
            refine lv_iconst (v := 1) hx hb dL_isCatalogue_377 (by decide) ?_
            refine lv_iand hx hb dL_isCatalogue_378 ?_
            refine lv_topi (fun w_121 ew_121 => ?_)
            obtain rfl : w_121 = 0 := ew_121.trans ((ubit U hU k (by omega)).trans (if_neg hb9))
            refine lv_iconst (v := 1) hx hb dL_isCatalogue_379 (by decide) ?_
            refine lv_icmp_ne (tgt := 387) hx hb dL_isCatalogue_380 (by decide) (fun c_122 => ?_) (fun c_122 => ?_)
            · refine lv_iconst (v := 0) hx hb dL_isCatalogue_387 (by decide) ?_
              refine lv_icmp_ne (tgt := 395) hx hb dL_isCatalogue_388 (by decide) (fun c_123 => ?_) (fun c_123 => ?_)
              · exact absurd c_123 (by decide)
              · refine lv_iconst (v := 1) hx hb dL_isCatalogue_391 (by decide) ?_
                refine lv_goto (tgt := 396) hx hb dL_isCatalogue_392 (by decide) ?_
                refine lv_istore (lv' := [(7, .int 1), (0, .ref o0), (1, .ref qvb), (2, .ref qhb), (3, .ref qnb), (4, .ref qtb), (5, .ref qub), (6, .int (dgl qv qh 40)), (8, .int (nI k))]) hx hb dL_isCatalogue_396 hl (by decide) rfl (fun ls hl => ?_)
                refine lv_iinc (v := nI (k + 1)) (lv' := [(8, .int (nI (k + 1))), (7, .int 1), (0, .ref o0), (1, .ref qvb), (2, .ref qhb), (3, .ref qnb), (4, .ref qtb), (5, .ref qub), (6, .int (dgl qv qh 40))]) hx hb dL_isCatalogue_398 hl (k := 8) rfl (nI_1 k) (by decide) rfl (fun ls hl => ?_)
                refine lv_goto (tgt := 351) hx hb dL_isCatalogue_401 (by decide) ?_
                exact W.widen (by omega) (by omega) (ihB (k + 1) ls (by omega) (lv_sub hl [2, 3, 4, 5, 6, 7, 8, 1, 0] rfl))
            · exact absurd c_122 (by decide)
  have lpR : ∀ (q r : Nat) (ls : Array Slot), r + q = 40 → lv_has ls 12 [(0, .ref o0), (1, .ref qvb), (2, .ref qhb), (3, .ref qnb), (4, .ref qtb), (5, .ref qub), (6, .int (dgl qv qh r)), (7, .int 1), (8, .int (nI r))] → W p l e (cq_rx 8 970 5820 163) s m ([.ref o0, .ref qvb, .ref qhb, .ref qnb, .ref qtb, .ref qub] : List Value).toArray below meth c s.heap [] (24 * r) (144 * r) (vx_MQ below (cq_QX (Sum.inr () : String ⊕ Unit) (fun _ => cq_W D (some (.int 1)) (cl_ldr o0 (ast 0) (ald 0) (ahi 0) (act 0) (acd 0) ++ (cl_set Y ast st ++ (cl_lod Y ald ld ++ (cl_his Y ahi hi ++ (cl_cat Y act ct ++ (cl_cat Y acd cd ++ (cl_lar Y qvb 40 qv ++ (cl_arr Y qhb 40 qh ++ (cl_arr Y qnb 4 qn ++ (cl_arr Y qtb 40 qt ++ (cl_arr Y qub 1 qu))))))))))) (cl_ldr o0 (ast 0) (ald 0) (ahi 0) (act 0) (acd 0) ++ (cl_set Y ast st ++ (cl_lod Y ald ld ++ (cl_his Y ahi hi ++ (cl_cat Y act ct ++ (cl_cat Y acd ((m_X6_digestAnew st ld hi ct cd).1) ++ (cl_lar Y qvb 40 qv ++ (cl_arr Y qhb 40 qh ++ (cl_arr Y qnb 4 qn ++ (cl_arr Y qtb 40 qt ++ (cl_arr Y qub 1 qu))))))))))))) (cq_XX (Sum.inr () : String ⊕ Unit)) ([.ref o0, .ref qvb, .ref qhb, .ref qnb, .ref qtb, .ref qub] : List Value).toArray s 970 5820 (cq_in (cl_ldr o0 (ast 0) (ald 0) (ahi 0) (act 0) (acd 0) ++ (cl_set Y ast st ++ (cl_lod Y ald ld ++ (cl_his Y ahi hi ++ (cl_cat Y act ct ++ (cl_cat Y acd cd ++ (cl_lar Y qvb 40 qv ++ (cl_arr Y qhb 40 qh ++ (cl_arr Y qnb 4 qn ++ (cl_arr Y qtb 40 qt ++ (cl_arr Y qub 1 qu))))))))))))) (F0 m 44 ls []) := by
    intro q; induction q with
    | zero =>
      intro r ls hr9 hl
      obtain rfl : r = 40 := by omega
      refine lv_iload hx hb dL_isCatalogue_44 (lv_at hl 8 rfl) ?_
      refine lv_bipush (v := 40) hx hb dL_isCatalogue_46 (by decide) ?_
      refine lv_icmp_ge (tgt := 348) hx hb dL_isCatalogue_48 (by decide) (fun c_98 => ?_) (fun c_98 => ?_)
      · refine lv_iconst (v := 0) hx hb dL_isCatalogue_348 (by decide) ?_
        refine lv_istore (lv' := [(8, .int 0), (0, .ref o0), (1, .ref qvb), (2, .ref qhb), (3, .ref qnb), (4, .ref qtb), (5, .ref qub), (6, .int (dgl qv qh 40)), (7, .int 1)]) hx hb dL_isCatalogue_349 hl (by decide) rfl (fun ls hl => ?_)
        exact lpB b 0 ls (Nat.zero_add _) (lv_sub hl [1, 2, 3, 4, 5, 6, 7, 8, 0] rfl)
      · exact absurd (show (40 : Int32) ≤ nI 40 by decide) c_98
    | succ q ihR =>
      intro r ls hrq hl
      have k94 : ∀ ls : Array Slot, lv_has ls 12 [(0, .ref o0), (1, .ref qvb), (2, .ref qhb), (3, .ref qnb), (4, .ref qtb), (5, .ref qub), (6, .int (dgl qv qh r)), (7, .int 1), (8, .int (nI r))] → W p l e (cq_rx 8 970 5820 163) s m ([.ref o0, .ref qvb, .ref qhb, .ref qnb, .ref qtb, .ref qub] : List Value).toArray below meth c s.heap [] (24 * r + 1) (144 * r + 6) (vx_MQ below (cq_QX (Sum.inr () : String ⊕ Unit) (fun _ => cq_W D (some (.int 1)) (cl_ldr o0 (ast 0) (ald 0) (ahi 0) (act 0) (acd 0) ++ (cl_set Y ast st ++ (cl_lod Y ald ld ++ (cl_his Y ahi hi ++ (cl_cat Y act ct ++ (cl_cat Y acd cd ++ (cl_lar Y qvb 40 qv ++ (cl_arr Y qhb 40 qh ++ (cl_arr Y qnb 4 qn ++ (cl_arr Y qtb 40 qt ++ (cl_arr Y qub 1 qu))))))))))) (cl_ldr o0 (ast 0) (ald 0) (ahi 0) (act 0) (acd 0) ++ (cl_set Y ast st ++ (cl_lod Y ald ld ++ (cl_his Y ahi hi ++ (cl_cat Y act ct ++ (cl_cat Y acd ((m_X6_digestAnew st ld hi ct cd).1) ++ (cl_lar Y qvb 40 qv ++ (cl_arr Y qhb 40 qh ++ (cl_arr Y qnb 4 qn ++ (cl_arr Y qtb 40 qt ++ (cl_arr Y qub 1 qu))))))))))))) (cq_XX (Sum.inr () : String ⊕ Unit)) ([.ref o0, .ref qvb, .ref qhb, .ref qnb, .ref qtb, .ref qub] : List Value).toArray s 970 5820 (cq_in (cl_ldr o0 (ast 0) (ald 0) (ahi 0) (act 0) (acd 0) ++ (cl_set Y ast st ++ (cl_lod Y ald ld ++ (cl_his Y ahi hi ++ (cl_cat Y act ct ++ (cl_cat Y acd cd ++ (cl_lar Y qvb 40 qv ++ (cl_arr Y qhb 40 qh ++ (cl_arr Y qnb 4 qn ++ (cl_arr Y qtb 40 qt ++ (cl_arr Y qub 1 qu))))))))))))) (F0 m 94 ls []) := by
        intro ls hl
        by_cases hix : ix (qv r) = 1
        · have k300 : ∀ ls : Array Slot, lv_has ls 12 [(0, .ref o0), (1, .ref qvb), (2, .ref qhb), (3, .ref qnb), (4, .ref qtb), (5, .ref qub), (6, .int (dgl qv qh r)), (7, .int 1), (8, .int (nI r)), (9, .int (owF (qv r) 4))] → W p l e (cq_rx 8 970 5820 163) s m ([.ref o0, .ref qvb, .ref qhb, .ref qnb, .ref qtb, .ref qub] : List Value).toArray below meth c s.heap [] (24 * r + 23) (144 * r + 138) (vx_MQ below (cq_QX (Sum.inr () : String ⊕ Unit) (fun _ => cq_W D (some (.int 1)) (cl_ldr o0 (ast 0) (ald 0) (ahi 0) (act 0) (acd 0) ++ (cl_set Y ast st ++ (cl_lod Y ald ld ++ (cl_his Y ahi hi ++ (cl_cat Y act ct ++ (cl_cat Y acd cd ++ (cl_lar Y qvb 40 qv ++ (cl_arr Y qhb 40 qh ++ (cl_arr Y qnb 4 qn ++ (cl_arr Y qtb 40 qt ++ (cl_arr Y qub 1 qu))))))))))) (cl_ldr o0 (ast 0) (ald 0) (ahi 0) (act 0) (acd 0) ++ (cl_set Y ast st ++ (cl_lod Y ald ld ++ (cl_his Y ahi hi ++ (cl_cat Y act ct ++ (cl_cat Y acd ((m_X6_digestAnew st ld hi ct cd).1) ++ (cl_lar Y qvb 40 qv ++ (cl_arr Y qhb 40 qh ++ (cl_arr Y qnb 4 qn ++ (cl_arr Y qtb 40 qt ++ (cl_arr Y qub 1 qu))))))))))))) (cq_XX (Sum.inr () : String ⊕ Unit)) ([.ref o0, .ref qvb, .ref qhb, .ref qnb, .ref qtb, .ref qub] : List Value).toArray s 970 5820 (cq_in (cl_ldr o0 (ast 0) (ald 0) (ahi 0) (act 0) (acd 0) ++ (cl_set Y ast st ++ (cl_lod Y ald ld ++ (cl_his Y ahi hi ++ (cl_cat Y act ct ++ (cl_cat Y acd cd ++ (cl_lar Y qvb 40 qv ++ (cl_arr Y qhb 40 qh ++ (cl_arr Y qnb 4 qn ++ (cl_arr Y qtb 40 qt ++ (cl_arr Y qub 1 qu))))))))))))) (F0 m 300 ls []) := by
            intro ls hl
            refine lv_iload hx hb dL_isCatalogue_300 (lv_at hl 7 rfl) ?_
            refine lv_if_eq (tgt := 322) hx hb dL_isCatalogue_302 (by decide) (fun c_11 => ?_) (fun c_11 => ?_)
            · exact absurd c_11 (by decide)
            · refine lv_aload_n hx hb dL_isCatalogue_305 rfl (lv_at hl 0 rfl) ?_
              refine lv_iload hx hb dL_isCatalogue_306 (lv_at hl 8 rfl) ?_
              refine cq_XRV (R := (cq_rx 8 970 5820 163)) (args := ([.ref o0, .ref qvb, .ref qhb, .ref qnb, .ref qtb, .ref qub] : List Value).toArray) (y := yX6_holdings) (bytes := cX6_holdings) (cc := cL_isCatalogue) (maxL := 2) (nL := 12) (n := 1) (index := 126) (ret := (some .int)) (ws := wsX6_holdings) (rm := cq_rx 7 1 6 103) (Ts := wsL_isCatalogue) (own := RL) (D := D) (Y := Y) (W0 := cl_ldr o0 (ast 0) (ald 0) (ahi 0) (act 0) (acd 0) ++ (cl_set Y ast st ++ (cl_lod Y ald ld ++ (cl_his Y ahi hi ++ (cl_cat Y act ct ++ (cl_cat Y acd cd)))))) (wl := cl_ldr o0 (ast 0) (ald 0) (ahi 0) (act 0) (acd 0) ++ (cl_set Y ast st ++ (cl_lod Y ald ld ++ (cl_his Y ahi hi ++ (cl_cat Y act ct ++ (cl_cat Y acd cd ++ (cl_lar Y qvb 40 qv ++ (cl_arr Y qhb 40 qh ++ (cl_arr Y qnb 4 qn ++ (cl_arr Y qtb 40 qt ++ (cl_arr Y qub 1 qu))))))))))) (v := fun r => some (.int r)) (st0 := [.int (nI r), .ref o0]) (As := [.int (nI r)]) (rest := []) (C := RX6) (b := o0) (α := Int32) (tot := m_X6_holdings st ld hi ct cd (nI r)) (mc := 1) (ms := 6) (mc0 := 970) (ms0 := 5820) (T0 := (Sum.inr () : String ⊕ Unit)) (Qc := cq_QX (Sum.inr () : String ⊕ Unit) (fun _ => cq_W D (some (.int 1)) (cl_ldr o0 (ast 0) (ald 0) (ahi 0) (act 0) (acd 0) ++ (cl_set Y ast st ++ (cl_lod Y ald ld ++ (cl_his Y ahi hi ++ (cl_cat Y act ct ++ (cl_cat Y acd cd ++ (cl_lar Y qvb 40 qv ++ (cl_arr Y qhb 40 qh ++ (cl_arr Y qnb 4 qn ++ (cl_arr Y qtb 40 qt ++ (cl_arr Y qub 1 qu))))))))))) (cl_ldr o0 (ast 0) (ald 0) (ahi 0) (act 0) (acd 0) ++ (cl_set Y ast st ++ (cl_lod Y ald ld ++ (cl_his Y ahi hi ++ (cl_cat Y act ct ++ (cl_cat Y acd ((m_X6_digestAnew st ld hi ct cd).1) ++ (cl_lar Y qvb 40 qv ++ (cl_arr Y qhb 40 qh ++ (cl_arr Y qnb 4 qn ++ (cl_arr Y qtb 40 qt ++ (cl_arr Y qub 1 qu))))))))))))) ⟨hx, hb, hml, hown, hts⟩ (ct_X6_holdings l D Y o0 ast st ald ld ahi hi act ct acd cd (nI r) hl0) (cwV 1 hts gL_isCatalogue_X6_holdings rfl rfl rfl (by decide +kernel) ⟨Nat.le_of_ble_eq_true rfl, Nat.le_of_ble_eq_true rfl⟩) hG hP hD hEC [0, 1, 2, 3, 4, 5, 6, 7, 8, 9, 10, 11, 12, 13, 14, 15, 16, 17, 18, 19, 20, 21, 22, 23, 24, 25, 26, 27, 28, 29, 30, 31, 32, 33, 34, 35, 36, 37, 38, 39, 40, 41, 42, 43, 44, 45, 46, 47, 48, 49, 50, 51, 52, 53, 54, 55, 56, 57] rfl (by decide +kernel) 0 6 (qc := (RX6, TX6, 5)) (fs := [.ref (ast 0), .ref (ald 0), .ref (ahi 0), .ref (act 0), .ref (acd 0)]) rfl rfl rfl rfl hl.1 rfl (Nat.le_of_ble_eq_true rfl) dL_isCatalogue_308 ⟨cq_f1 (by omega), cq_f2 (by omega)⟩ hT hlocks (fun E h9 => absurd (h9.symm.trans ((f6 r (by omega) hix).2.2)) (by simp)) (by omega) (by omega) (fun r_13 q_12 => ?_)
              obtain rfl : r_13 = qh r := Sum.inr.inj (q_12.symm.trans ((f6 r (by omega) hix).2.2))
              change W _ _ _ _ _ _ _ _ _ _ _ _ _ _ _ (F0 m 311 _ (.int (qh r) :: []))
              refine lv_aload_n hx hb dL_isCatalogue_311 rfl (lv_at hl 2 rfl) ?_
              refine lv_iload hx hb dL_isCatalogue_312 (lv_at hl 8 rfl) ?_
              refine va_iald hx hb hG.1 hP 59 0 rfl rfl (inb_in (inb_n (show r < 40 by omega) (by decide))) dL_isCatalogue_314 ?_
              refine lv_topi (fun w_14 ew_14 => ?_)
              obtain rfl : w_14 = qh r := ew_14.trans (congrArg qh (ncl (show r < 2147483648 by omega)))
              refine lv_icmp_ne (tgt := 322) hx hb dL_isCatalogue_315 (by decide) (fun c_15 => ?_) (fun c_15 => ?_)
              · exact absurd (Eq.refl (qh r)) c_15
              · refine lv_iconst (v := 1) hx hb dL_isCatalogue_318 (by decide) ?_
                refine lv_goto (tgt := 323) hx hb dL_isCatalogue_319 (by decide) ?_
                refine lv_istore (lv' := [(7, .int 1), (0, .ref o0), (1, .ref qvb), (2, .ref qhb), (3, .ref qnb), (4, .ref qtb), (5, .ref qub), (6, .int (dgl qv qh r)), (8, .int (nI r)), (9, .int (owF (qv r) 4))]) hx hb dL_isCatalogue_323 hl (by decide) rfl (fun ls hl => ?_)
                refine lv_iload hx hb dL_isCatalogue_325 (lv_at hl 7 rfl) ?_
                refine lv_iload hx hb dL_isCatalogue_327 (lv_at hl 9 rfl) ?_
                refine lv_iconst (v := 1) hx hb dL_isCatalogue_329 (by decide) ?_
                refine lv_iload hx hb dL_isCatalogue_330 (lv_at hl 8 rfl) ?_
                refine lv_iadd hx hb dL_isCatalogue_332 ?_
                refine lv_imul hx hb dL_isCatalogue_333 ?_
                refine lv_aload_n hx hb dL_isCatalogue_334 rfl (lv_at hl 3 rfl) ?_
                refine lv_iload hx hb dL_isCatalogue_335 (lv_at hl 8 rfl) ?_
                refine va_iald hx hb hG.1 hP 59 0 rfl rfl (inb_in (inb_n (show r < 40 by omega) (by decide))) dL_isCatalogue_337 ?_
                refine lv_topi (fun w_16 ew_16 => ?_)
                obtain rfl : w_16 = qh r := ew_16.trans (congrArg qh (ncl (show r < 2147483648 by omega)))
                refine lv_iadd hx hb dL_isCatalogue_338 ?_
                refine lv_iadd hx hb dL_isCatalogue_339 ?_
                refine lv_topi (fun w_17 ew_17 => ?_)
                obtain rfl : w_17 = dgl qv qh (r + 1) := ew_17.trans ((if_pos hix).symm)
                refine lv_istore (lv' := [(6, .int (dgl qv qh (r + 1))), (7, .int 1), (0, .ref o0), (1, .ref qvb), (2, .ref qhb), (3, .ref qnb), (4, .ref qtb), (5, .ref qub), (8, .int (nI r)), (9, .int (owF (qv r) 4))]) hx hb dL_isCatalogue_340 hl (by decide) rfl (fun ls hl => ?_)
                refine lv_iinc (v := nI (r + 1)) (lv' := [(8, .int (nI (r + 1))), (6, .int (dgl qv qh (r + 1))), (7, .int 1), (0, .ref o0), (1, .ref qvb), (2, .ref qhb), (3, .ref qnb), (4, .ref qtb), (5, .ref qub), (9, .int (owF (qv r) 4))]) hx hb dL_isCatalogue_342 hl (k := 8) rfl (nI_1 r) (by decide) rfl (fun ls hl => ?_)
                refine lv_goto (tgt := 44) hx hb dL_isCatalogue_345 (by decide) ?_
                exact W.widen (by omega) (by omega) (ihR (r + 1) ls (by omega) (lv_sub hl [3, 4, 5, 6, 7, 8, 1, 2, 0] rfl))
          have lpF : ∀ (q k : Nat) (ls : Array Slot), k + q = 4 → lv_has ls 12 [(0, .ref o0), (1, .ref qvb), (2, .ref qhb), (3, .ref qnb), (4, .ref qtb), (5, .ref qub), (6, .int (dgl qv qh r)), (7, .int 1), (8, .int (nI r)), (9, .int (owF (qv r) k)), (10, .int (nI k))] → W p l e (cq_rx 8 970 5820 163) s m ([.ref o0, .ref qvb, .ref qhb, .ref qnb, .ref qtb, .ref qub] : List Value).toArray below meth c s.heap [] (24 * r + 7 + 4 * k) (144 * r + 42 + 24 * k) (vx_MQ below (cq_QX (Sum.inr () : String ⊕ Unit) (fun _ => cq_W D (some (.int 1)) (cl_ldr o0 (ast 0) (ald 0) (ahi 0) (act 0) (acd 0) ++ (cl_set Y ast st ++ (cl_lod Y ald ld ++ (cl_his Y ahi hi ++ (cl_cat Y act ct ++ (cl_cat Y acd cd ++ (cl_lar Y qvb 40 qv ++ (cl_arr Y qhb 40 qh ++ (cl_arr Y qnb 4 qn ++ (cl_arr Y qtb 40 qt ++ (cl_arr Y qub 1 qu))))))))))) (cl_ldr o0 (ast 0) (ald 0) (ahi 0) (act 0) (acd 0) ++ (cl_set Y ast st ++ (cl_lod Y ald ld ++ (cl_his Y ahi hi ++ (cl_cat Y act ct ++ (cl_cat Y acd ((m_X6_digestAnew st ld hi ct cd).1) ++ (cl_lar Y qvb 40 qv ++ (cl_arr Y qhb 40 qh ++ (cl_arr Y qnb 4 qn ++ (cl_arr Y qtb 40 qt ++ (cl_arr Y qub 1 qu))))))))))))) (cq_XX (Sum.inr () : String ⊕ Unit)) ([.ref o0, .ref qvb, .ref qhb, .ref qnb, .ref qtb, .ref qub] : List Value).toArray s 970 5820 (cq_in (cl_ldr o0 (ast 0) (ald 0) (ahi 0) (act 0) (acd 0) ++ (cl_set Y ast st ++ (cl_lod Y ald ld ++ (cl_his Y ahi hi ++ (cl_cat Y act ct ++ (cl_cat Y acd cd ++ (cl_lar Y qvb 40 qv ++ (cl_arr Y qhb 40 qh ++ (cl_arr Y qnb 4 qn ++ (cl_arr Y qtb 40 qt ++ (cl_arr Y qub 1 qu))))))))))))) (F0 m 203 ls []) := by
            intro q; induction q with
            | zero =>
              intro k ls hk hl
              obtain rfl : k = 4 := by omega
              refine lv_iload hx hb dL_isCatalogue_203 (lv_at hl 10 rfl) ?_
              refine lv_iconst (v := 4) hx hb dL_isCatalogue_205 (by decide) ?_
              refine lv_icmp_ge (tgt := 300) hx hb dL_isCatalogue_206 (by decide) (fun c_9 => ?_) (fun c_9 => ?_)
              · exact k300 ls (lv_sub hl [0, 1, 2, 3, 4, 5, 6, 7, 8, 9] rfl)
              · exact absurd (show (4 : Int32) ≤ nI 4 by decide) c_9
            | succ q ihF =>
              intro k ls hkq hl
              have hk : k < 4 := by omega
              by_cases hz : fx (qv r) k = 0
              · refine lv_iload hx hb dL_isCatalogue_203 (lv_at hl 10 rfl) ?_
                refine lv_iconst (v := 4) hx hb dL_isCatalogue_205 (by decide) ?_
                refine lv_icmp_ge (tgt := 300) hx hb dL_isCatalogue_206 (by decide) (fun c_18 => ?_) (fun c_18 => ?_)
                · exact absurd c_18 (nI_ge (a := k) (b := 4) (by omega) (by decide))
                · refine lv_aload_n hx hb dL_isCatalogue_209 rfl (lv_at hl 1 rfl) ?_
                  refine lv_iload hx hb dL_isCatalogue_210 (lv_at hl 8 rfl) ?_
                  refine va_lald hx hb hG.1 hP 58 2 rfl rfl (inb_in (inb_n (show r < 40 by omega) (by decide))) dL_isCatalogue_212 ?_
                  refine lv_topl (fun w_19 ew_19 => ?_)
                  obtain rfl : w_19 = qv r := ew_19.trans (congrArg qv (ncl (show r < 2147483648 by omega)))
                  refine lv_iload hx hb dL_isCatalogue_213 (lv_at hl 10 rfl) ?_
                  refine cq_RS (R := (cq_rx 8 970 5820 163)) (args := ([.ref o0, .ref qvb, .ref qhb, .ref qnb, .ref qtb, .ref qub] : List Value).toArray) (y := yL_field) (bytes := cL_field) (cc := cL_isCatalogue) (maxL := 3) (nL := 12) (n := 2) (index := 35) (ret := (some .int)) (ws := wsL_field) (rm := cq_rm 0 0) (Ts := wsL_isCatalogue) (own := RL) (D := D) (Y := Y) (W0 := ([] : va_W)) (wl := cl_ldr o0 (ast 0) (ald 0) (ahi 0) (act 0) (acd 0) ++ (cl_set Y ast st ++ (cl_lod Y ald ld ++ (cl_his Y ahi hi ++ (cl_cat Y act ct ++ (cl_cat Y acd cd ++ (cl_lar Y qvb 40 qv ++ (cl_arr Y qhb 40 qh ++ (cl_arr Y qnb 4 qn ++ (cl_arr Y qtb 40 qt ++ (cl_arr Y qub 1 qu))))))))))) (v := some (.int (m_L_field (qv r) (nI k)))) (st0 := [.int (nI k), .long (qv r)]) (As := [.long (qv r), .int (nI k)]) (rest := []) ⟨hx, hb, hml, hown, hts⟩ (ct_L_field l D Y  (qv r) (nI k)) (va_cwS 2 hts gL_isCatalogue_L_field rfl rfl rfl (by decide +kernel) ⟨Nat.le_of_ble_eq_true rfl, Nat.le_of_ble_eq_true rfl⟩) hG hP hD [] rfl (by decide +kernel) rfl hl.1 rfl (Nat.le_of_ble_eq_true rfl) dL_isCatalogue_215 ⟨cq_f1 (by omega), cq_f2 (by omega)⟩ ?_
                  change W _ _ _ _ _ _ _ _ _ _ _ _ _ _ _ (F0 m 218 _ (.int (m_L_field (qv r) (nI k)) :: []))
                  refine lv_topi (fun w_20 ew_20 => ?_)
                  obtain rfl : w_20 = nI (fx (qv r) k) := ew_20.trans (L_field hk)
                  refine lv_istore (lv' := [(11, .int (nI (fx (qv r) k))), (0, .ref o0), (1, .ref qvb), (2, .ref qhb), (3, .ref qnb), (4, .ref qtb), (5, .ref qub), (6, .int (dgl qv qh r)), (7, .int 1), (8, .int (nI r)), (9, .int (owF (qv r) k)), (10, .int (nI k))]) hx hb dL_isCatalogue_218 hl (by decide) rfl (fun ls hl => ?_)
                  refine lv_iload hx hb dL_isCatalogue_220 (lv_at hl 8 rfl) ?_
                  refine lv_if_eq (tgt := 273) hx hb dL_isCatalogue_222 (by decide) (fun c_21 => ?_) (fun c_21 => ?_)
                  · exact absurd c_21 (by decide)
                  · refine lv_aload_n hx hb dL_isCatalogue_225 rfl (lv_at hl 1 rfl) ?_
                    refine lv_iload hx hb dL_isCatalogue_226 (lv_at hl 9 rfl) ?_
                    refine lv_iload hx hb dL_isCatalogue_228 (lv_at hl 11 rfl) ?_
                    refine cq_XRV (R := (cq_rx 8 970 5820 163)) (args := ([.ref o0, .ref qvb, .ref qhb, .ref qnb, .ref qtb, .ref qub] : List Value).toArray) (y := yX6_fieldOf) (bytes := cX6_fieldOf) (cc := cL_isCatalogue) (maxL := 3) (nL := 12) (n := 2) (index := 120) (ret := (some .int)) (ws := wsX6_fieldOf) (rm := cq_rx 7 2 12 103) (Ts := wsL_isCatalogue) (own := RL) (D := D) (Y := Y) (W0 := cl_ldr o0 (ast 0) (ald 0) (ahi 0) (act 0) (acd 0) ++ (cl_set Y ast st ++ (cl_lod Y ald ld ++ (cl_his Y ahi hi ++ (cl_cat Y act ct ++ (cl_cat Y acd cd)))))) (wl := cl_ldr o0 (ast 0) (ald 0) (ahi 0) (act 0) (acd 0) ++ (cl_set Y ast st ++ (cl_lod Y ald ld ++ (cl_his Y ahi hi ++ (cl_cat Y act ct ++ (cl_cat Y acd cd ++ (cl_lar Y qvb 40 qv ++ (cl_arr Y qhb 40 qh ++ (cl_arr Y qnb 4 qn ++ (cl_arr Y qtb 40 qt ++ (cl_arr Y qub 1 qu))))))))))) (v := fun r => some (.int r)) (st0 := [.int (nI k), .int (nI r), .ref o0]) (As := [.int (nI r), .int (nI k)]) (rest := []) (C := RX6) (b := o0) (α := Int32) (tot := m_X6_fieldOf st ld hi ct cd (nI r) (nI k)) (mc := 2) (ms := 12) (mc0 := 970) (ms0 := 5820) (T0 := (Sum.inr () : String ⊕ Unit)) (Qc := cq_QX (Sum.inr () : String ⊕ Unit) (fun _ => cq_W D (some (.int 1)) (cl_ldr o0 (ast 0) (ald 0) (ahi 0) (act 0) (acd 0) ++ (cl_set Y ast st ++ (cl_lod Y ald ld ++ (cl_his Y ahi hi ++ (cl_cat Y act ct ++ (cl_cat Y acd cd ++ (cl_lar Y qvb 40 qv ++ (cl_arr Y qhb 40 qh ++ (cl_arr Y qnb 4 qn ++ (cl_arr Y qtb 40 qt ++ (cl_arr Y qub 1 qu))))))))))) (cl_ldr o0 (ast 0) (ald 0) (ahi 0) (act 0) (acd 0) ++ (cl_set Y ast st ++ (cl_lod Y ald ld ++ (cl_his Y ahi hi ++ (cl_cat Y act ct ++ (cl_cat Y acd ((m_X6_digestAnew st ld hi ct cd).1) ++ (cl_lar Y qvb 40 qv ++ (cl_arr Y qhb 40 qh ++ (cl_arr Y qnb 4 qn ++ (cl_arr Y qtb 40 qt ++ (cl_arr Y qub 1 qu))))))))))))) ⟨hx, hb, hml, hown, hts⟩ (ct_X6_fieldOf l D Y o0 ast st ald ld ahi hi act ct acd cd (nI r) (nI k) hl0) (cwV 2 hts gL_isCatalogue_X6_fieldOf rfl rfl rfl (by decide +kernel) ⟨Nat.le_of_ble_eq_true rfl, Nat.le_of_ble_eq_true rfl⟩) hG hP hD hEC [0, 1, 2, 3, 4, 5, 6, 7, 8, 9, 10, 11, 12, 13, 14, 15, 16, 17, 18, 19, 20, 21, 22, 23, 24, 25, 26, 27, 28, 29, 30, 31, 32, 33, 34, 35, 36, 37, 38, 39, 40, 41, 42, 43, 44, 45, 46, 47, 48, 49, 50, 51, 52, 53, 54, 55, 56, 57] rfl (by decide +kernel) 0 6 (qc := (RX6, TX6, 5)) (fs := [.ref (ast 0), .ref (ald 0), .ref (ahi 0), .ref (act 0), .ref (acd 0)]) rfl rfl rfl rfl hl.1 rfl (Nat.le_of_ble_eq_true rfl) dL_isCatalogue_230 ⟨cq_f1 (by omega), cq_f2 (by omega)⟩ hT hlocks (fun E h9 => absurd (h9.symm.trans (((f6 r (by omega) hix).2.1 k hk).1)) (by simp)) (by omega) (by omega) (fun r_23 q_22 => ?_)
                    obtain rfl : r_23 = nI (fx (qv r) k) - 1 := Sum.inr.inj (q_22.symm.trans (((f6 r (by omega) hix).2.1 k hk).1))
                    change W _ _ _ _ _ _ _ _ _ _ _ _ _ _ _ (F0 m 233 _ (.int (nI (fx (qv r) k) - 1) :: []))
                    refine lv_iload hx hb dL_isCatalogue_233 (lv_at hl 0 rfl) ?_
                    refine lv_iconst (v := 1) hx hb dL_isCatalogue_235 (by decide) ?_
                    refine lv_isub hx hb dL_isCatalogue_236 ?_
                    refine lv_icmp_ne (tgt := 273) hx hb dL_isCatalogue_237 (by decide) (fun c_24 => ?_) (fun c_24 => ?_)
                    · exact absurd (Eq.refl (nI (fx (qv r) k) - 1)) c_24
                    · refine lv_aload_n hx hb dL_isCatalogue_240 rfl (lv_at hl 1 rfl) ?_
                      refine lv_iload hx hb dL_isCatalogue_241 (lv_at hl 9 rfl) ?_
                      refine lv_iload hx hb dL_isCatalogue_243 (lv_at hl 11 rfl) ?_
                      refine cq_XRV (R := (cq_rx 8 970 5820 163)) (args := ([.ref o0, .ref qvb, .ref qhb, .ref qnb, .ref qtb, .ref qub] : List Value).toArray) (y := yX6_sourceOf) (bytes := cX6_sourceOf) (cc := cL_isCatalogue) (maxL := 3) (nL := 12) (n := 2) (index := 123) (ret := (some .int)) (ws := wsX6_sourceOf) (rm := cq_rx 7 2 12 103) (Ts := wsL_isCatalogue) (own := RL) (D := D) (Y := Y) (W0 := cl_ldr o0 (ast 0) (ald 0) (ahi 0) (act 0) (acd 0) ++ (cl_set Y ast st ++ (cl_lod Y ald ld ++ (cl_his Y ahi hi ++ (cl_cat Y act ct ++ (cl_cat Y acd cd)))))) (wl := cl_ldr o0 (ast 0) (ald 0) (ahi 0) (act 0) (acd 0) ++ (cl_set Y ast st ++ (cl_lod Y ald ld ++ (cl_his Y ahi hi ++ (cl_cat Y act ct ++ (cl_cat Y acd cd ++ (cl_lar Y qvb 40 qv ++ (cl_arr Y qhb 40 qh ++ (cl_arr Y qnb 4 qn ++ (cl_arr Y qtb 40 qt ++ (cl_arr Y qub 1 qu))))))))))) (v := fun r => some (.int r)) (st0 := [.int (nI k), .int (nI r), .ref o0]) (As := [.int (nI r), .int (nI k)]) (rest := []) (C := RX6) (b := o0) (α := Int32) (tot := m_X6_sourceOf st ld hi ct cd (nI r) (nI k)) (mc := 2) (ms := 12) (mc0 := 970) (ms0 := 5820) (T0 := (Sum.inr () : String ⊕ Unit)) (Qc := cq_QX (Sum.inr () : String ⊕ Unit) (fun _ => cq_W D (some (.int 1)) (cl_ldr o0 (ast 0) (ald 0) (ahi 0) (act 0) (acd 0) ++ (cl_set Y ast st ++ (cl_lod Y ald ld ++ (cl_his Y ahi hi ++ (cl_cat Y act ct ++ (cl_cat Y acd cd ++ (cl_lar Y qvb 40 qv ++ (cl_arr Y qhb 40 qh ++ (cl_arr Y qnb 4 qn ++ (cl_arr Y qtb 40 qt ++ (cl_arr Y qub 1 qu))))))))))) (cl_ldr o0 (ast 0) (ald 0) (ahi 0) (act 0) (acd 0) ++ (cl_set Y ast st ++ (cl_lod Y ald ld ++ (cl_his Y ahi hi ++ (cl_cat Y act ct ++ (cl_cat Y acd ((m_X6_digestAnew st ld hi ct cd).1) ++ (cl_lar Y qvb 40 qv ++ (cl_arr Y qhb 40 qh ++ (cl_arr Y qnb 4 qn ++ (cl_arr Y qtb 40 qt ++ (cl_arr Y qub 1 qu))))))))))))) ⟨hx, hb, hml, hown, hts⟩ (ct_X6_sourceOf l D Y o0 ast st ald ld ahi hi act ct acd cd (nI r) (nI k) hl0) (cwV 2 hts gL_isCatalogue_X6_sourceOf rfl rfl rfl (by decide +kernel) ⟨Nat.le_of_ble_eq_true rfl, Nat.le_of_ble_eq_true rfl⟩) hG hP hD hEC [0, 1, 2, 3, 4, 5, 6, 7, 8, 9, 10, 11, 12, 13, 14, 15, 16, 17, 18, 19, 20, 21, 22, 23, 24, 25, 26, 27, 28, 29, 30, 31, 32, 33, 34, 35, 36, 37, 38, 39, 40, 41, 42, 43, 44, 45, 46, 47, 48, 49, 50, 51, 52, 53, 54, 55, 56, 57] rfl (by decide +kernel) 0 6 (qc := (RX6, TX6, 5)) (fs := [.ref (ast 0), .ref (ald 0), .ref (ahi 0), .ref (act 0), .ref (acd 0)]) rfl rfl rfl rfl hl.1 rfl (Nat.le_of_ble_eq_true rfl) dL_isCatalogue_245 ⟨cq_f1 (by omega), cq_f2 (by omega)⟩ hT hlocks (fun E h9 => absurd (h9.symm.trans (((f6 r (by omega) hix).2.1 k hk).2.trans (by rw [if_pos hz]))) (by simp)) (by omega) (by omega) (fun r_26 q_25 => ?_)
                      obtain rfl : r_26 = (-1) := Sum.inr.inj (q_25.symm.trans (((f6 r (by omega) hix).2.1 k hk).2.trans (by rw [if_pos hz])))
                      change W _ _ _ _ _ _ _ _ _ _ _ _ _ _ _ (F0 m 248 _ (.int (-1) :: []))
                      refine lv_iload hx hb dL_isCatalogue_248 (lv_at hl 0 rfl) ?_
                      refine lv_if_ne (tgt := 257) hx hb dL_isCatalogue_250 (by decide) (fun c_27 => ?_) (fun c_27 => ?_)
                      · exact absurd ((n0 (by have := fx_lt (x := qv r) (k := k); omega)).mpr hz) c_27
                      · refine lv_iconst (v := (-1)) hx hb dL_isCatalogue_253 (by decide) ?_
                        refine lv_goto (tgt := 266) hx hb dL_isCatalogue_254 (by decide) ?_
                        refine lv_icmp_ne (tgt := 273) hx hb dL_isCatalogue_266 (by decide) (fun c_28 => ?_) (fun c_28 => ?_)
                        · exact absurd c_28 (by decide)
                        · refine lv_iconst (v := 1) hx hb dL_isCatalogue_269 (by decide) ?_
                          refine lv_goto (tgt := 274) hx hb dL_isCatalogue_270 (by decide) ?_
                          refine lv_istore (lv' := [(7, .int 1), (11, .int (nI (fx (qv r) k))), (0, .ref o0), (1, .ref qvb), (2, .ref qhb), (3, .ref qnb), (4, .ref qtb), (5, .ref qub), (6, .int (dgl qv qh r)), (8, .int (nI r)), (9, .int (owF (qv r) k)), (10, .int (nI k))]) hx hb dL_isCatalogue_274 hl (by decide) rfl (fun ls hl => ?_)
                          refine lv_iload hx hb dL_isCatalogue_276 (lv_at hl 10 rfl) ?_
                          refine lv_iload hx hb dL_isCatalogue_278 (lv_at hl 1 rfl) ?_
                          refine lv_if_ne (tgt := 287) hx hb dL_isCatalogue_280 (by decide) (fun c_29 => ?_) (fun c_29 => ?_)
                          · exact absurd ((n0 (by have := fx_lt (x := qv r) (k := k); omega)).mpr hz) c_29
                          · refine lv_iconst (v := 0) hx hb dL_isCatalogue_283 (by decide) ?_
                            refine lv_goto (tgt := 291) hx hb dL_isCatalogue_284 (by decide) ?_
                            refine lv_iadd hx hb dL_isCatalogue_291 ?_
                            refine lv_topi (fun w_30 ew_30 => ?_)
                            obtain rfl : w_30 = owF (qv r) (k + 1) := ew_30.trans (show _ = owF (qv r) k + (if fx (qv r) k = 0 then 0 else nI (fx (qv r) k) - 1) by rw [if_pos hz])
                            refine lv_istore (lv' := [(9, .int (owF (qv r) (k + 1))), (7, .int 1), (11, .int (nI (fx (qv r) k))), (0, .ref o0), (1, .ref qvb), (2, .ref qhb), (3, .ref qnb), (4, .ref qtb), (5, .ref qub), (6, .int (dgl qv qh r)), (8, .int (nI r)), (10, .int (nI k))]) hx hb dL_isCatalogue_292 hl (by decide) rfl (fun ls hl => ?_)
                            refine lv_iinc (v := nI (k + 1)) (lv' := [(10, .int (nI (k + 1))), (9, .int (owF (qv r) (k + 1))), (7, .int 1), (11, .int (nI (fx (qv r) k))), (0, .ref o0), (1, .ref qvb), (2, .ref qhb), (3, .ref qnb), (4, .ref qtb), (5, .ref qub), (6, .int (dgl qv qh r)), (8, .int (nI r))]) hx hb dL_isCatalogue_294 hl (k := 11) rfl (nI_1 k) (by decide) rfl (fun ls hl => ?_)
                            refine lv_goto (tgt := 203) hx hb dL_isCatalogue_297 (by decide) ?_
                            exact W.widen (by omega) (by omega) (ihF (k + 1) ls (by omega) (lv_sub hl [4, 5, 6, 7, 8, 9, 10, 2, 11, 1, 0] rfl))
              · refine lv_iload hx hb dL_isCatalogue_203 (lv_at hl 10 rfl) ?_
                refine lv_iconst (v := 4) hx hb dL_isCatalogue_205 (by decide) ?_
                refine lv_icmp_ge (tgt := 300) hx hb dL_isCatalogue_206 (by decide) (fun c_31 => ?_) (fun c_31 => ?_)
                · exact absurd c_31 (nI_ge (a := k) (b := 4) (by omega) (by decide))
                · refine lv_aload_n hx hb dL_isCatalogue_209 rfl (lv_at hl 1 rfl) ?_
                  refine lv_iload hx hb dL_isCatalogue_210 (lv_at hl 8 rfl) ?_
                  refine va_lald hx hb hG.1 hP 58 2 rfl rfl (inb_in (inb_n (show r < 40 by omega) (by decide))) dL_isCatalogue_212 ?_
                  refine lv_topl (fun w_32 ew_32 => ?_)
                  obtain rfl : w_32 = qv r := ew_32.trans (congrArg qv (ncl (show r < 2147483648 by omega)))
                  refine lv_iload hx hb dL_isCatalogue_213 (lv_at hl 10 rfl) ?_
                  refine cq_RS (R := (cq_rx 8 970 5820 163)) (args := ([.ref o0, .ref qvb, .ref qhb, .ref qnb, .ref qtb, .ref qub] : List Value).toArray) (y := yL_field) (bytes := cL_field) (cc := cL_isCatalogue) (maxL := 3) (nL := 12) (n := 2) (index := 35) (ret := (some .int)) (ws := wsL_field) (rm := cq_rm 0 0) (Ts := wsL_isCatalogue) (own := RL) (D := D) (Y := Y) (W0 := ([] : va_W)) (wl := cl_ldr o0 (ast 0) (ald 0) (ahi 0) (act 0) (acd 0) ++ (cl_set Y ast st ++ (cl_lod Y ald ld ++ (cl_his Y ahi hi ++ (cl_cat Y act ct ++ (cl_cat Y acd cd ++ (cl_lar Y qvb 40 qv ++ (cl_arr Y qhb 40 qh ++ (cl_arr Y qnb 4 qn ++ (cl_arr Y qtb 40 qt ++ (cl_arr Y qub 1 qu))))))))))) (v := some (.int (m_L_field (qv r) (nI k)))) (st0 := [.int (nI k), .long (qv r)]) (As := [.long (qv r), .int (nI k)]) (rest := []) ⟨hx, hb, hml, hown, hts⟩ (ct_L_field l D Y  (qv r) (nI k)) (va_cwS 2 hts gL_isCatalogue_L_field rfl rfl rfl (by decide +kernel) ⟨Nat.le_of_ble_eq_true rfl, Nat.le_of_ble_eq_true rfl⟩) hG hP hD [] rfl (by decide +kernel) rfl hl.1 rfl (Nat.le_of_ble_eq_true rfl) dL_isCatalogue_215 ⟨cq_f1 (by omega), cq_f2 (by omega)⟩ ?_
                  change W _ _ _ _ _ _ _ _ _ _ _ _ _ _ _ (F0 m 218 _ (.int (m_L_field (qv r) (nI k)) :: []))
                  refine lv_topi (fun w_33 ew_33 => ?_)
                  obtain rfl : w_33 = nI (fx (qv r) k) := ew_33.trans (L_field hk)
                  refine lv_istore (lv' := [(11, .int (nI (fx (qv r) k))), (0, .ref o0), (1, .ref qvb), (2, .ref qhb), (3, .ref qnb), (4, .ref qtb), (5, .ref qub), (6, .int (dgl qv qh r)), (7, .int 1), (8, .int (nI r)), (9, .int (owF (qv r) k)), (10, .int (nI k))]) hx hb dL_isCatalogue_218 hl (by decide) rfl (fun ls hl => ?_)
                  refine lv_iload hx hb dL_isCatalogue_220 (lv_at hl 8 rfl) ?_
                  refine lv_if_eq (tgt := 273) hx hb dL_isCatalogue_222 (by decide) (fun c_34 => ?_) (fun c_34 => ?_)
                  · exact absurd c_34 (by decide)
                  · refine lv_aload_n hx hb dL_isCatalogue_225 rfl (lv_at hl 1 rfl) ?_
                    refine lv_iload hx hb dL_isCatalogue_226 (lv_at hl 9 rfl) ?_
                    refine lv_iload hx hb dL_isCatalogue_228 (lv_at hl 11 rfl) ?_
                    refine cq_XRV (R := (cq_rx 8 970 5820 163)) (args := ([.ref o0, .ref qvb, .ref qhb, .ref qnb, .ref qtb, .ref qub] : List Value).toArray) (y := yX6_fieldOf) (bytes := cX6_fieldOf) (cc := cL_isCatalogue) (maxL := 3) (nL := 12) (n := 2) (index := 120) (ret := (some .int)) (ws := wsX6_fieldOf) (rm := cq_rx 7 2 12 103) (Ts := wsL_isCatalogue) (own := RL) (D := D) (Y := Y) (W0 := cl_ldr o0 (ast 0) (ald 0) (ahi 0) (act 0) (acd 0) ++ (cl_set Y ast st ++ (cl_lod Y ald ld ++ (cl_his Y ahi hi ++ (cl_cat Y act ct ++ (cl_cat Y acd cd)))))) (wl := cl_ldr o0 (ast 0) (ald 0) (ahi 0) (act 0) (acd 0) ++ (cl_set Y ast st ++ (cl_lod Y ald ld ++ (cl_his Y ahi hi ++ (cl_cat Y act ct ++ (cl_cat Y acd cd ++ (cl_lar Y qvb 40 qv ++ (cl_arr Y qhb 40 qh ++ (cl_arr Y qnb 4 qn ++ (cl_arr Y qtb 40 qt ++ (cl_arr Y qub 1 qu))))))))))) (v := fun r => some (.int r)) (st0 := [.int (nI k), .int (nI r), .ref o0]) (As := [.int (nI r), .int (nI k)]) (rest := []) (C := RX6) (b := o0) (α := Int32) (tot := m_X6_fieldOf st ld hi ct cd (nI r) (nI k)) (mc := 2) (ms := 12) (mc0 := 970) (ms0 := 5820) (T0 := (Sum.inr () : String ⊕ Unit)) (Qc := cq_QX (Sum.inr () : String ⊕ Unit) (fun _ => cq_W D (some (.int 1)) (cl_ldr o0 (ast 0) (ald 0) (ahi 0) (act 0) (acd 0) ++ (cl_set Y ast st ++ (cl_lod Y ald ld ++ (cl_his Y ahi hi ++ (cl_cat Y act ct ++ (cl_cat Y acd cd ++ (cl_lar Y qvb 40 qv ++ (cl_arr Y qhb 40 qh ++ (cl_arr Y qnb 4 qn ++ (cl_arr Y qtb 40 qt ++ (cl_arr Y qub 1 qu))))))))))) (cl_ldr o0 (ast 0) (ald 0) (ahi 0) (act 0) (acd 0) ++ (cl_set Y ast st ++ (cl_lod Y ald ld ++ (cl_his Y ahi hi ++ (cl_cat Y act ct ++ (cl_cat Y acd ((m_X6_digestAnew st ld hi ct cd).1) ++ (cl_lar Y qvb 40 qv ++ (cl_arr Y qhb 40 qh ++ (cl_arr Y qnb 4 qn ++ (cl_arr Y qtb 40 qt ++ (cl_arr Y qub 1 qu))))))))))))) ⟨hx, hb, hml, hown, hts⟩ (ct_X6_fieldOf l D Y o0 ast st ald ld ahi hi act ct acd cd (nI r) (nI k) hl0) (cwV 2 hts gL_isCatalogue_X6_fieldOf rfl rfl rfl (by decide +kernel) ⟨Nat.le_of_ble_eq_true rfl, Nat.le_of_ble_eq_true rfl⟩) hG hP hD hEC [0, 1, 2, 3, 4, 5, 6, 7, 8, 9, 10, 11, 12, 13, 14, 15, 16, 17, 18, 19, 20, 21, 22, 23, 24, 25, 26, 27, 28, 29, 30, 31, 32, 33, 34, 35, 36, 37, 38, 39, 40, 41, 42, 43, 44, 45, 46, 47, 48, 49, 50, 51, 52, 53, 54, 55, 56, 57] rfl (by decide +kernel) 0 6 (qc := (RX6, TX6, 5)) (fs := [.ref (ast 0), .ref (ald 0), .ref (ahi 0), .ref (act 0), .ref (acd 0)]) rfl rfl rfl rfl hl.1 rfl (Nat.le_of_ble_eq_true rfl) dL_isCatalogue_230 ⟨cq_f1 (by omega), cq_f2 (by omega)⟩ hT hlocks (fun E h9 => absurd (h9.symm.trans (((f6 r (by omega) hix).2.1 k hk).1)) (by simp)) (by omega) (by omega) (fun r_36 q_35 => ?_)
                    obtain rfl : r_36 = nI (fx (qv r) k) - 1 := Sum.inr.inj (q_35.symm.trans (((f6 r (by omega) hix).2.1 k hk).1))
                    change W _ _ _ _ _ _ _ _ _ _ _ _ _ _ _ (F0 m 233 _ (.int (nI (fx (qv r) k) - 1) :: []))
                    refine lv_iload hx hb dL_isCatalogue_233 (lv_at hl 0 rfl) ?_
                    refine lv_iconst (v := 1) hx hb dL_isCatalogue_235 (by decide) ?_
                    refine lv_isub hx hb dL_isCatalogue_236 ?_
                    refine lv_icmp_ne (tgt := 273) hx hb dL_isCatalogue_237 (by decide) (fun c_37 => ?_) (fun c_37 => ?_)
                    · exact absurd (Eq.refl (nI (fx (qv r) k) - 1)) c_37
                    · refine lv_aload_n hx hb dL_isCatalogue_240 rfl (lv_at hl 1 rfl) ?_
                      refine lv_iload hx hb dL_isCatalogue_241 (lv_at hl 9 rfl) ?_
                      refine lv_iload hx hb dL_isCatalogue_243 (lv_at hl 11 rfl) ?_
                      refine cq_XRV (R := (cq_rx 8 970 5820 163)) (args := ([.ref o0, .ref qvb, .ref qhb, .ref qnb, .ref qtb, .ref qub] : List Value).toArray) (y := yX6_sourceOf) (bytes := cX6_sourceOf) (cc := cL_isCatalogue) (maxL := 3) (nL := 12) (n := 2) (index := 123) (ret := (some .int)) (ws := wsX6_sourceOf) (rm := cq_rx 7 2 12 103) (Ts := wsL_isCatalogue) (own := RL) (D := D) (Y := Y) (W0 := cl_ldr o0 (ast 0) (ald 0) (ahi 0) (act 0) (acd 0) ++ (cl_set Y ast st ++ (cl_lod Y ald ld ++ (cl_his Y ahi hi ++ (cl_cat Y act ct ++ (cl_cat Y acd cd)))))) (wl := cl_ldr o0 (ast 0) (ald 0) (ahi 0) (act 0) (acd 0) ++ (cl_set Y ast st ++ (cl_lod Y ald ld ++ (cl_his Y ahi hi ++ (cl_cat Y act ct ++ (cl_cat Y acd cd ++ (cl_lar Y qvb 40 qv ++ (cl_arr Y qhb 40 qh ++ (cl_arr Y qnb 4 qn ++ (cl_arr Y qtb 40 qt ++ (cl_arr Y qub 1 qu))))))))))) (v := fun r => some (.int r)) (st0 := [.int (nI k), .int (nI r), .ref o0]) (As := [.int (nI r), .int (nI k)]) (rest := []) (C := RX6) (b := o0) (α := Int32) (tot := m_X6_sourceOf st ld hi ct cd (nI r) (nI k)) (mc := 2) (ms := 12) (mc0 := 970) (ms0 := 5820) (T0 := (Sum.inr () : String ⊕ Unit)) (Qc := cq_QX (Sum.inr () : String ⊕ Unit) (fun _ => cq_W D (some (.int 1)) (cl_ldr o0 (ast 0) (ald 0) (ahi 0) (act 0) (acd 0) ++ (cl_set Y ast st ++ (cl_lod Y ald ld ++ (cl_his Y ahi hi ++ (cl_cat Y act ct ++ (cl_cat Y acd cd ++ (cl_lar Y qvb 40 qv ++ (cl_arr Y qhb 40 qh ++ (cl_arr Y qnb 4 qn ++ (cl_arr Y qtb 40 qt ++ (cl_arr Y qub 1 qu))))))))))) (cl_ldr o0 (ast 0) (ald 0) (ahi 0) (act 0) (acd 0) ++ (cl_set Y ast st ++ (cl_lod Y ald ld ++ (cl_his Y ahi hi ++ (cl_cat Y act ct ++ (cl_cat Y acd ((m_X6_digestAnew st ld hi ct cd).1) ++ (cl_lar Y qvb 40 qv ++ (cl_arr Y qhb 40 qh ++ (cl_arr Y qnb 4 qn ++ (cl_arr Y qtb 40 qt ++ (cl_arr Y qub 1 qu))))))))))))) ⟨hx, hb, hml, hown, hts⟩ (ct_X6_sourceOf l D Y o0 ast st ald ld ahi hi act ct acd cd (nI r) (nI k) hl0) (cwV 2 hts gL_isCatalogue_X6_sourceOf rfl rfl rfl (by decide +kernel) ⟨Nat.le_of_ble_eq_true rfl, Nat.le_of_ble_eq_true rfl⟩) hG hP hD hEC [0, 1, 2, 3, 4, 5, 6, 7, 8, 9, 10, 11, 12, 13, 14, 15, 16, 17, 18, 19, 20, 21, 22, 23, 24, 25, 26, 27, 28, 29, 30, 31, 32, 33, 34, 35, 36, 37, 38, 39, 40, 41, 42, 43, 44, 45, 46, 47, 48, 49, 50, 51, 52, 53, 54, 55, 56, 57] rfl (by decide +kernel) 0 6 (qc := (RX6, TX6, 5)) (fs := [.ref (ast 0), .ref (ald 0), .ref (ahi 0), .ref (act 0), .ref (acd 0)]) rfl rfl rfl rfl hl.1 rfl (Nat.le_of_ble_eq_true rfl) dL_isCatalogue_245 ⟨cq_f1 (by omega), cq_f2 (by omega)⟩ hT hlocks (fun E h9 => absurd (h9.symm.trans (((f6 r (by omega) hix).2.1 k hk).2.trans (by rw [if_neg hz]))) (by simp)) (by omega) (by omega) (fun r_39 q_38 => ?_)
                      obtain rfl : r_39 = nI (sx (qv r) k) := Sum.inr.inj (q_38.symm.trans (((f6 r (by omega) hix).2.1 k hk).2.trans (by rw [if_neg hz])))
                      change W _ _ _ _ _ _ _ _ _ _ _ _ _ _ _ (F0 m 248 _ (.int (nI (sx (qv r) k)) :: []))
                      refine lv_iload hx hb dL_isCatalogue_248 (lv_at hl 0 rfl) ?_
                      refine lv_if_ne (tgt := 257) hx hb dL_isCatalogue_250 (by decide) (fun c_40 => ?_) (fun c_40 => ?_)
                      · refine lv_aload_n hx hb dL_isCatalogue_257 rfl (lv_at hl 2 rfl) ?_
                        refine lv_iload hx hb dL_isCatalogue_258 (lv_at hl 9 rfl) ?_
                        refine va_lald hx hb hG.1 hP 58 2 rfl rfl (inb_in (inb_n (show r < 40 by omega) (by decide))) dL_isCatalogue_260 ?_
                        refine lv_topl (fun w_41 ew_41 => ?_)
                        obtain rfl : w_41 = qv r := ew_41.trans (congrArg qv (ncl (show r < 2147483648 by omega)))
                        refine lv_iload hx hb dL_isCatalogue_261 (lv_at hl 11 rfl) ?_
                        refine cq_RS (R := (cq_rx 8 970 5820 163)) (args := ([.ref o0, .ref qvb, .ref qhb, .ref qnb, .ref qtb, .ref qub] : List Value).toArray) (y := yL_source) (bytes := cL_source) (cc := cL_isCatalogue) (maxL := 3) (nL := 12) (n := 2) (index := 38) (ret := (some .int)) (ws := wsL_source) (rm := cq_rm 0 0) (Ts := wsL_isCatalogue) (own := RL) (D := D) (Y := Y) (W0 := ([] : va_W)) (wl := cl_ldr o0 (ast 0) (ald 0) (ahi 0) (act 0) (acd 0) ++ (cl_set Y ast st ++ (cl_lod Y ald ld ++ (cl_his Y ahi hi ++ (cl_cat Y act ct ++ (cl_cat Y acd cd ++ (cl_lar Y qvb 40 qv ++ (cl_arr Y qhb 40 qh ++ (cl_arr Y qnb 4 qn ++ (cl_arr Y qtb 40 qt ++ (cl_arr Y qub 1 qu))))))))))) (v := some (.int (m_L_source (qv r) (nI k)))) (st0 := [.int (nI k), .long (qv r), .int (nI (sx (qv r) k))]) (As := [.long (qv r), .int (nI k)]) (rest := [.int (nI (sx (qv r) k))]) ⟨hx, hb, hml, hown, hts⟩ (ct_L_source l D Y  (qv r) (nI k)) (va_cwS 2 hts gL_isCatalogue_L_source rfl rfl rfl (by decide +kernel) ⟨Nat.le_of_ble_eq_true rfl, Nat.le_of_ble_eq_true rfl⟩) hG hP hD [] rfl (by decide +kernel) rfl hl.1 rfl (Nat.le_of_ble_eq_true rfl) dL_isCatalogue_263 ⟨cq_f1 (by omega), cq_f2 (by omega)⟩ ?_
                        change W _ _ _ _ _ _ _ _ _ _ _ _ _ _ _ (F0 m 266 _ (.int (m_L_source (qv r) (nI k)) :: [.int (nI (sx (qv r) k))]))
                        refine lv_topi (fun w_42 ew_42 => ?_)
                        obtain rfl : w_42 = nI (sx (qv r) k) := ew_42.trans (L_source hk)
                        refine lv_icmp_ne (tgt := 273) hx hb dL_isCatalogue_266 (by decide) (fun c_43 => ?_) (fun c_43 => ?_)
                        · exact absurd (Eq.refl (nI (sx (qv r) k))) c_43
                        · refine lv_iconst (v := 1) hx hb dL_isCatalogue_269 (by decide) ?_
                          refine lv_goto (tgt := 274) hx hb dL_isCatalogue_270 (by decide) ?_
                          refine lv_istore (lv' := [(7, .int 1), (11, .int (nI (fx (qv r) k))), (0, .ref o0), (1, .ref qvb), (2, .ref qhb), (3, .ref qnb), (4, .ref qtb), (5, .ref qub), (6, .int (dgl qv qh r)), (8, .int (nI r)), (9, .int (owF (qv r) k)), (10, .int (nI k))]) hx hb dL_isCatalogue_274 hl (by decide) rfl (fun ls hl => ?_)
                          refine lv_iload hx hb dL_isCatalogue_276 (lv_at hl 10 rfl) ?_
                          refine lv_iload hx hb dL_isCatalogue_278 (lv_at hl 1 rfl) ?_
                          refine lv_if_ne (tgt := 287) hx hb dL_isCatalogue_280 (by decide) (fun c_44 => ?_) (fun c_44 => ?_)
                          · refine lv_iload hx hb dL_isCatalogue_287 (lv_at hl 1 rfl) ?_
                            refine lv_iconst (v := 1) hx hb dL_isCatalogue_289 (by decide) ?_
                            refine lv_isub hx hb dL_isCatalogue_290 ?_
                            refine lv_iadd hx hb dL_isCatalogue_291 ?_
                            refine lv_topi (fun w_45 ew_45 => ?_)
                            obtain rfl : w_45 = owF (qv r) (k + 1) := ew_45.trans (show _ = owF (qv r) k + (if fx (qv r) k = 0 then 0 else nI (fx (qv r) k) - 1) by rw [if_neg hz])
                            refine lv_istore (lv' := [(9, .int (owF (qv r) (k + 1))), (7, .int 1), (11, .int (nI (fx (qv r) k))), (0, .ref o0), (1, .ref qvb), (2, .ref qhb), (3, .ref qnb), (4, .ref qtb), (5, .ref qub), (6, .int (dgl qv qh r)), (8, .int (nI r)), (10, .int (nI k))]) hx hb dL_isCatalogue_292 hl (by decide) rfl (fun ls hl => ?_)
                            refine lv_iinc (v := nI (k + 1)) (lv' := [(10, .int (nI (k + 1))), (9, .int (owF (qv r) (k + 1))), (7, .int 1), (11, .int (nI (fx (qv r) k))), (0, .ref o0), (1, .ref qvb), (2, .ref qhb), (3, .ref qnb), (4, .ref qtb), (5, .ref qub), (6, .int (dgl qv qh r)), (8, .int (nI r))]) hx hb dL_isCatalogue_294 hl (k := 11) rfl (nI_1 k) (by decide) rfl (fun ls hl => ?_)
                            refine lv_goto (tgt := 203) hx hb dL_isCatalogue_297 (by decide) ?_
                            exact W.widen (by omega) (by omega) (ihF (k + 1) ls (by omega) (lv_sub hl [4, 5, 6, 7, 8, 9, 10, 2, 11, 1, 0] rfl))
                          · exact absurd c_44 (fun h9 => hz ((n0 (by have := fx_lt (x := qv r) (k := k); omega)).mp h9))
                      · exact absurd c_40 (fun h9 => hz ((n0 (by have := fx_lt (x := qv r) (k := k); omega)).mp h9))
          have lpK : ∀ (q k : Nat) (ls : Array Slot), k + q = 3 → lv_has ls 12 [(0, .ref o0), (1, .ref qvb), (2, .ref qhb), (3, .ref qnb), (4, .ref qtb), (5, .ref qub), (6, .int (dgl qv qh r)), (7, .int 1), (8, .int (nI r)), (9, .int (owK (qv r) k)), (10, .int (nI k))] → W p l e (cq_rx 8 970 5820 163) s m ([.ref o0, .ref qvb, .ref qhb, .ref qnb, .ref qtb, .ref qub] : List Value).toArray below meth c s.heap [] (24 * r + 1 + 2 * k) (144 * r + 6 + 12 * k) (vx_MQ below (cq_QX (Sum.inr () : String ⊕ Unit) (fun _ => cq_W D (some (.int 1)) (cl_ldr o0 (ast 0) (ald 0) (ahi 0) (act 0) (acd 0) ++ (cl_set Y ast st ++ (cl_lod Y ald ld ++ (cl_his Y ahi hi ++ (cl_cat Y act ct ++ (cl_cat Y acd cd ++ (cl_lar Y qvb 40 qv ++ (cl_arr Y qhb 40 qh ++ (cl_arr Y qnb 4 qn ++ (cl_arr Y qtb 40 qt ++ (cl_arr Y qub 1 qu))))))))))) (cl_ldr o0 (ast 0) (ald 0) (ahi 0) (act 0) (acd 0) ++ (cl_set Y ast st ++ (cl_lod Y ald ld ++ (cl_his Y ahi hi ++ (cl_cat Y act ct ++ (cl_cat Y acd ((m_X6_digestAnew st ld hi ct cd).1) ++ (cl_lar Y qvb 40 qv ++ (cl_arr Y qhb 40 qh ++ (cl_arr Y qnb 4 qn ++ (cl_arr Y qtb 40 qt ++ (cl_arr Y qub 1 qu))))))))))))) (cq_XX (Sum.inr () : String ⊕ Unit)) ([.ref o0, .ref qvb, .ref qhb, .ref qnb, .ref qtb, .ref qub] : List Value).toArray s 970 5820 (cq_in (cl_ldr o0 (ast 0) (ald 0) (ahi 0) (act 0) (acd 0) ++ (cl_set Y ast st ++ (cl_lod Y ald ld ++ (cl_his Y ahi hi ++ (cl_cat Y act ct ++ (cl_cat Y acd cd ++ (cl_lar Y qvb 40 qv ++ (cl_arr Y qhb 40 qh ++ (cl_arr Y qnb 4 qn ++ (cl_arr Y qtb 40 qt ++ (cl_arr Y qub 1 qu))))))))))))) (F0 m 122 ls []) := by
            intro q; induction q with
            | zero =>
              intro k ls hk hl
              obtain rfl : k = 3 := by omega
              refine lv_iload hx hb dL_isCatalogue_122 (lv_at hl 10 rfl) ?_
              refine lv_iconst (v := 3) hx hb dL_isCatalogue_124 (by decide) ?_
              refine lv_icmp_ge (tgt := 200) hx hb dL_isCatalogue_125 (by decide) (fun c_10 => ?_) (fun c_10 => ?_)
              · refine lv_iconst (v := 0) hx hb dL_isCatalogue_200 (by decide) ?_
                refine lv_istore (lv' := [(10, .int 0), (0, .ref o0), (1, .ref qvb), (2, .ref qhb), (3, .ref qnb), (4, .ref qtb), (5, .ref qub), (6, .int (dgl qv qh r)), (7, .int 1), (8, .int (nI r)), (9, .int (owK (qv r) 3))]) hx hb dL_isCatalogue_201 hl (by decide) rfl (fun ls hl => ?_)
                exact lpF 4 0 ls rfl (lv_sub hl [1, 2, 3, 4, 5, 6, 7, 8, 9, 10, 0] rfl)
              · exact absurd (show (3 : Int32) ≤ nI 3 by decide) c_10
            | succ q ihK =>
              intro k ls hkq hl
              have hk : k < 3 := by omega
              by_cases hz : kx (qv r) k = 0
              · refine lv_iload hx hb dL_isCatalogue_122 (lv_at hl 10 rfl) ?_
                refine lv_iconst (v := 3) hx hb dL_isCatalogue_124 (by decide) ?_
                refine lv_icmp_ge (tgt := 200) hx hb dL_isCatalogue_125 (by decide) (fun c_46 => ?_) (fun c_46 => ?_)
                · exact absurd c_46 (nI_ge (a := k) (b := 3) (by omega) (by decide))
                · refine lv_iload hx hb dL_isCatalogue_128 (lv_at hl 7 rfl) ?_
                  refine lv_if_eq (tgt := 159) hx hb dL_isCatalogue_130 (by decide) (fun c_47 => ?_) (fun c_47 => ?_)
                  · exact absurd c_47 (by decide)
                  · refine lv_aload_n hx hb dL_isCatalogue_133 rfl (lv_at hl 0 rfl) ?_
                    refine lv_iload hx hb dL_isCatalogue_134 (lv_at hl 8 rfl) ?_
                    refine lv_iload hx hb dL_isCatalogue_136 (lv_at hl 10 rfl) ?_
                    refine cq_XRV (R := (cq_rx 8 970 5820 163)) (args := ([.ref o0, .ref qvb, .ref qhb, .ref qnb, .ref qtb, .ref qub] : List Value).toArray) (y := yX6_keyOf) (bytes := cX6_keyOf) (cc := cL_isCatalogue) (maxL := 3) (nL := 12) (n := 2) (index := 117) (ret := (some .int)) (ws := wsX6_keyOf) (rm := cq_rx 7 2 12 103) (Ts := wsL_isCatalogue) (own := RL) (D := D) (Y := Y) (W0 := cl_ldr o0 (ast 0) (ald 0) (ahi 0) (act 0) (acd 0) ++ (cl_set Y ast st ++ (cl_lod Y ald ld ++ (cl_his Y ahi hi ++ (cl_cat Y act ct ++ (cl_cat Y acd cd)))))) (wl := cl_ldr o0 (ast 0) (ald 0) (ahi 0) (act 0) (acd 0) ++ (cl_set Y ast st ++ (cl_lod Y ald ld ++ (cl_his Y ahi hi ++ (cl_cat Y act ct ++ (cl_cat Y acd cd ++ (cl_lar Y qvb 40 qv ++ (cl_arr Y qhb 40 qh ++ (cl_arr Y qnb 4 qn ++ (cl_arr Y qtb 40 qt ++ (cl_arr Y qub 1 qu))))))))))) (v := fun r => some (.int r)) (st0 := [.int (nI k), .int (nI r), .ref o0]) (As := [.int (nI r), .int (nI k)]) (rest := []) (C := RX6) (b := o0) (α := Int32) (tot := m_X6_keyOf st ld hi ct cd (nI r) (nI k)) (mc := 2) (ms := 12) (mc0 := 970) (ms0 := 5820) (T0 := (Sum.inr () : String ⊕ Unit)) (Qc := cq_QX (Sum.inr () : String ⊕ Unit) (fun _ => cq_W D (some (.int 1)) (cl_ldr o0 (ast 0) (ald 0) (ahi 0) (act 0) (acd 0) ++ (cl_set Y ast st ++ (cl_lod Y ald ld ++ (cl_his Y ahi hi ++ (cl_cat Y act ct ++ (cl_cat Y acd cd ++ (cl_lar Y qvb 40 qv ++ (cl_arr Y qhb 40 qh ++ (cl_arr Y qnb 4 qn ++ (cl_arr Y qtb 40 qt ++ (cl_arr Y qub 1 qu))))))))))) (cl_ldr o0 (ast 0) (ald 0) (ahi 0) (act 0) (acd 0) ++ (cl_set Y ast st ++ (cl_lod Y ald ld ++ (cl_his Y ahi hi ++ (cl_cat Y act ct ++ (cl_cat Y acd ((m_X6_digestAnew st ld hi ct cd).1) ++ (cl_lar Y qvb 40 qv ++ (cl_arr Y qhb 40 qh ++ (cl_arr Y qnb 4 qn ++ (cl_arr Y qtb 40 qt ++ (cl_arr Y qub 1 qu))))))))))))) ⟨hx, hb, hml, hown, hts⟩ (ct_X6_keyOf l D Y o0 ast st ald ld ahi hi act ct acd cd (nI r) (nI k) hl0) (cwV 2 hts gL_isCatalogue_X6_keyOf rfl rfl rfl (by decide +kernel) ⟨Nat.le_of_ble_eq_true rfl, Nat.le_of_ble_eq_true rfl⟩) hG hP hD hEC [0, 1, 2, 3, 4, 5, 6, 7, 8, 9, 10, 11, 12, 13, 14, 15, 16, 17, 18, 19, 20, 21, 22, 23, 24, 25, 26, 27, 28, 29, 30, 31, 32, 33, 34, 35, 36, 37, 38, 39, 40, 41, 42, 43, 44, 45, 46, 47, 48, 49, 50, 51, 52, 53, 54, 55, 56, 57] rfl (by decide +kernel) 0 6 (qc := (RX6, TX6, 5)) (fs := [.ref (ast 0), .ref (ald 0), .ref (ahi 0), .ref (act 0), .ref (acd 0)]) rfl rfl rfl rfl hl.1 rfl (Nat.le_of_ble_eq_true rfl) dL_isCatalogue_138 ⟨cq_f1 (by omega), cq_f2 (by omega)⟩ hT hlocks (fun E h9 => absurd (h9.symm.trans ((f6 r (by omega) hix).1 k hk)) (by simp)) (by omega) (by omega) (fun r_49 q_48 => ?_)
                    obtain rfl : r_49 = nI (kx (qv r) k) - 1 := Sum.inr.inj (q_48.symm.trans ((f6 r (by omega) hix).1 k hk))
                    change W _ _ _ _ _ _ _ _ _ _ _ _ _ _ _ (F0 m 141 _ (.int (nI (kx (qv r) k) - 1) :: []))
                    refine lv_aload_n hx hb dL_isCatalogue_141 rfl (lv_at hl 1 rfl) ?_
                    refine lv_iload hx hb dL_isCatalogue_142 (lv_at hl 8 rfl) ?_
                    refine va_lald hx hb hG.1 hP 58 2 rfl rfl (inb_in (inb_n (show r < 40 by omega) (by decide))) dL_isCatalogue_144 ?_
                    refine lv_topl (fun w_50 ew_50 => ?_)
                    obtain rfl : w_50 = qv r := ew_50.trans (congrArg qv (ncl (show r < 2147483648 by omega)))
                    refine lv_iload hx hb dL_isCatalogue_145 (lv_at hl 10 rfl) ?_
                    refine cq_RS (R := (cq_rx 8 970 5820 163)) (args := ([.ref o0, .ref qvb, .ref qhb, .ref qnb, .ref qtb, .ref qub] : List Value).toArray) (y := yL_key) (bytes := cL_key) (cc := cL_isCatalogue) (maxL := 3) (nL := 12) (n := 2) (index := 21) (ret := (some .int)) (ws := wsL_key) (rm := cq_rm 0 0) (Ts := wsL_isCatalogue) (own := RL) (D := D) (Y := Y) (W0 := ([] : va_W)) (wl := cl_ldr o0 (ast 0) (ald 0) (ahi 0) (act 0) (acd 0) ++ (cl_set Y ast st ++ (cl_lod Y ald ld ++ (cl_his Y ahi hi ++ (cl_cat Y act ct ++ (cl_cat Y acd cd ++ (cl_lar Y qvb 40 qv ++ (cl_arr Y qhb 40 qh ++ (cl_arr Y qnb 4 qn ++ (cl_arr Y qtb 40 qt ++ (cl_arr Y qub 1 qu))))))))))) (v := some (.int (m_L_key (qv r) (nI k)))) (st0 := [.int (nI k), .long (qv r), .int (nI (kx (qv r) k) - 1)]) (As := [.long (qv r), .int (nI k)]) (rest := [.int (nI (kx (qv r) k) - 1)]) ⟨hx, hb, hml, hown, hts⟩ (ct_L_key l D Y  (qv r) (nI k)) (va_cwS 2 hts gL_isCatalogue_L_key rfl rfl rfl (by decide +kernel) ⟨Nat.le_of_ble_eq_true rfl, Nat.le_of_ble_eq_true rfl⟩) hG hP hD [] rfl (by decide +kernel) rfl hl.1 rfl (Nat.le_of_ble_eq_true rfl) dL_isCatalogue_147 ⟨cq_f1 (by omega), cq_f2 (by omega)⟩ ?_
                    change W _ _ _ _ _ _ _ _ _ _ _ _ _ _ _ (F0 m 150 _ (.int (m_L_key (qv r) (nI k)) :: [.int (nI (kx (qv r) k) - 1)]))
                    refine lv_topi (fun w_51 ew_51 => ?_)
                    obtain rfl : w_51 = nI (kx (qv r) k) := ew_51.trans (L_key hk)
                    refine lv_iconst (v := 1) hx hb dL_isCatalogue_150 (by decide) ?_
                    refine lv_isub hx hb dL_isCatalogue_151 ?_
                    refine lv_icmp_ne (tgt := 159) hx hb dL_isCatalogue_152 (by decide) (fun c_52 => ?_) (fun c_52 => ?_)
                    · exact absurd (Eq.refl (nI (kx (qv r) k) - 1)) c_52
                    · refine lv_iconst (v := 1) hx hb dL_isCatalogue_155 (by decide) ?_
                      refine lv_goto (tgt := 160) hx hb dL_isCatalogue_156 (by decide) ?_
                      refine lv_istore (lv' := [(7, .int 1), (0, .ref o0), (1, .ref qvb), (2, .ref qhb), (3, .ref qnb), (4, .ref qtb), (5, .ref qub), (6, .int (dgl qv qh r)), (8, .int (nI r)), (9, .int (owK (qv r) k)), (10, .int (nI k))]) hx hb dL_isCatalogue_160 hl (by decide) rfl (fun ls hl => ?_)
                      refine lv_iload hx hb dL_isCatalogue_162 (lv_at hl 9 rfl) ?_
                      refine lv_aload_n hx hb dL_isCatalogue_164 rfl (lv_at hl 2 rfl) ?_
                      refine lv_iload hx hb dL_isCatalogue_165 (lv_at hl 8 rfl) ?_
                      refine va_lald hx hb hG.1 hP 58 2 rfl rfl (inb_in (inb_n (show r < 40 by omega) (by decide))) dL_isCatalogue_167 ?_
                      refine lv_topl (fun w_53 ew_53 => ?_)
                      obtain rfl : w_53 = qv r := ew_53.trans (congrArg qv (ncl (show r < 2147483648 by omega)))
                      refine lv_iload hx hb dL_isCatalogue_168 (lv_at hl 10 rfl) ?_
                      refine cq_RS (R := (cq_rx 8 970 5820 163)) (args := ([.ref o0, .ref qvb, .ref qhb, .ref qnb, .ref qtb, .ref qub] : List Value).toArray) (y := yL_key) (bytes := cL_key) (cc := cL_isCatalogue) (maxL := 3) (nL := 12) (n := 2) (index := 21) (ret := (some .int)) (ws := wsL_key) (rm := cq_rm 0 0) (Ts := wsL_isCatalogue) (own := RL) (D := D) (Y := Y) (W0 := ([] : va_W)) (wl := cl_ldr o0 (ast 0) (ald 0) (ahi 0) (act 0) (acd 0) ++ (cl_set Y ast st ++ (cl_lod Y ald ld ++ (cl_his Y ahi hi ++ (cl_cat Y act ct ++ (cl_cat Y acd cd ++ (cl_lar Y qvb 40 qv ++ (cl_arr Y qhb 40 qh ++ (cl_arr Y qnb 4 qn ++ (cl_arr Y qtb 40 qt ++ (cl_arr Y qub 1 qu))))))))))) (v := some (.int (m_L_key (qv r) (nI k)))) (st0 := [.int (nI k), .long (qv r), .int (owK (qv r) k)]) (As := [.long (qv r), .int (nI k)]) (rest := [.int (owK (qv r) k)]) ⟨hx, hb, hml, hown, hts⟩ (ct_L_key l D Y  (qv r) (nI k)) (va_cwS 2 hts gL_isCatalogue_L_key rfl rfl rfl (by decide +kernel) ⟨Nat.le_of_ble_eq_true rfl, Nat.le_of_ble_eq_true rfl⟩) hG hP hD [] rfl (by decide +kernel) rfl hl.1 rfl (Nat.le_of_ble_eq_true rfl) dL_isCatalogue_170 ⟨cq_f1 (by omega), cq_f2 (by omega)⟩ ?_
                      change W _ _ _ _ _ _ _ _ _ _ _ _ _ _ _ (F0 m 173 _ (.int (m_L_key (qv r) (nI k)) :: [.int (owK (qv r) k)]))
                      refine lv_topi (fun w_54 ew_54 => ?_)
                      obtain rfl : w_54 = 0 := ew_54.trans ((L_key hk).trans (by rw [hz]; rfl))
                      refine lv_if_ne (tgt := 180) hx hb dL_isCatalogue_173 (by decide) (fun c_55 => ?_) (fun c_55 => ?_)
                      · exact absurd c_55 (by decide)
                      · refine lv_iconst (v := 0) hx hb dL_isCatalogue_176 (by decide) ?_
                        refine lv_goto (tgt := 191) hx hb dL_isCatalogue_177 (by decide) ?_
                        refine lv_iadd hx hb dL_isCatalogue_191 ?_
                        refine lv_topi (fun w_56 ew_56 => ?_)
                        obtain rfl : w_56 = owK (qv r) (k + 1) := ew_56.trans (show _ = owK (qv r) k + (if kx (qv r) k = 0 then 0 else nI (kx (qv r) k) - 1) by rw [if_pos hz])
                        refine lv_istore (lv' := [(9, .int (owK (qv r) (k + 1))), (7, .int 1), (0, .ref o0), (1, .ref qvb), (2, .ref qhb), (3, .ref qnb), (4, .ref qtb), (5, .ref qub), (6, .int (dgl qv qh r)), (8, .int (nI r)), (10, .int (nI k))]) hx hb dL_isCatalogue_192 hl (by decide) rfl (fun ls hl => ?_)
                        refine lv_iinc (v := nI (k + 1)) (lv' := [(10, .int (nI (k + 1))), (9, .int (owK (qv r) (k + 1))), (7, .int 1), (0, .ref o0), (1, .ref qvb), (2, .ref qhb), (3, .ref qnb), (4, .ref qtb), (5, .ref qub), (6, .int (dgl qv qh r)), (8, .int (nI r))]) hx hb dL_isCatalogue_194 hl (k := 10) rfl (nI_1 k) (by decide) rfl (fun ls hl => ?_)
                        refine lv_goto (tgt := 122) hx hb dL_isCatalogue_197 (by decide) ?_
                        exact W.widen (by omega) (by omega) (ihK (k + 1) ls (by omega) (lv_sub hl [3, 4, 5, 6, 7, 8, 9, 2, 10, 1, 0] rfl))
              · refine lv_iload hx hb dL_isCatalogue_122 (lv_at hl 10 rfl) ?_
                refine lv_iconst (v := 3) hx hb dL_isCatalogue_124 (by decide) ?_
                refine lv_icmp_ge (tgt := 200) hx hb dL_isCatalogue_125 (by decide) (fun c_57 => ?_) (fun c_57 => ?_)
                · exact absurd c_57 (nI_ge (a := k) (b := 3) (by omega) (by decide))
                · refine lv_iload hx hb dL_isCatalogue_128 (lv_at hl 7 rfl) ?_
                  refine lv_if_eq (tgt := 159) hx hb dL_isCatalogue_130 (by decide) (fun c_58 => ?_) (fun c_58 => ?_)
                  · exact absurd c_58 (by decide)
                  · refine lv_aload_n hx hb dL_isCatalogue_133 rfl (lv_at hl 0 rfl) ?_
                    refine lv_iload hx hb dL_isCatalogue_134 (lv_at hl 8 rfl) ?_
                    refine lv_iload hx hb dL_isCatalogue_136 (lv_at hl 10 rfl) ?_
                    refine cq_XRV (R := (cq_rx 8 970 5820 163)) (args := ([.ref o0, .ref qvb, .ref qhb, .ref qnb, .ref qtb, .ref qub] : List Value).toArray) (y := yX6_keyOf) (bytes := cX6_keyOf) (cc := cL_isCatalogue) (maxL := 3) (nL := 12) (n := 2) (index := 117) (ret := (some .int)) (ws := wsX6_keyOf) (rm := cq_rx 7 2 12 103) (Ts := wsL_isCatalogue) (own := RL) (D := D) (Y := Y) (W0 := cl_ldr o0 (ast 0) (ald 0) (ahi 0) (act 0) (acd 0) ++ (cl_set Y ast st ++ (cl_lod Y ald ld ++ (cl_his Y ahi hi ++ (cl_cat Y act ct ++ (cl_cat Y acd cd)))))) (wl := cl_ldr o0 (ast 0) (ald 0) (ahi 0) (act 0) (acd 0) ++ (cl_set Y ast st ++ (cl_lod Y ald ld ++ (cl_his Y ahi hi ++ (cl_cat Y act ct ++ (cl_cat Y acd cd ++ (cl_lar Y qvb 40 qv ++ (cl_arr Y qhb 40 qh ++ (cl_arr Y qnb 4 qn ++ (cl_arr Y qtb 40 qt ++ (cl_arr Y qub 1 qu))))))))))) (v := fun r => some (.int r)) (st0 := [.int (nI k), .int (nI r), .ref o0]) (As := [.int (nI r), .int (nI k)]) (rest := []) (C := RX6) (b := o0) (α := Int32) (tot := m_X6_keyOf st ld hi ct cd (nI r) (nI k)) (mc := 2) (ms := 12) (mc0 := 970) (ms0 := 5820) (T0 := (Sum.inr () : String ⊕ Unit)) (Qc := cq_QX (Sum.inr () : String ⊕ Unit) (fun _ => cq_W D (some (.int 1)) (cl_ldr o0 (ast 0) (ald 0) (ahi 0) (act 0) (acd 0) ++ (cl_set Y ast st ++ (cl_lod Y ald ld ++ (cl_his Y ahi hi ++ (cl_cat Y act ct ++ (cl_cat Y acd cd ++ (cl_lar Y qvb 40 qv ++ (cl_arr Y qhb 40 qh ++ (cl_arr Y qnb 4 qn ++ (cl_arr Y qtb 40 qt ++ (cl_arr Y qub 1 qu))))))))))) (cl_ldr o0 (ast 0) (ald 0) (ahi 0) (act 0) (acd 0) ++ (cl_set Y ast st ++ (cl_lod Y ald ld ++ (cl_his Y ahi hi ++ (cl_cat Y act ct ++ (cl_cat Y acd ((m_X6_digestAnew st ld hi ct cd).1) ++ (cl_lar Y qvb 40 qv ++ (cl_arr Y qhb 40 qh ++ (cl_arr Y qnb 4 qn ++ (cl_arr Y qtb 40 qt ++ (cl_arr Y qub 1 qu))))))))))))) ⟨hx, hb, hml, hown, hts⟩ (ct_X6_keyOf l D Y o0 ast st ald ld ahi hi act ct acd cd (nI r) (nI k) hl0) (cwV 2 hts gL_isCatalogue_X6_keyOf rfl rfl rfl (by decide +kernel) ⟨Nat.le_of_ble_eq_true rfl, Nat.le_of_ble_eq_true rfl⟩) hG hP hD hEC [0, 1, 2, 3, 4, 5, 6, 7, 8, 9, 10, 11, 12, 13, 14, 15, 16, 17, 18, 19, 20, 21, 22, 23, 24, 25, 26, 27, 28, 29, 30, 31, 32, 33, 34, 35, 36, 37, 38, 39, 40, 41, 42, 43, 44, 45, 46, 47, 48, 49, 50, 51, 52, 53, 54, 55, 56, 57] rfl (by decide +kernel) 0 6 (qc := (RX6, TX6, 5)) (fs := [.ref (ast 0), .ref (ald 0), .ref (ahi 0), .ref (act 0), .ref (acd 0)]) rfl rfl rfl rfl hl.1 rfl (Nat.le_of_ble_eq_true rfl) dL_isCatalogue_138 ⟨cq_f1 (by omega), cq_f2 (by omega)⟩ hT hlocks (fun E h9 => absurd (h9.symm.trans ((f6 r (by omega) hix).1 k hk)) (by simp)) (by omega) (by omega) (fun r_60 q_59 => ?_)
                    obtain rfl : r_60 = nI (kx (qv r) k) - 1 := Sum.inr.inj (q_59.symm.trans ((f6 r (by omega) hix).1 k hk))
                    change W _ _ _ _ _ _ _ _ _ _ _ _ _ _ _ (F0 m 141 _ (.int (nI (kx (qv r) k) - 1) :: []))
                    refine lv_aload_n hx hb dL_isCatalogue_141 rfl (lv_at hl 1 rfl) ?_
                    refine lv_iload hx hb dL_isCatalogue_142 (lv_at hl 8 rfl) ?_
                    refine va_lald hx hb hG.1 hP 58 2 rfl rfl (inb_in (inb_n (show r < 40 by omega) (by decide))) dL_isCatalogue_144 ?_
                    refine lv_topl (fun w_61 ew_61 => ?_)
                    obtain rfl : w_61 = qv r := ew_61.trans (congrArg qv (ncl (show r < 2147483648 by omega)))
                    refine lv_iload hx hb dL_isCatalogue_145 (lv_at hl 10 rfl) ?_
                    refine cq_RS (R := (cq_rx 8 970 5820 163)) (args := ([.ref o0, .ref qvb, .ref qhb, .ref qnb, .ref qtb, .ref qub] : List Value).toArray) (y := yL_key) (bytes := cL_key) (cc := cL_isCatalogue) (maxL := 3) (nL := 12) (n := 2) (index := 21) (ret := (some .int)) (ws := wsL_key) (rm := cq_rm 0 0) (Ts := wsL_isCatalogue) (own := RL) (D := D) (Y := Y) (W0 := ([] : va_W)) (wl := cl_ldr o0 (ast 0) (ald 0) (ahi 0) (act 0) (acd 0) ++ (cl_set Y ast st ++ (cl_lod Y ald ld ++ (cl_his Y ahi hi ++ (cl_cat Y act ct ++ (cl_cat Y acd cd ++ (cl_lar Y qvb 40 qv ++ (cl_arr Y qhb 40 qh ++ (cl_arr Y qnb 4 qn ++ (cl_arr Y qtb 40 qt ++ (cl_arr Y qub 1 qu))))))))))) (v := some (.int (m_L_key (qv r) (nI k)))) (st0 := [.int (nI k), .long (qv r), .int (nI (kx (qv r) k) - 1)]) (As := [.long (qv r), .int (nI k)]) (rest := [.int (nI (kx (qv r) k) - 1)]) ⟨hx, hb, hml, hown, hts⟩ (ct_L_key l D Y  (qv r) (nI k)) (va_cwS 2 hts gL_isCatalogue_L_key rfl rfl rfl (by decide +kernel) ⟨Nat.le_of_ble_eq_true rfl, Nat.le_of_ble_eq_true rfl⟩) hG hP hD [] rfl (by decide +kernel) rfl hl.1 rfl (Nat.le_of_ble_eq_true rfl) dL_isCatalogue_147 ⟨cq_f1 (by omega), cq_f2 (by omega)⟩ ?_
                    change W _ _ _ _ _ _ _ _ _ _ _ _ _ _ _ (F0 m 150 _ (.int (m_L_key (qv r) (nI k)) :: [.int (nI (kx (qv r) k) - 1)]))
                    refine lv_topi (fun w_62 ew_62 => ?_)
                    obtain rfl : w_62 = nI (kx (qv r) k) := ew_62.trans (L_key hk)
                    refine lv_iconst (v := 1) hx hb dL_isCatalogue_150 (by decide) ?_
                    refine lv_isub hx hb dL_isCatalogue_151 ?_
                    refine lv_icmp_ne (tgt := 159) hx hb dL_isCatalogue_152 (by decide) (fun c_63 => ?_) (fun c_63 => ?_)
                    · exact absurd (Eq.refl (nI (kx (qv r) k) - 1)) c_63
                    · refine lv_iconst (v := 1) hx hb dL_isCatalogue_155 (by decide) ?_
                      refine lv_goto (tgt := 160) hx hb dL_isCatalogue_156 (by decide) ?_
                      refine lv_istore (lv' := [(7, .int 1), (0, .ref o0), (1, .ref qvb), (2, .ref qhb), (3, .ref qnb), (4, .ref qtb), (5, .ref qub), (6, .int (dgl qv qh r)), (8, .int (nI r)), (9, .int (owK (qv r) k)), (10, .int (nI k))]) hx hb dL_isCatalogue_160 hl (by decide) rfl (fun ls hl => ?_)
                      refine lv_iload hx hb dL_isCatalogue_162 (lv_at hl 9 rfl) ?_
                      refine lv_aload_n hx hb dL_isCatalogue_164 rfl (lv_at hl 2 rfl) ?_
                      refine lv_iload hx hb dL_isCatalogue_165 (lv_at hl 8 rfl) ?_
                      refine va_lald hx hb hG.1 hP 58 2 rfl rfl (inb_in (inb_n (show r < 40 by omega) (by decide))) dL_isCatalogue_167 ?_
                      refine lv_topl (fun w_64 ew_64 => ?_)
                      obtain rfl : w_64 = qv r := ew_64.trans (congrArg qv (ncl (show r < 2147483648 by omega)))
                      refine lv_iload hx hb dL_isCatalogue_168 (lv_at hl 10 rfl) ?_
                      refine cq_RS (R := (cq_rx 8 970 5820 163)) (args := ([.ref o0, .ref qvb, .ref qhb, .ref qnb, .ref qtb, .ref qub] : List Value).toArray) (y := yL_key) (bytes := cL_key) (cc := cL_isCatalogue) (maxL := 3) (nL := 12) (n := 2) (index := 21) (ret := (some .int)) (ws := wsL_key) (rm := cq_rm 0 0) (Ts := wsL_isCatalogue) (own := RL) (D := D) (Y := Y) (W0 := ([] : va_W)) (wl := cl_ldr o0 (ast 0) (ald 0) (ahi 0) (act 0) (acd 0) ++ (cl_set Y ast st ++ (cl_lod Y ald ld ++ (cl_his Y ahi hi ++ (cl_cat Y act ct ++ (cl_cat Y acd cd ++ (cl_lar Y qvb 40 qv ++ (cl_arr Y qhb 40 qh ++ (cl_arr Y qnb 4 qn ++ (cl_arr Y qtb 40 qt ++ (cl_arr Y qub 1 qu))))))))))) (v := some (.int (m_L_key (qv r) (nI k)))) (st0 := [.int (nI k), .long (qv r), .int (owK (qv r) k)]) (As := [.long (qv r), .int (nI k)]) (rest := [.int (owK (qv r) k)]) ⟨hx, hb, hml, hown, hts⟩ (ct_L_key l D Y  (qv r) (nI k)) (va_cwS 2 hts gL_isCatalogue_L_key rfl rfl rfl (by decide +kernel) ⟨Nat.le_of_ble_eq_true rfl, Nat.le_of_ble_eq_true rfl⟩) hG hP hD [] rfl (by decide +kernel) rfl hl.1 rfl (Nat.le_of_ble_eq_true rfl) dL_isCatalogue_170 ⟨cq_f1 (by omega), cq_f2 (by omega)⟩ ?_
                      change W _ _ _ _ _ _ _ _ _ _ _ _ _ _ _ (F0 m 173 _ (.int (m_L_key (qv r) (nI k)) :: [.int (owK (qv r) k)]))
                      refine lv_topi (fun w_65 ew_65 => ?_)
                      obtain rfl : w_65 = nI (kx (qv r) k) := ew_65.trans (L_key hk)
                      refine lv_if_ne (tgt := 180) hx hb dL_isCatalogue_173 (by decide) (fun c_66 => ?_) (fun c_66 => ?_)
                      · refine lv_aload_n hx hb dL_isCatalogue_180 rfl (lv_at hl 2 rfl) ?_
                        refine lv_iload hx hb dL_isCatalogue_181 (lv_at hl 8 rfl) ?_
                        refine va_lald hx hb hG.1 hP 58 2 rfl rfl (inb_in (inb_n (show r < 40 by omega) (by decide))) dL_isCatalogue_183 ?_
                        refine lv_topl (fun w_67 ew_67 => ?_)
                        obtain rfl : w_67 = qv r := ew_67.trans (congrArg qv (ncl (show r < 2147483648 by omega)))
                        refine lv_iload hx hb dL_isCatalogue_184 (lv_at hl 10 rfl) ?_
                        refine cq_RS (R := (cq_rx 8 970 5820 163)) (args := ([.ref o0, .ref qvb, .ref qhb, .ref qnb, .ref qtb, .ref qub] : List Value).toArray) (y := yL_key) (bytes := cL_key) (cc := cL_isCatalogue) (maxL := 3) (nL := 12) (n := 2) (index := 21) (ret := (some .int)) (ws := wsL_key) (rm := cq_rm 0 0) (Ts := wsL_isCatalogue) (own := RL) (D := D) (Y := Y) (W0 := ([] : va_W)) (wl := cl_ldr o0 (ast 0) (ald 0) (ahi 0) (act 0) (acd 0) ++ (cl_set Y ast st ++ (cl_lod Y ald ld ++ (cl_his Y ahi hi ++ (cl_cat Y act ct ++ (cl_cat Y acd cd ++ (cl_lar Y qvb 40 qv ++ (cl_arr Y qhb 40 qh ++ (cl_arr Y qnb 4 qn ++ (cl_arr Y qtb 40 qt ++ (cl_arr Y qub 1 qu))))))))))) (v := some (.int (m_L_key (qv r) (nI k)))) (st0 := [.int (nI k), .long (qv r), .int (owK (qv r) k)]) (As := [.long (qv r), .int (nI k)]) (rest := [.int (owK (qv r) k)]) ⟨hx, hb, hml, hown, hts⟩ (ct_L_key l D Y  (qv r) (nI k)) (va_cwS 2 hts gL_isCatalogue_L_key rfl rfl rfl (by decide +kernel) ⟨Nat.le_of_ble_eq_true rfl, Nat.le_of_ble_eq_true rfl⟩) hG hP hD [] rfl (by decide +kernel) rfl hl.1 rfl (Nat.le_of_ble_eq_true rfl) dL_isCatalogue_186 ⟨cq_f1 (by omega), cq_f2 (by omega)⟩ ?_
                        change W _ _ _ _ _ _ _ _ _ _ _ _ _ _ _ (F0 m 189 _ (.int (m_L_key (qv r) (nI k)) :: [.int (owK (qv r) k)]))
                        refine lv_topi (fun w_68 ew_68 => ?_)
                        obtain rfl : w_68 = nI (kx (qv r) k) := ew_68.trans (L_key hk)
                        refine lv_iconst (v := 1) hx hb dL_isCatalogue_189 (by decide) ?_
                        refine lv_isub hx hb dL_isCatalogue_190 ?_
                        refine lv_iadd hx hb dL_isCatalogue_191 ?_
                        refine lv_topi (fun w_69 ew_69 => ?_)
                        obtain rfl : w_69 = owK (qv r) (k + 1) := ew_69.trans (show _ = owK (qv r) k + (if kx (qv r) k = 0 then 0 else nI (kx (qv r) k) - 1) by rw [if_neg hz])
                        refine lv_istore (lv' := [(9, .int (owK (qv r) (k + 1))), (7, .int 1), (0, .ref o0), (1, .ref qvb), (2, .ref qhb), (3, .ref qnb), (4, .ref qtb), (5, .ref qub), (6, .int (dgl qv qh r)), (8, .int (nI r)), (10, .int (nI k))]) hx hb dL_isCatalogue_192 hl (by decide) rfl (fun ls hl => ?_)
                        refine lv_iinc (v := nI (k + 1)) (lv' := [(10, .int (nI (k + 1))), (9, .int (owK (qv r) (k + 1))), (7, .int 1), (0, .ref o0), (1, .ref qvb), (2, .ref qhb), (3, .ref qnb), (4, .ref qtb), (5, .ref qub), (6, .int (dgl qv qh r)), (8, .int (nI r))]) hx hb dL_isCatalogue_194 hl (k := 10) rfl (nI_1 k) (by decide) rfl (fun ls hl => ?_)
                        refine lv_goto (tgt := 122) hx hb dL_isCatalogue_197 (by decide) ?_
                        exact W.widen (by omega) (by omega) (ihK (k + 1) ls (by omega) (lv_sub hl [3, 4, 5, 6, 7, 8, 9, 2, 10, 1, 0] rfl))
                      · exact absurd c_66 (fun h9 => hz ((n0 (by have := kx_lt (x := qv r) (k := k); omega)).mp h9))
          refine lv_iconst (v := 1) hx hb dL_isCatalogue_94 (by decide) ?_
          refine lv_goto (tgt := 99) hx hb dL_isCatalogue_95 (by decide) ?_
          refine lv_istore (lv' := [(7, .int 1), (0, .ref o0), (1, .ref qvb), (2, .ref qhb), (3, .ref qnb), (4, .ref qtb), (5, .ref qub), (6, .int (dgl qv qh r)), (8, .int (nI r))]) hx hb dL_isCatalogue_99 hl (by decide) rfl (fun ls hl => ?_)
          refine lv_iload hx hb dL_isCatalogue_101 (lv_at hl 0 rfl) ?_
          refine lv_if_eq (tgt := 342) hx hb dL_isCatalogue_103 (by decide) (fun c_5 => ?_) (fun c_5 => ?_)
          · exact absurd c_5 (by decide)
          · refine lv_aload_n hx hb dL_isCatalogue_106 rfl (lv_at hl 2 rfl) ?_
            refine lv_iload hx hb dL_isCatalogue_107 (lv_at hl 8 rfl) ?_
            refine va_lald hx hb hG.1 hP 58 2 rfl rfl (inb_in (inb_n (show r < 40 by omega) (by decide))) dL_isCatalogue_109 ?_
            refine lv_topl (fun w_6 ew_6 => ?_)
            obtain rfl : w_6 = qv r := ew_6.trans (congrArg qv (ncl (show r < 2147483648 by omega)))
            refine cq_RS (R := (cq_rx 8 970 5820 163)) (args := ([.ref o0, .ref qvb, .ref qhb, .ref qnb, .ref qtb, .ref qub] : List Value).toArray) (y := yL_isIn) (bytes := cL_isIn) (cc := cL_isCatalogue) (maxL := 2) (nL := 12) (n := 1) (index := 15) (ret := (some .boolean)) (ws := wsL_isIn) (rm := cq_rm 0 0) (Ts := wsL_isCatalogue) (own := RL) (D := D) (Y := Y) (W0 := ([] : va_W)) (wl := cl_ldr o0 (ast 0) (ald 0) (ahi 0) (act 0) (acd 0) ++ (cl_set Y ast st ++ (cl_lod Y ald ld ++ (cl_his Y ahi hi ++ (cl_cat Y act ct ++ (cl_cat Y acd cd ++ (cl_lar Y qvb 40 qv ++ (cl_arr Y qhb 40 qh ++ (cl_arr Y qnb 4 qn ++ (cl_arr Y qtb 40 qt ++ (cl_arr Y qub 1 qu))))))))))) (v := some (.int (m_L_isIn (qv r)))) (st0 := [.long (qv r)]) (As := [.long (qv r)]) (rest := []) ⟨hx, hb, hml, hown, hts⟩ (ct_L_isIn l D Y  (qv r)) (va_cwS 1 hts gL_isCatalogue_L_isIn rfl rfl rfl (by decide +kernel) ⟨Nat.le_of_ble_eq_true rfl, Nat.le_of_ble_eq_true rfl⟩) hG hP hD [] rfl (by decide +kernel) rfl hl.1 rfl (Nat.le_of_ble_eq_true rfl) dL_isCatalogue_110 ⟨cq_f1 (by omega), cq_f2 (by omega)⟩ ?_
            change W _ _ _ _ _ _ _ _ _ _ _ _ _ _ _ (F0 m 113 _ (.int (m_L_isIn (qv r)) :: []))
            refine lv_topi (fun w_7 ew_7 => ?_)
            obtain rfl : w_7 = 1 := ew_7.trans (L_isIn.trans (by rw [hix]; rfl))
            refine lv_if_eq (tgt := 342) hx hb dL_isCatalogue_113 (by decide) (fun c_8 => ?_) (fun c_8 => ?_)
            · exact absurd c_8 (by decide)
            · refine lv_iconst (v := 0) hx hb dL_isCatalogue_116 (by decide) ?_
              refine lv_istore (lv' := [(9, .int 0), (7, .int 1), (0, .ref o0), (1, .ref qvb), (2, .ref qhb), (3, .ref qnb), (4, .ref qtb), (5, .ref qub), (6, .int (dgl qv qh r)), (8, .int (nI r))]) hx hb dL_isCatalogue_117 hl (by decide) rfl (fun ls hl => ?_)
              refine lv_iconst (v := 0) hx hb dL_isCatalogue_119 (by decide) ?_
              refine lv_istore (lv' := [(10, .int 0), (9, .int 0), (7, .int 1), (0, .ref o0), (1, .ref qvb), (2, .ref qhb), (3, .ref qnb), (4, .ref qtb), (5, .ref qub), (6, .int (dgl qv qh r)), (8, .int (nI r))]) hx hb dL_isCatalogue_120 hl (by decide) rfl (fun ls hl => ?_)
              exact lpK 3 0 ls rfl (lv_sub hl [3, 4, 5, 6, 7, 8, 9, 2, 10, 1, 0] rfl)
        · refine lv_iconst (v := 1) hx hb dL_isCatalogue_94 (by decide) ?_
          refine lv_goto (tgt := 99) hx hb dL_isCatalogue_95 (by decide) ?_
          refine lv_istore (lv' := [(7, .int 1), (0, .ref o0), (1, .ref qvb), (2, .ref qhb), (3, .ref qnb), (4, .ref qtb), (5, .ref qub), (6, .int (dgl qv qh r)), (8, .int (nI r))]) hx hb dL_isCatalogue_99 hl (by decide) rfl (fun ls hl => ?_)
          refine lv_iload hx hb dL_isCatalogue_101 (lv_at hl 0 rfl) ?_
          refine lv_if_eq (tgt := 342) hx hb dL_isCatalogue_103 (by decide) (fun c_1 => ?_) (fun c_1 => ?_)
          · exact absurd c_1 (by decide)
          · refine lv_aload_n hx hb dL_isCatalogue_106 rfl (lv_at hl 2 rfl) ?_
            refine lv_iload hx hb dL_isCatalogue_107 (lv_at hl 8 rfl) ?_
            refine va_lald hx hb hG.1 hP 58 2 rfl rfl (inb_in (inb_n (show r < 40 by omega) (by decide))) dL_isCatalogue_109 ?_
            refine lv_topl (fun w_2 ew_2 => ?_)
            obtain rfl : w_2 = qv r := ew_2.trans (congrArg qv (ncl (show r < 2147483648 by omega)))
            refine cq_RS (R := (cq_rx 8 970 5820 163)) (args := ([.ref o0, .ref qvb, .ref qhb, .ref qnb, .ref qtb, .ref qub] : List Value).toArray) (y := yL_isIn) (bytes := cL_isIn) (cc := cL_isCatalogue) (maxL := 2) (nL := 12) (n := 1) (index := 15) (ret := (some .boolean)) (ws := wsL_isIn) (rm := cq_rm 0 0) (Ts := wsL_isCatalogue) (own := RL) (D := D) (Y := Y) (W0 := ([] : va_W)) (wl := cl_ldr o0 (ast 0) (ald 0) (ahi 0) (act 0) (acd 0) ++ (cl_set Y ast st ++ (cl_lod Y ald ld ++ (cl_his Y ahi hi ++ (cl_cat Y act ct ++ (cl_cat Y acd cd ++ (cl_lar Y qvb 40 qv ++ (cl_arr Y qhb 40 qh ++ (cl_arr Y qnb 4 qn ++ (cl_arr Y qtb 40 qt ++ (cl_arr Y qub 1 qu))))))))))) (v := some (.int (m_L_isIn (qv r)))) (st0 := [.long (qv r)]) (As := [.long (qv r)]) (rest := []) ⟨hx, hb, hml, hown, hts⟩ (ct_L_isIn l D Y  (qv r)) (va_cwS 1 hts gL_isCatalogue_L_isIn rfl rfl rfl (by decide +kernel) ⟨Nat.le_of_ble_eq_true rfl, Nat.le_of_ble_eq_true rfl⟩) hG hP hD [] rfl (by decide +kernel) rfl hl.1 rfl (Nat.le_of_ble_eq_true rfl) dL_isCatalogue_110 ⟨cq_f1 (by omega), cq_f2 (by omega)⟩ ?_
            change W _ _ _ _ _ _ _ _ _ _ _ _ _ _ _ (F0 m 113 _ (.int (m_L_isIn (qv r)) :: []))
            refine lv_topi (fun w_3 ew_3 => ?_)
            obtain rfl : w_3 = 0 := ew_3.trans (L_isIn.trans (by rw [show ix (qv r) = 0 by have := ix_lt (x := qv r); omega]; rfl))
            refine lv_if_eq (tgt := 342) hx hb dL_isCatalogue_113 (by decide) (fun c_4 => ?_) (fun c_4 => ?_)
            · refine lv_iinc (v := nI (r + 1)) (lv' := [(8, .int (nI (r + 1))), (7, .int 1), (0, .ref o0), (1, .ref qvb), (2, .ref qhb), (3, .ref qnb), (4, .ref qtb), (5, .ref qub), (6, .int (dgl qv qh r))]) hx hb dL_isCatalogue_342 hl (k := 8) rfl (nI_1 r) (by decide) rfl (fun ls hl => ?_)
              refine lv_goto (tgt := 44) hx hb dL_isCatalogue_345 (by decide) ?_
              have ih9 := ihR (r + 1) ls (by omega)
              rw [show dgl qv qh (r + 1) = dgl qv qh r from if_neg hix] at ih9
              exact W.widen (by omega) (by omega) (ih9 (lv_sub hl [2, 3, 4, 5, 6, 7, 8, 1, 0] rfl))
            · exact absurd c_4 (by decide)
      by_cases hrn : n ≤ r
      · refine lv_iload hx hb dL_isCatalogue_44 (lv_at hl 8 rfl) ?_
        refine lv_bipush (v := 40) hx hb dL_isCatalogue_46 (by decide) ?_
        refine lv_icmp_ge (tgt := 348) hx hb dL_isCatalogue_48 (by decide) (fun c_70 => ?_) (fun c_70 => ?_)
        · exact absurd c_70 (nI_ge (a := r) (b := 40) (by omega) (by decide))
        · refine lv_iload hx hb dL_isCatalogue_51 (lv_at hl 7 rfl) ?_
          refine lv_if_eq (tgt := 348) hx hb dL_isCatalogue_53 (by decide) (fun c_71 => ?_) (fun c_71 => ?_)
          · exact absurd c_71 (by decide)
          · refine lv_aload_n hx hb dL_isCatalogue_56 rfl (lv_at hl 0 rfl) ?_
            refine lv_iload hx hb dL_isCatalogue_57 (lv_at hl 8 rfl) ?_
            refine cq_RV (R := (cq_rx 8 970 5820 163)) (args := ([.ref o0, .ref qvb, .ref qhb, .ref qnb, .ref qtb, .ref qub] : List Value).toArray) (y := yX6_isThere) (bytes := cX6_isThere) (cc := cL_isCatalogue) (maxL := 2) (nL := 12) (n := 1) (index := 110) (ret := (some .boolean)) (ws := wsX6_isThere) (rm := cq_rm 2 42) (Ts := wsL_isCatalogue) (own := RL) (D := D) (Y := Y) (W0 := cl_ldr o0 (ast 0) (ald 0) (ahi 0) (act 0) (acd 0) ++ (cl_set Y ast st ++ (cl_lod Y ald ld ++ (cl_his Y ahi hi ++ (cl_cat Y act ct ++ (cl_cat Y acd cd)))))) (wl := cl_ldr o0 (ast 0) (ald 0) (ahi 0) (act 0) (acd 0) ++ (cl_set Y ast st ++ (cl_lod Y ald ld ++ (cl_his Y ahi hi ++ (cl_cat Y act ct ++ (cl_cat Y acd cd ++ (cl_lar Y qvb 40 qv ++ (cl_arr Y qhb 40 qh ++ (cl_arr Y qnb 4 qn ++ (cl_arr Y qtb 40 qt ++ (cl_arr Y qub 1 qu))))))))))) (v := some (.int (m_X6_isThere st ld hi ct cd (nI r)))) (st0 := [.int (nI r), .ref o0]) (As := [.int (nI r)]) (rest := []) (C := RX6) (b := o0) ⟨hx, hb, hml, hown, hts⟩ (ct_X6_isThere l D Y o0 ast st ald ld ahi hi act ct acd cd (nI r)) (cwV 1 hts gL_isCatalogue_X6_isThere rfl rfl rfl (by decide +kernel) ⟨Nat.le_of_ble_eq_true rfl, Nat.le_of_ble_eq_true rfl⟩) hG hP hD [0, 1, 2, 3, 4, 5, 6, 7, 8, 9, 10, 11, 12, 13, 14, 15, 16, 17, 18, 19, 20, 21, 22, 23, 24, 25, 26, 27, 28, 29, 30, 31, 32, 33, 34, 35, 36, 37, 38, 39, 40, 41, 42, 43, 44, 45, 46, 47, 48, 49, 50, 51, 52, 53, 54, 55, 56, 57] rfl (by decide +kernel) 0 6 (qc := (RX6, TX6, 5)) (fs := [.ref (ast 0), .ref (ald 0), .ref (ahi 0), .ref (act 0), .ref (acd 0)]) rfl rfl rfl rfl hl.1 rfl (Nat.le_of_ble_eq_true rfl) dL_isCatalogue_59 ⟨cq_f1 (by omega), cq_f2 (by omega)⟩ ?_
            change W _ _ _ _ _ _ _ _ _ _ _ _ _ _ _ (F0 m 62 _ (.int (m_X6_isThere st ld hi ct cd (nI r)) :: []))
            refine lv_topi (fun w_72 ew_72 => ?_)
            obtain rfl : w_72 = nI (ix (qv r)) := ew_72.trans (f4 r (by omega))
            refine lv_aload_n hx hb dL_isCatalogue_62 rfl (lv_at hl 1 rfl) ?_
            refine lv_iload hx hb dL_isCatalogue_63 (lv_at hl 8 rfl) ?_
            refine va_lald hx hb hG.1 hP 58 2 rfl rfl (inb_in (inb_n (show r < 40 by omega) (by decide))) dL_isCatalogue_65 ?_
            refine lv_topl (fun w_73 ew_73 => ?_)
            obtain rfl : w_73 = qv r := ew_73.trans (congrArg qv (ncl (show r < 2147483648 by omega)))
            refine cq_RS (R := (cq_rx 8 970 5820 163)) (args := ([.ref o0, .ref qvb, .ref qhb, .ref qnb, .ref qtb, .ref qub] : List Value).toArray) (y := yL_isIn) (bytes := cL_isIn) (cc := cL_isCatalogue) (maxL := 2) (nL := 12) (n := 1) (index := 15) (ret := (some .boolean)) (ws := wsL_isIn) (rm := cq_rm 0 0) (Ts := wsL_isCatalogue) (own := RL) (D := D) (Y := Y) (W0 := ([] : va_W)) (wl := cl_ldr o0 (ast 0) (ald 0) (ahi 0) (act 0) (acd 0) ++ (cl_set Y ast st ++ (cl_lod Y ald ld ++ (cl_his Y ahi hi ++ (cl_cat Y act ct ++ (cl_cat Y acd cd ++ (cl_lar Y qvb 40 qv ++ (cl_arr Y qhb 40 qh ++ (cl_arr Y qnb 4 qn ++ (cl_arr Y qtb 40 qt ++ (cl_arr Y qub 1 qu))))))))))) (v := some (.int (m_L_isIn (qv r)))) (st0 := [.long (qv r), .int (nI (ix (qv r)))]) (As := [.long (qv r)]) (rest := [.int (nI (ix (qv r)))]) ⟨hx, hb, hml, hown, hts⟩ (ct_L_isIn l D Y  (qv r)) (va_cwS 1 hts gL_isCatalogue_L_isIn rfl rfl rfl (by decide +kernel) ⟨Nat.le_of_ble_eq_true rfl, Nat.le_of_ble_eq_true rfl⟩) hG hP hD [] rfl (by decide +kernel) rfl hl.1 rfl (Nat.le_of_ble_eq_true rfl) dL_isCatalogue_66 ⟨cq_f1 (by omega), cq_f2 (by omega)⟩ ?_
            change W _ _ _ _ _ _ _ _ _ _ _ _ _ _ _ (F0 m 69 _ (.int (m_L_isIn (qv r)) :: [.int (nI (ix (qv r)))]))
            refine lv_topi (fun w_74 ew_74 => ?_)
            obtain rfl : w_74 = nI (ix (qv r)) := ew_74.trans L_isIn
            refine lv_icmp_ne (tgt := 98) hx hb dL_isCatalogue_69 (by decide) (fun c_75 => ?_) (fun c_75 => ?_)
            · exact absurd (Eq.refl (nI (ix (qv r)))) c_75
            · refine lv_iload hx hb dL_isCatalogue_72 (lv_at hl 8 rfl) ?_
              refine lv_aload_n hx hb dL_isCatalogue_74 rfl (lv_at hl 3 rfl) ?_
              refine lv_iconst (v := 1) hx hb dL_isCatalogue_75 (by decide) ?_
              refine va_iald hx hb hG.1 hP 60 0 rfl rfl (inb_in (by decide)) dL_isCatalogue_76 ?_
              refine lv_topi (fun w_76 ew_76 => ?_)
              obtain rfl : w_76 = nI n := ew_76.trans ((congrArg qn cl1).trans w1)
              refine lv_icmp_ge (tgt := 94) hx hb dL_isCatalogue_77 (by decide) (fun c_77 => ?_) (fun c_77 => ?_)
              · exact W.widen (by omega) (by omega) (k94 ls (lv_sub hl [0, 1, 2, 3, 4, 5, 6, 7, 8] rfl))
              · exact absurd (nI_le hrn (by omega)) c_77
      · refine lv_iload hx hb dL_isCatalogue_44 (lv_at hl 8 rfl) ?_
        refine lv_bipush (v := 40) hx hb dL_isCatalogue_46 (by decide) ?_
        refine lv_icmp_ge (tgt := 348) hx hb dL_isCatalogue_48 (by decide) (fun c_78 => ?_) (fun c_78 => ?_)
        · exact absurd c_78 (nI_ge (a := r) (b := 40) (by omega) (by decide))
        · refine lv_iload hx hb dL_isCatalogue_51 (lv_at hl 7 rfl) ?_
          refine lv_if_eq (tgt := 348) hx hb dL_isCatalogue_53 (by decide) (fun c_79 => ?_) (fun c_79 => ?_)
          · exact absurd c_79 (by decide)
          · refine lv_aload_n hx hb dL_isCatalogue_56 rfl (lv_at hl 0 rfl) ?_
            refine lv_iload hx hb dL_isCatalogue_57 (lv_at hl 8 rfl) ?_
            refine cq_RV (R := (cq_rx 8 970 5820 163)) (args := ([.ref o0, .ref qvb, .ref qhb, .ref qnb, .ref qtb, .ref qub] : List Value).toArray) (y := yX6_isThere) (bytes := cX6_isThere) (cc := cL_isCatalogue) (maxL := 2) (nL := 12) (n := 1) (index := 110) (ret := (some .boolean)) (ws := wsX6_isThere) (rm := cq_rm 2 42) (Ts := wsL_isCatalogue) (own := RL) (D := D) (Y := Y) (W0 := cl_ldr o0 (ast 0) (ald 0) (ahi 0) (act 0) (acd 0) ++ (cl_set Y ast st ++ (cl_lod Y ald ld ++ (cl_his Y ahi hi ++ (cl_cat Y act ct ++ (cl_cat Y acd cd)))))) (wl := cl_ldr o0 (ast 0) (ald 0) (ahi 0) (act 0) (acd 0) ++ (cl_set Y ast st ++ (cl_lod Y ald ld ++ (cl_his Y ahi hi ++ (cl_cat Y act ct ++ (cl_cat Y acd cd ++ (cl_lar Y qvb 40 qv ++ (cl_arr Y qhb 40 qh ++ (cl_arr Y qnb 4 qn ++ (cl_arr Y qtb 40 qt ++ (cl_arr Y qub 1 qu))))))))))) (v := some (.int (m_X6_isThere st ld hi ct cd (nI r)))) (st0 := [.int (nI r), .ref o0]) (As := [.int (nI r)]) (rest := []) (C := RX6) (b := o0) ⟨hx, hb, hml, hown, hts⟩ (ct_X6_isThere l D Y o0 ast st ald ld ahi hi act ct acd cd (nI r)) (cwV 1 hts gL_isCatalogue_X6_isThere rfl rfl rfl (by decide +kernel) ⟨Nat.le_of_ble_eq_true rfl, Nat.le_of_ble_eq_true rfl⟩) hG hP hD [0, 1, 2, 3, 4, 5, 6, 7, 8, 9, 10, 11, 12, 13, 14, 15, 16, 17, 18, 19, 20, 21, 22, 23, 24, 25, 26, 27, 28, 29, 30, 31, 32, 33, 34, 35, 36, 37, 38, 39, 40, 41, 42, 43, 44, 45, 46, 47, 48, 49, 50, 51, 52, 53, 54, 55, 56, 57] rfl (by decide +kernel) 0 6 (qc := (RX6, TX6, 5)) (fs := [.ref (ast 0), .ref (ald 0), .ref (ahi 0), .ref (act 0), .ref (acd 0)]) rfl rfl rfl rfl hl.1 rfl (Nat.le_of_ble_eq_true rfl) dL_isCatalogue_59 ⟨cq_f1 (by omega), cq_f2 (by omega)⟩ ?_
            change W _ _ _ _ _ _ _ _ _ _ _ _ _ _ _ (F0 m 62 _ (.int (m_X6_isThere st ld hi ct cd (nI r)) :: []))
            refine lv_topi (fun w_80 ew_80 => ?_)
            obtain rfl : w_80 = nI (ix (qv r)) := ew_80.trans (f4 r (by omega))
            refine lv_aload_n hx hb dL_isCatalogue_62 rfl (lv_at hl 1 rfl) ?_
            refine lv_iload hx hb dL_isCatalogue_63 (lv_at hl 8 rfl) ?_
            refine va_lald hx hb hG.1 hP 58 2 rfl rfl (inb_in (inb_n (show r < 40 by omega) (by decide))) dL_isCatalogue_65 ?_
            refine lv_topl (fun w_81 ew_81 => ?_)
            obtain rfl : w_81 = qv r := ew_81.trans (congrArg qv (ncl (show r < 2147483648 by omega)))
            refine cq_RS (R := (cq_rx 8 970 5820 163)) (args := ([.ref o0, .ref qvb, .ref qhb, .ref qnb, .ref qtb, .ref qub] : List Value).toArray) (y := yL_isIn) (bytes := cL_isIn) (cc := cL_isCatalogue) (maxL := 2) (nL := 12) (n := 1) (index := 15) (ret := (some .boolean)) (ws := wsL_isIn) (rm := cq_rm 0 0) (Ts := wsL_isCatalogue) (own := RL) (D := D) (Y := Y) (W0 := ([] : va_W)) (wl := cl_ldr o0 (ast 0) (ald 0) (ahi 0) (act 0) (acd 0) ++ (cl_set Y ast st ++ (cl_lod Y ald ld ++ (cl_his Y ahi hi ++ (cl_cat Y act ct ++ (cl_cat Y acd cd ++ (cl_lar Y qvb 40 qv ++ (cl_arr Y qhb 40 qh ++ (cl_arr Y qnb 4 qn ++ (cl_arr Y qtb 40 qt ++ (cl_arr Y qub 1 qu))))))))))) (v := some (.int (m_L_isIn (qv r)))) (st0 := [.long (qv r), .int (nI (ix (qv r)))]) (As := [.long (qv r)]) (rest := [.int (nI (ix (qv r)))]) ⟨hx, hb, hml, hown, hts⟩ (ct_L_isIn l D Y  (qv r)) (va_cwS 1 hts gL_isCatalogue_L_isIn rfl rfl rfl (by decide +kernel) ⟨Nat.le_of_ble_eq_true rfl, Nat.le_of_ble_eq_true rfl⟩) hG hP hD [] rfl (by decide +kernel) rfl hl.1 rfl (Nat.le_of_ble_eq_true rfl) dL_isCatalogue_66 ⟨cq_f1 (by omega), cq_f2 (by omega)⟩ ?_
            change W _ _ _ _ _ _ _ _ _ _ _ _ _ _ _ (F0 m 69 _ (.int (m_L_isIn (qv r)) :: [.int (nI (ix (qv r)))]))
            refine lv_topi (fun w_82 ew_82 => ?_)
            obtain rfl : w_82 = nI (ix (qv r)) := ew_82.trans L_isIn
            refine lv_icmp_ne (tgt := 98) hx hb dL_isCatalogue_69 (by decide) (fun c_83 => ?_) (fun c_83 => ?_)
            · exact absurd (Eq.refl (nI (ix (qv r)))) c_83
            · refine lv_iload hx hb dL_isCatalogue_72 (lv_at hl 8 rfl) ?_
              refine lv_aload_n hx hb dL_isCatalogue_74 rfl (lv_at hl 3 rfl) ?_
              refine lv_iconst (v := 1) hx hb dL_isCatalogue_75 (by decide) ?_
              refine va_iald hx hb hG.1 hP 60 0 rfl rfl (inb_in (by decide)) dL_isCatalogue_76 ?_
              refine lv_topi (fun w_84 ew_84 => ?_)
              obtain rfl : w_84 = nI n := ew_84.trans ((congrArg qn cl1).trans w1)
              refine lv_icmp_ge (tgt := 94) hx hb dL_isCatalogue_77 (by decide) (fun c_85 => ?_) (fun c_85 => ?_)
              · exact absurd c_85 (nI_ge (by omega) (by omega))
              · refine lv_aload_n hx hb dL_isCatalogue_80 rfl (lv_at hl 0 rfl) ?_
                refine lv_iload hx hb dL_isCatalogue_81 (lv_at hl 8 rfl) ?_
                refine cq_XRV (R := (cq_rx 8 970 5820 163)) (args := ([.ref o0, .ref qvb, .ref qhb, .ref qnb, .ref qtb, .ref qub] : List Value).toArray) (y := yX6_hit) (bytes := cX6_hit) (cc := cL_isCatalogue) (maxL := 2) (nL := 12) (n := 1) (index := 114) (ret := (some .int)) (ws := wsX6_hit) (rm := cq_rx 7 1 6 103) (Ts := wsL_isCatalogue) (own := RL) (D := D) (Y := Y) (W0 := cl_ldr o0 (ast 0) (ald 0) (ahi 0) (act 0) (acd 0) ++ (cl_set Y ast st ++ (cl_lod Y ald ld ++ (cl_his Y ahi hi ++ (cl_cat Y act ct ++ (cl_cat Y acd cd)))))) (wl := cl_ldr o0 (ast 0) (ald 0) (ahi 0) (act 0) (acd 0) ++ (cl_set Y ast st ++ (cl_lod Y ald ld ++ (cl_his Y ahi hi ++ (cl_cat Y act ct ++ (cl_cat Y acd cd ++ (cl_lar Y qvb 40 qv ++ (cl_arr Y qhb 40 qh ++ (cl_arr Y qnb 4 qn ++ (cl_arr Y qtb 40 qt ++ (cl_arr Y qub 1 qu))))))))))) (v := fun r => some (.int r)) (st0 := [.int (nI r), .ref o0]) (As := [.int (nI r)]) (rest := []) (C := RX6) (b := o0) (α := Int32) (tot := m_X6_hit st ld hi ct cd (nI r)) (mc := 1) (ms := 6) (mc0 := 970) (ms0 := 5820) (T0 := (Sum.inr () : String ⊕ Unit)) (Qc := cq_QX (Sum.inr () : String ⊕ Unit) (fun _ => cq_W D (some (.int 1)) (cl_ldr o0 (ast 0) (ald 0) (ahi 0) (act 0) (acd 0) ++ (cl_set Y ast st ++ (cl_lod Y ald ld ++ (cl_his Y ahi hi ++ (cl_cat Y act ct ++ (cl_cat Y acd cd ++ (cl_lar Y qvb 40 qv ++ (cl_arr Y qhb 40 qh ++ (cl_arr Y qnb 4 qn ++ (cl_arr Y qtb 40 qt ++ (cl_arr Y qub 1 qu))))))))))) (cl_ldr o0 (ast 0) (ald 0) (ahi 0) (act 0) (acd 0) ++ (cl_set Y ast st ++ (cl_lod Y ald ld ++ (cl_his Y ahi hi ++ (cl_cat Y act ct ++ (cl_cat Y acd ((m_X6_digestAnew st ld hi ct cd).1) ++ (cl_lar Y qvb 40 qv ++ (cl_arr Y qhb 40 qh ++ (cl_arr Y qnb 4 qn ++ (cl_arr Y qtb 40 qt ++ (cl_arr Y qub 1 qu))))))))))))) ⟨hx, hb, hml, hown, hts⟩ (ct_X6_hit l D Y o0 ast st ald ld ahi hi act ct acd cd (nI r) hl0) (cwV 1 hts gL_isCatalogue_X6_hit rfl rfl rfl (by decide +kernel) ⟨Nat.le_of_ble_eq_true rfl, Nat.le_of_ble_eq_true rfl⟩) hG hP hD hEC [0, 1, 2, 3, 4, 5, 6, 7, 8, 9, 10, 11, 12, 13, 14, 15, 16, 17, 18, 19, 20, 21, 22, 23, 24, 25, 26, 27, 28, 29, 30, 31, 32, 33, 34, 35, 36, 37, 38, 39, 40, 41, 42, 43, 44, 45, 46, 47, 48, 49, 50, 51, 52, 53, 54, 55, 56, 57] rfl (by decide +kernel) 0 6 (qc := (RX6, TX6, 5)) (fs := [.ref (ast 0), .ref (ald 0), .ref (ahi 0), .ref (act 0), .ref (acd 0)]) rfl rfl rfl rfl hl.1 rfl (Nat.le_of_ble_eq_true rfl) dL_isCatalogue_83 ⟨cq_f1 (by omega), cq_f2 (by omega)⟩ hT hlocks (fun E h9 => absurd (h9.symm.trans (f5 r (by omega))) (by simp)) (by omega) (by omega) (fun r_87 q_86 => ?_)
                obtain rfl : r_87 = qt r := Sum.inr.inj (q_86.symm.trans (f5 r (by omega)))
                change W _ _ _ _ _ _ _ _ _ _ _ _ _ _ _ (F0 m 86 _ (.int (qt r) :: []))
                refine lv_aload hx hb dL_isCatalogue_86 (lv_at hl 4 rfl) ?_
                refine lv_iload hx hb dL_isCatalogue_88 (lv_at hl 8 rfl) ?_
                refine va_iald hx hb hG.1 hP 61 0 rfl rfl (inb_in (inb_n (show r < 40 by omega) (by decide))) dL_isCatalogue_90 ?_
                refine lv_topi (fun w_88 ew_88 => ?_)
                obtain rfl : w_88 = qt r := ew_88.trans (congrArg qt (ncl (show r < 2147483648 by omega)))
                refine lv_icmp_ne (tgt := 98) hx hb dL_isCatalogue_91 (by decide) (fun c_89 => ?_) (fun c_89 => ?_)
                · exact absurd (Eq.refl (qt r)) c_89
                · exact k94 ls (lv_sub hl [0, 1, 2, 3, 4, 5, 6, 7, 8] rfl)
  refine lv_iconst (v := 0) hx hb dL_isCatalogue_0 (by decide) ?_
  refine lv_istore (lv' := [(6, .int 0), (0, .ref o0), (1, .ref qvb), (2, .ref qhb), (3, .ref qnb), (4, .ref qtb), (5, .ref qub)]) hx hb dL_isCatalogue_1 hl (by decide) rfl (fun ls hl => ?_)
  refine lv_aload_n hx hb dL_isCatalogue_3 rfl (lv_at hl 1 rfl) ?_
  refine cq_RV (R := (cq_rx 8 970 5820 163)) (args := ([.ref o0, .ref qvb, .ref qhb, .ref qnb, .ref qtb, .ref qub] : List Value).toArray) (y := yX6_batches) (bytes := cX6_batches) (cc := cL_isCatalogue) (maxL := 1) (nL := 12) (n := 0) (index := 98) (ret := (some .int)) (ws := wsX6_batches) (rm := cq_rm 0 0) (Ts := wsL_isCatalogue) (own := RL) (D := D) (Y := Y) (W0 := cl_ldr o0 (ast 0) (ald 0) (ahi 0) (act 0) (acd 0) ++ (cl_set Y ast st ++ (cl_lod Y ald ld ++ (cl_his Y ahi hi ++ (cl_cat Y act ct ++ (cl_cat Y acd cd)))))) (wl := cl_ldr o0 (ast 0) (ald 0) (ahi 0) (act 0) (acd 0) ++ (cl_set Y ast st ++ (cl_lod Y ald ld ++ (cl_his Y ahi hi ++ (cl_cat Y act ct ++ (cl_cat Y acd cd ++ (cl_lar Y qvb 40 qv ++ (cl_arr Y qhb 40 qh ++ (cl_arr Y qnb 4 qn ++ (cl_arr Y qtb 40 qt ++ (cl_arr Y qub 1 qu))))))))))) (v := some (.int (m_X6_batches st ld hi ct cd))) (st0 := [.ref o0]) (As := []) (rest := []) (C := RX6) (b := o0) ⟨hx, hb, hml, hown, hts⟩ (ct_X6_batches l D Y o0 ast st ald ld ahi hi act ct acd cd ) (cwV 0 hts gL_isCatalogue_X6_batches rfl rfl rfl (by decide +kernel) ⟨Nat.le_of_ble_eq_true rfl, Nat.le_of_ble_eq_true rfl⟩) hG hP hD [0, 1, 2, 3, 4, 5, 6, 7, 8, 9, 10, 11, 12, 13, 14, 15, 16, 17, 18, 19, 20, 21, 22, 23, 24, 25, 26, 27, 28, 29, 30, 31, 32, 33, 34, 35, 36, 37, 38, 39, 40, 41, 42, 43, 44, 45, 46, 47, 48, 49, 50, 51, 52, 53, 54, 55, 56, 57] rfl (by decide +kernel) 0 6 (qc := (RX6, TX6, 5)) (fs := [.ref (ast 0), .ref (ald 0), .ref (ahi 0), .ref (act 0), .ref (acd 0)]) rfl rfl rfl rfl hl.1 rfl (Nat.le_of_ble_eq_true rfl) dL_isCatalogue_4 ⟨cq_f1 (by omega), cq_f2 (by omega)⟩ ?_
  change W _ _ _ _ _ _ _ _ _ _ _ _ _ _ _ (F0 m 7 _ (.int (m_X6_batches st ld hi ct cd) :: []))
  refine lv_topi (fun w_99 ew_99 => ?_)
  obtain rfl : w_99 = nI b := ew_99.trans f1
  refine lv_aload_n hx hb dL_isCatalogue_7 rfl (lv_at hl 4 rfl) ?_
  refine lv_iconst (v := 0) hx hb dL_isCatalogue_8 (by decide) ?_
  refine va_iald hx hb hG.1 hP 60 0 rfl rfl (inb_in (by decide)) dL_isCatalogue_9 ?_
  refine lv_topi (fun w_100 ew_100 => ?_)
  obtain rfl : w_100 = nI b := ew_100.trans ((congrArg qn cl0).trans w0)
  refine lv_icmp_ne (tgt := 38) hx hb dL_isCatalogue_10 (by decide) (fun c_101 => ?_) (fun c_101 => ?_)
  · exact absurd (Eq.refl (nI b)) c_101
  · refine lv_aload_n hx hb dL_isCatalogue_13 rfl (lv_at hl 1 rfl) ?_
    refine cq_RV (R := (cq_rx 8 970 5820 163)) (args := ([.ref o0, .ref qvb, .ref qhb, .ref qnb, .ref qtb, .ref qub] : List Value).toArray) (y := yX6_loads) (bytes := cX6_loads) (cc := cL_isCatalogue) (maxL := 1) (nL := 12) (n := 0) (index := 101) (ret := (some .int)) (ws := wsX6_loads) (rm := cq_rm 0 0) (Ts := wsL_isCatalogue) (own := RL) (D := D) (Y := Y) (W0 := cl_ldr o0 (ast 0) (ald 0) (ahi 0) (act 0) (acd 0) ++ (cl_set Y ast st ++ (cl_lod Y ald ld ++ (cl_his Y ahi hi ++ (cl_cat Y act ct ++ (cl_cat Y acd cd)))))) (wl := cl_ldr o0 (ast 0) (ald 0) (ahi 0) (act 0) (acd 0) ++ (cl_set Y ast st ++ (cl_lod Y ald ld ++ (cl_his Y ahi hi ++ (cl_cat Y act ct ++ (cl_cat Y acd cd ++ (cl_lar Y qvb 40 qv ++ (cl_arr Y qhb 40 qh ++ (cl_arr Y qnb 4 qn ++ (cl_arr Y qtb 40 qt ++ (cl_arr Y qub 1 qu))))))))))) (v := some (.int (m_X6_loads st ld hi ct cd))) (st0 := [.ref o0]) (As := []) (rest := []) (C := RX6) (b := o0) ⟨hx, hb, hml, hown, hts⟩ (ct_X6_loads l D Y o0 ast st ald ld ahi hi act ct acd cd ) (cwV 0 hts gL_isCatalogue_X6_loads rfl rfl rfl (by decide +kernel) ⟨Nat.le_of_ble_eq_true rfl, Nat.le_of_ble_eq_true rfl⟩) hG hP hD [0, 1, 2, 3, 4, 5, 6, 7, 8, 9, 10, 11, 12, 13, 14, 15, 16, 17, 18, 19, 20, 21, 22, 23, 24, 25, 26, 27, 28, 29, 30, 31, 32, 33, 34, 35, 36, 37, 38, 39, 40, 41, 42, 43, 44, 45, 46, 47, 48, 49, 50, 51, 52, 53, 54, 55, 56, 57] rfl (by decide +kernel) 0 6 (qc := (RX6, TX6, 5)) (fs := [.ref (ast 0), .ref (ald 0), .ref (ahi 0), .ref (act 0), .ref (acd 0)]) rfl rfl rfl rfl hl.1 rfl (Nat.le_of_ble_eq_true rfl) dL_isCatalogue_14 ⟨cq_f1 (by omega), cq_f2 (by omega)⟩ ?_
    change W _ _ _ _ _ _ _ _ _ _ _ _ _ _ _ (F0 m 17 _ (.int (m_X6_loads st ld hi ct cd) :: []))
    refine lv_topi (fun w_102 ew_102 => ?_)
    obtain rfl : w_102 = nI n := ew_102.trans f2
    refine lv_aload_n hx hb dL_isCatalogue_17 rfl (lv_at hl 4 rfl) ?_
    refine lv_iconst (v := 1) hx hb dL_isCatalogue_18 (by decide) ?_
    refine va_iald hx hb hG.1 hP 60 0 rfl rfl (inb_in (by decide)) dL_isCatalogue_19 ?_
    refine lv_topi (fun w_103 ew_103 => ?_)
    obtain rfl : w_103 = nI n := ew_103.trans ((congrArg qn cl1).trans w1)
    refine lv_icmp_ne (tgt := 38) hx hb dL_isCatalogue_20 (by decide) (fun c_104 => ?_) (fun c_104 => ?_)
    · exact absurd (Eq.refl (nI n)) c_104
    · refine lv_aload_n hx hb dL_isCatalogue_23 rfl (lv_at hl 1 rfl) ?_
      refine cq_RV (R := (cq_rx 8 970 5820 163)) (args := ([.ref o0, .ref qvb, .ref qhb, .ref qnb, .ref qtb, .ref qub] : List Value).toArray) (y := yX6_records) (bytes := cX6_records) (cc := cL_isCatalogue) (maxL := 1) (nL := 12) (n := 0) (index := 103) (ret := (some .int)) (ws := wsX6_records) (rm := cq_rm 3 64) (Ts := wsL_isCatalogue) (own := RL) (D := D) (Y := Y) (W0 := cl_ldr o0 (ast 0) (ald 0) (ahi 0) (act 0) (acd 0) ++ (cl_set Y ast st ++ (cl_lod Y ald ld ++ (cl_his Y ahi hi ++ (cl_cat Y act ct ++ (cl_cat Y acd cd)))))) (wl := cl_ldr o0 (ast 0) (ald 0) (ahi 0) (act 0) (acd 0) ++ (cl_set Y ast st ++ (cl_lod Y ald ld ++ (cl_his Y ahi hi ++ (cl_cat Y act ct ++ (cl_cat Y acd cd ++ (cl_lar Y qvb 40 qv ++ (cl_arr Y qhb 40 qh ++ (cl_arr Y qnb 4 qn ++ (cl_arr Y qtb 40 qt ++ (cl_arr Y qub 1 qu))))))))))) (v := some (.int (m_X6_records st ld hi ct cd))) (st0 := [.ref o0]) (As := []) (rest := []) (C := RX6) (b := o0) ⟨hx, hb, hml, hown, hts⟩ (ct_X6_records l D Y o0 ast st ald ld ahi hi act ct acd cd ) (cwV 0 hts gL_isCatalogue_X6_records rfl rfl rfl (by decide +kernel) ⟨Nat.le_of_ble_eq_true rfl, Nat.le_of_ble_eq_true rfl⟩) hG hP hD [0, 1, 2, 3, 4, 5, 6, 7, 8, 9, 10, 11, 12, 13, 14, 15, 16, 17, 18, 19, 20, 21, 22, 23, 24, 25, 26, 27, 28, 29, 30, 31, 32, 33, 34, 35, 36, 37, 38, 39, 40, 41, 42, 43, 44, 45, 46, 47, 48, 49, 50, 51, 52, 53, 54, 55, 56, 57] rfl (by decide +kernel) 0 6 (qc := (RX6, TX6, 5)) (fs := [.ref (ast 0), .ref (ald 0), .ref (ahi 0), .ref (act 0), .ref (acd 0)]) rfl rfl rfl rfl hl.1 rfl (Nat.le_of_ble_eq_true rfl) dL_isCatalogue_24 ⟨cq_f1 (by omega), cq_f2 (by omega)⟩ ?_
      change W _ _ _ _ _ _ _ _ _ _ _ _ _ _ _ (F0 m 27 _ (.int (m_X6_records st ld hi ct cd) :: []))
      refine lv_aload_n hx hb dL_isCatalogue_27 rfl (lv_at hl 2 rfl) ?_
      refine cq_RS (R := (cq_rx 8 970 5820 163)) (args := ([.ref o0, .ref qvb, .ref qhb, .ref qnb, .ref qtb, .ref qub] : List Value).toArray) (y := yL_many) (bytes := cL_many) (cc := cL_isCatalogue) (maxL := 3) (nL := 12) (n := 1) (index := 106) (ret := (some .int)) (ws := wsL_many) (rm := cq_rm 1 21) (Ts := wsL_isCatalogue) (own := RL) (D := D) (Y := Y) (W0 := cl_lar Y qvb 40 qv) (wl := cl_ldr o0 (ast 0) (ald 0) (ahi 0) (act 0) (acd 0) ++ (cl_set Y ast st ++ (cl_lod Y ald ld ++ (cl_his Y ahi hi ++ (cl_cat Y act ct ++ (cl_cat Y acd cd ++ (cl_lar Y qvb 40 qv ++ (cl_arr Y qhb 40 qh ++ (cl_arr Y qnb 4 qn ++ (cl_arr Y qtb 40 qt ++ (cl_arr Y qub 1 qu))))))))))) (v := some (.int (m_X6_records st ld hi ct cd))) (st0 := [.ref qvb, .int (m_X6_records st ld hi ct cd)]) (As := [.ref qvb]) (rest := [.int (m_X6_records st ld hi ct cd)]) ⟨hx, hb, hml, hown, hts⟩ (ct_L_many l D Y qvb qv  (m_X6_records st ld hi ct cd) f3) (va_cwS 1 hts gL_isCatalogue_L_many rfl rfl rfl (by decide +kernel) ⟨Nat.le_of_ble_eq_true rfl, Nat.le_of_ble_eq_true rfl⟩) hG hP hD [58] rfl (by decide +kernel) rfl hl.1 rfl (Nat.le_of_ble_eq_true rfl) dL_isCatalogue_28 ⟨cq_f1 (by omega), cq_f2 (by omega)⟩ ?_
      change W _ _ _ _ _ _ _ _ _ _ _ _ _ _ _ (F0 m 31 _ (.int (m_X6_records st ld hi ct cd) :: [.int (m_X6_records st ld hi ct cd)]))
      refine lv_icmp_ne (tgt := 38) hx hb dL_isCatalogue_31 (by decide) (fun c_105 => ?_) (fun c_105 => ?_)
      · exact absurd (Eq.refl (m_X6_records st ld hi ct cd)) c_105
      · refine lv_iconst (v := 1) hx hb dL_isCatalogue_34 (by decide) ?_
        refine lv_goto (tgt := 39) hx hb dL_isCatalogue_35 (by decide) ?_
        refine lv_istore (lv' := [(7, .int 1), (6, .int 0), (0, .ref o0), (1, .ref qvb), (2, .ref qhb), (3, .ref qnb), (4, .ref qtb), (5, .ref qub)]) hx hb dL_isCatalogue_39 hl (by decide) rfl (fun ls hl => ?_)
        refine lv_iconst (v := 0) hx hb dL_isCatalogue_41 (by decide) ?_
        refine lv_istore (lv' := [(8, .int 0), (7, .int 1), (6, .int 0), (0, .ref o0), (1, .ref qvb), (2, .ref qhb), (3, .ref qnb), (4, .ref qtb), (5, .ref qub)]) hx hb dL_isCatalogue_42 hl (by decide) rfl (fun ls hl => ?_)
        exact lpR 40 0 ls (Nat.zero_add _) (lv_sub hl [3, 4, 5, 6, 7, 8, 2, 1, 0] rfl)
