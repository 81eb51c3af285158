/-! THE LAW'S CASES -/
section CASES
variable {p : Program} {l : Launch} {e : Env} {s : State} {m : MethodId} {below : List Frame} {meth : Method} {c : Code} {cells slots : Nat} {D : va_G} {Y : cq_Y} {b L : Nat} {xs : Nat → Int32} {o0 bo : Nat} {ast ald ahi act acd am : Nat → Nat} {i : Int32}
set_option maxHeartbeats 4000000 in
set_option maxRecDepth 100000 in
theorem lz_c_setRule (X : lz_X p l s m meth c b L xs D Y o0 ast ald ahi act acd bo am) (g1 : vp_in (i + 1) L) (g2 : vp_in (i + 2) L) (g3 : vp_in (i + 3) L) (hc : cells + 4 ≤ 601024) (hs : slots + 24 ≤ 7293034) (K : lz_go p l e s m below meth c b D Y o0 ast ald ahi act acd bo am 1356 i (cells + 4) (slots + 24)) : lz_go p l e s m below meth c b D Y o0 ast ald ahi act acd bo am 212 i cells slots := by
  obtain ⟨C0, hl0, hG, hB, hNC, hapC, hapM, hdMC⟩ := X
  obtain ⟨hx, hb, -⟩ := id C0
  intro n bb d st ld hi ct cd u fo H locs ls R hPC hPM hS hl
  obtain ⟨u', r, k, n', bb', d', st', ld', hi', ct', cd', fo', hm, R', ek, er, hML⟩ := lz_u_setRule (D := D) (Y := Y) (o0 := o0) (bo := bo) (fo := fo) (ast := ast) (ald := ald) (ahi := ahi) (act := act) (acd := acd) R hl0 (xs (i + 1).toNatClampNeg) (xs (i + 2).toNatClampNeg)
  refine lv_aload_n hx hb dL_law_212 rfl (lv_at hl 1 rfl) ?_
  refine lz_arg 213 C0 hS (lv_at hl 0 rfl) (lv_at hl 4 rfl) dL_law_213 dL_law_214 dL_law_216 dL_law_217 dL_law_218 (v := 1) (by decide) g1 ?_
  refine lz_arg 219 C0 hS (lv_at hl 0 rfl) (lv_at hl 4 rfl) dL_law_219 dL_law_220 dL_law_222 dL_law_223 dL_law_224 (v := 2) (by decide) g2 ?_
  refine lv_aload_n hx hb dL_law_225 rfl (lv_at hl 3 rfl) ?_
  refine lz_callL (pc := 226) (index := 86) (n := 4) (rest := []) (Wr := cl_mdl Y am u) C0 hG hB hNC hapC lz_eC lz_eM hdMC hML gL_law_L_setRule rfl rfl rfl (by decide +kernel) ⟨Nat.le_of_ble_eq_true rfl, Nat.le_of_ble_eq_true rfl⟩ rfl hl.1 rfl (Nat.le_of_ble_eq_true rfl) dL_law_226 ⟨Nat.le_trans (by omega) hc, Nat.le_trans (by omega) hs⟩ hPC hPM hS (fun H locs hPC hPM hS => ?_)
  change W _ _ _ _ _ _ _ _ _ _ _ _ _ _ _ (F0 m 229 _ [.int k])
  refine W.widen (k := cells + 4) (n := slots + 24) (by omega) (by omega) ?_
  refine lv_istore (lv' := [(5, .int k), (0, .ref b), (1, .ref o0), (2, .ref (am 0)), (3, .ref bo), (4, .int i)]) hx hb dL_law_229 hl (by decide) rfl (fun ls hl => ?_)
  refine lv_aload_n hx hb dL_law_231 rfl (lv_at hl 3 rfl) ?_
  refine lz_arg 232 C0 hS (lv_at hl 1 rfl) (lv_at hl 5 rfl) dL_law_232 dL_law_233 dL_law_235 dL_law_236 dL_law_237 (v := 1) (by decide) g1 ?_
  refine lz_arg 238 C0 hS (lv_at hl 1 rfl) (lv_at hl 5 rfl) dL_law_238 dL_law_239 dL_law_241 dL_law_242 dL_law_243 (v := 2) (by decide) g2 ?_
  obtain ⟨fs, hfs⟩ := lz_hM (Y := Y) (am := am) (u := u)
  refine lz_callV (pc := 244) (index := 88) (n := 2) (rest := []) (W0 := cl_mdl Y am u) (Wr := lz_C Y o0 ast ald ahi act acd bo st' ld' hi' ct' cd' fo') (As := [.int (xs (i + 1).toNatClampNeg), .int (xs (i + 2).toNatClampNeg)]) C0 hG hapM lz_eM lz_eC (lz_d2 hdMC) (ct_X7_setRule l D Y am u (xs (i + 1).toNatClampNeg) (xs (i + 2).toNatClampNeg) (u', r) hm) gL_law_X7_setRule rfl rfl rfl (by decide +kernel) ⟨Nat.le_of_ble_eq_true rfl, Nat.le_of_ble_eq_true rfl⟩ (qc := (RX7, TX7, 25)) rfl hfs rfl rfl hl.1 rfl (Nat.le_of_ble_eq_true rfl) dL_law_244 ⟨hc, hs⟩ hPM hPC hS (fun H locs hPM hPC hS => ?_)
  change W _ _ _ _ _ _ _ _ _ _ _ _ _ _ _ (F0 m 247 _ [.int r])
  refine lv_istore (lv' := [(6, .int r), (5, .int k), (0, .ref b), (1, .ref o0), (2, .ref (am 0)), (3, .ref bo), (4, .int i)]) hx hb dL_law_247 hl (by decide) rfl (fun ls hl => ?_)
  exact lz_tailI 249 C0 hG hapM ⟨hc, hs⟩ hPM ek hPC er hl dL_law_249 dL_law_250 dL_law_253 dL_law_255 dL_law_260 dL_law_262 dL_law_265 dL_law_266 dL_law_267 dL_law_268 dL_law_270 dL_law_271 dL_law_272 dL_law_277 (by decide) (fun ls hl => K n' bb' d' st' ld' hi' ct' cd' u' fo' H locs ls R' hPC hPM hS hl)
set_option maxHeartbeats 4000000 in
set_option maxRecDepth 100000 in
theorem lz_c_setOrder (X : lz_X p l s m meth c b L xs D Y o0 ast ald ahi act acd bo am) (g1 : vp_in (i + 1) L) (g2 : vp_in (i + 2) L) (g3 : vp_in (i + 3) L) (hc : cells + 4 ≤ 601024) (hs : slots + 24 ≤ 7293034) (K : lz_go p l e s m below meth c b D Y o0 ast ald ahi act acd bo am 1356 i (cells + 4) (slots + 24)) : lz_go p l e s m below meth c b D Y o0 ast ald ahi act acd bo am 280 i cells slots := by
  obtain ⟨C0, hl0, hG, hB, hNC, hapC, hapM, hdMC⟩ := X
  obtain ⟨hx, hb, -⟩ := id C0
  intro n bb d st ld hi ct cd u fo H locs ls R hPC hPM hS hl
  obtain ⟨u', k, n', bb', d', st', ld', hi', ct', cd', hm, R', ek, hML⟩ := lz_u_setOrder (D := D) (Y := Y) (o0 := o0) (ast := ast) (ald := ald) (ahi := ahi) (act := act) (acd := acd) R hl0 (xs (i + 1).toNatClampNeg) (xs (i + 2).toNatClampNeg) (xs (i + 3).toNatClampNeg)
  refine lv_aload_n hx hb dL_law_280 rfl (lv_at hl 1 rfl) ?_
  refine lz_arg 281 C0 hS (lv_at hl 0 rfl) (lv_at hl 4 rfl) dL_law_281 dL_law_282 dL_law_284 dL_law_285 dL_law_286 (v := 1) (by decide) g1 ?_
  refine lz_arg 287 C0 hS (lv_at hl 0 rfl) (lv_at hl 4 rfl) dL_law_287 dL_law_288 dL_law_290 dL_law_291 dL_law_292 (v := 2) (by decide) g2 ?_
  refine lz_arg 293 C0 hS (lv_at hl 0 rfl) (lv_at hl 4 rfl) dL_law_293 dL_law_294 dL_law_296 dL_law_297 dL_law_298 (v := 3) (by decide) g3 ?_
  rw [lz_CK] at hPC
  obtain ⟨hPK, hPO⟩ := lz_apP hPC
  refine lz_callL (pc := 299) (index := 89) (n := 4) (rest := []) (Wr := cl_out Y bo fo ++ cl_mdl Y am u) C0 hG hB hNC hapC.app.1 lz_eK lz_eO (lz_d1 hapC hdMC) hML gL_law_L_setOrder rfl rfl rfl (by decide +kernel) ⟨Nat.le_of_ble_eq_true rfl, Nat.le_of_ble_eq_true rfl⟩ rfl hl.1 rfl (Nat.le_of_ble_eq_true rfl) dL_law_299 ⟨Nat.le_trans (by omega) hc, Nat.le_trans (by omega) hs⟩ hPK (lz_paP hPO hPM) hS (fun H locs hPK hPr hS => ?_)
  obtain ⟨hPO, hPM⟩ := lz_apP hPr
  have hPC := lz_paP hPK hPO
  rw [← lz_CK] at hPC
  change W _ _ _ _ _ _ _ _ _ _ _ _ _ _ _ (F0 m 302 _ [.int k])
  refine W.widen (k := cells + 4) (n := slots + 24) (by omega) (by omega) ?_
  refine lv_istore (lv' := [(5, .int k), (0, .ref b), (1, .ref o0), (2, .ref (am 0)), (3, .ref bo), (4, .int i)]) hx hb dL_law_302 hl (by decide) rfl (fun ls hl => ?_)
  refine lv_aload_n hx hb dL_law_304 rfl (lv_at hl 3 rfl) ?_
  refine lz_arg 305 C0 hS (lv_at hl 1 rfl) (lv_at hl 5 rfl) dL_law_305 dL_law_306 dL_law_308 dL_law_309 dL_law_310 (v := 1) (by decide) g1 ?_
  refine lz_arg 311 C0 hS (lv_at hl 1 rfl) (lv_at hl 5 rfl) dL_law_311 dL_law_312 dL_law_314 dL_law_315 dL_law_316 (v := 2) (by decide) g2 ?_
  refine lz_arg 317 C0 hS (lv_at hl 1 rfl) (lv_at hl 5 rfl) dL_law_317 dL_law_318 dL_law_320 dL_law_321 dL_law_322 (v := 3) (by decide) g3 ?_
  obtain ⟨fs, hfs⟩ := lz_hM (Y := Y) (am := am) (u := u)
  refine lz_callV (pc := 323) (index := 92) (n := 3) (rest := []) (W0 := cl_mdl Y am u) (Wr := lz_C Y o0 ast ald ahi act acd bo st' ld' hi' ct' cd' fo) (As := [.int (xs (i + 1).toNatClampNeg), .int (xs (i + 2).toNatClampNeg), .int (xs (i + 3).toNatClampNeg)]) C0 hG hapM lz_eM lz_eC (lz_d2 hdMC) (ct_X7_setOrder l D Y am u (xs (i + 1).toNatClampNeg) (xs (i + 2).toNatClampNeg) (xs (i + 3).toNatClampNeg) u' hm) gL_law_X7_setOrder rfl rfl rfl (by decide +kernel) ⟨Nat.le_of_ble_eq_true rfl, Nat.le_of_ble_eq_true rfl⟩ (qc := (RX7, TX7, 25)) rfl hfs rfl rfl hl.1 rfl (Nat.le_of_ble_eq_true rfl) dL_law_323 ⟨hc, hs⟩ hPM hPC hS (fun H locs hPM hPC hS => ?_)
  change W _ _ _ _ _ _ _ _ _ _ _ _ _ _ _ (F0 m 326 _ [])
  exact lz_tailV 326 C0 hG hapM ⟨hc, hs⟩ hPM ek hl dL_law_326 dL_law_327 dL_law_330 dL_law_332 dL_law_337 (by decide) (fun ls hl => K n' bb' d' st' ld' hi' ct' cd' u' fo H locs ls R' hPC hPM hS hl)
set_option maxHeartbeats 4000000 in
set_option maxRecDepth 100000 in
theorem lz_c_beginBatch (X : lz_X p l s m meth c b L xs D Y o0 ast ald ahi act acd bo am) (g1 : vp_in (i + 1) L) (g2 : vp_in (i + 2) L) (g3 : vp_in (i + 3) L) (hc : cells + 4 ≤ 601024) (hs : slots + 24 ≤ 7293034) (K : lz_go p l e s m below meth c b D Y o0 ast ald ahi act acd bo am 1356 i (cells + 4) (slots + 24)) : lz_go p l e s m below meth c b D Y o0 ast ald ahi act acd bo am 340 i cells slots := by
  obtain ⟨C0, hl0, hG, hB, hNC, hapC, hapM, hdMC⟩ := X
  obtain ⟨hx, hb, -⟩ := id C0
  intro n bb d st ld hi ct cd u fo H locs ls R hPC hPM hS hl
  obtain ⟨u', r, k, n', bb', d', st', ld', hi', ct', cd', fo', hm, R', ek, er, hML⟩ := lz_u_beginBatch (D := D) (Y := Y) (o0 := o0) (bo := bo) (fo := fo) (ast := ast) (ald := ald) (ahi := ahi) (act := act) (acd := acd) R hl0 
  refine lv_aload_n hx hb dL_law_340 rfl (lv_at hl 1 rfl) ?_
  refine lv_aload_n hx hb dL_law_341 rfl (lv_at hl 3 rfl) ?_
  refine lz_callL (pc := 342) (index := 93) (n := 2) (rest := []) (Wr := cl_mdl Y am u) C0 hG hB hNC hapC lz_eC lz_eM hdMC hML gL_law_L_beginBatch rfl rfl rfl (by decide +kernel) ⟨Nat.le_of_ble_eq_true rfl, Nat.le_of_ble_eq_true rfl⟩ rfl hl.1 rfl (Nat.le_of_ble_eq_true rfl) dL_law_342 ⟨Nat.le_trans (by omega) hc, Nat.le_trans (by omega) hs⟩ hPC hPM hS (fun H locs hPC hPM hS => ?_)
  change W _ _ _ _ _ _ _ _ _ _ _ _ _ _ _ (F0 m 345 _ [.int k])
  refine W.widen (k := cells + 4) (n := slots + 24) (by omega) (by omega) ?_
  refine lv_istore (lv' := [(5, .int k), (0, .ref b), (1, .ref o0), (2, .ref (am 0)), (3, .ref bo), (4, .int i)]) hx hb dL_law_345 hl (by decide) rfl (fun ls hl => ?_)
  refine lv_aload_n hx hb dL_law_347 rfl (lv_at hl 3 rfl) ?_
  obtain ⟨fs, hfs⟩ := lz_hM (Y := Y) (am := am) (u := u)
  refine lz_callV (pc := 348) (index := 96) (n := 0) (rest := []) (W0 := cl_mdl Y am u) (Wr := lz_C Y o0 ast ald ahi act acd bo st' ld' hi' ct' cd' fo') (As := []) C0 hG hapM lz_eM lz_eC (lz_d2 hdMC) (ct_X7_beginBatch l D Y am u  (u', r) hm) gL_law_X7_beginBatch rfl rfl rfl (by decide +kernel) ⟨Nat.le_of_ble_eq_true rfl, Nat.le_of_ble_eq_true rfl⟩ (qc := (RX7, TX7, 25)) rfl hfs rfl rfl hl.1 rfl (Nat.le_of_ble_eq_true rfl) dL_law_348 ⟨hc, hs⟩ hPM hPC hS (fun H locs hPM hPC hS => ?_)
  change W _ _ _ _ _ _ _ _ _ _ _ _ _ _ _ (F0 m 351 _ [.int r])
  refine lv_istore (lv' := [(6, .int r), (5, .int k), (0, .ref b), (1, .ref o0), (2, .ref (am 0)), (3, .ref bo), (4, .int i)]) hx hb dL_law_351 hl (by decide) rfl (fun ls hl => ?_)
  exact lz_tailI 353 C0 hG hapM ⟨hc, hs⟩ hPM ek hPC er hl dL_law_353 dL_law_354 dL_law_357 dL_law_359 dL_law_364 dL_law_366 dL_law_369 dL_law_370 dL_law_371 dL_law_372 dL_law_374 dL_law_375 dL_law_376 dL_law_381 (by decide) (fun ls hl => K n' bb' d' st' ld' hi' ct' cd' u' fo' H locs ls R' hPC hPM hS hl)
set_option maxHeartbeats 4000000 in
set_option maxRecDepth 100000 in
theorem lz_c_key (X : lz_X p l s m meth c b L xs D Y o0 ast ald ahi act acd bo am) (g1 : vp_in (i + 1) L) (g2 : vp_in (i + 2) L) (g3 : vp_in (i + 3) L) (hc : cells + 4 ≤ 601024) (hs : slots + 24 ≤ 7293034) (K : lz_go p l e s m below meth c b D Y o0 ast ald ahi act acd bo am 1356 i (cells + 4) (slots + 24)) : lz_go p l e s m below meth c b D Y o0 ast ald ahi act acd bo am 384 i cells slots := by
  obtain ⟨C0, hl0, hG, hB, hNC, hapC, hapM, hdMC⟩ := X
  obtain ⟨hx, hb, -⟩ := id C0
  intro n bb d st ld hi ct cd u fo H locs ls R hPC hPM hS hl
  obtain ⟨u', r, k, n', bb', d', st', ld', hi', ct', cd', fo', hm, R', ek, er, hML⟩ := lz_u_key (D := D) (Y := Y) (o0 := o0) (bo := bo) (fo := fo) (ast := ast) (ald := ald) (ahi := ahi) (act := act) (acd := acd) R hl0 (xs (i + 1).toNatClampNeg) (xs (i + 2).toNatClampNeg)
  refine lv_aload_n hx hb dL_law_384 rfl (lv_at hl 1 rfl) ?_
  refine lz_arg 385 C0 hS (lv_at hl 0 rfl) (lv_at hl 4 rfl) dL_law_385 dL_law_386 dL_law_388 dL_law_389 dL_law_390 (v := 1) (by decide) g1 ?_
  refine lz_arg 391 C0 hS (lv_at hl 0 rfl) (lv_at hl 4 rfl) dL_law_391 dL_law_392 dL_law_394 dL_law_395 dL_law_396 (v := 2) (by decide) g2 ?_
  refine lv_aload_n hx hb dL_law_397 rfl (lv_at hl 3 rfl) ?_
  refine lz_callL (pc := 398) (index := 97) (n := 4) (rest := []) (Wr := cl_mdl Y am u) C0 hG hB hNC hapC lz_eC lz_eM hdMC hML gL_law_L_key rfl rfl rfl (by decide +kernel) ⟨Nat.le_of_ble_eq_true rfl, Nat.le_of_ble_eq_true rfl⟩ rfl hl.1 rfl (Nat.le_of_ble_eq_true rfl) dL_law_398 ⟨Nat.le_trans (by omega) hc, Nat.le_trans (by omega) hs⟩ hPC hPM hS (fun H locs hPC hPM hS => ?_)
  change W _ _ _ _ _ _ _ _ _ _ _ _ _ _ _ (F0 m 401 _ [.int k])
  refine W.widen (k := cells + 4) (n := slots + 24) (by omega) (by omega) ?_
  refine lv_istore (lv' := [(5, .int k), (0, .ref b), (1, .ref o0), (2, .ref (am 0)), (3, .ref bo), (4, .int i)]) hx hb dL_law_401 hl (by decide) rfl (fun ls hl => ?_)
  refine lv_aload_n hx hb dL_law_403 rfl (lv_at hl 3 rfl) ?_
  refine lz_arg 404 C0 hS (lv_at hl 1 rfl) (lv_at hl 5 rfl) dL_law_404 dL_law_405 dL_law_407 dL_law_408 dL_law_409 (v := 1) (by decide) g1 ?_
  refine lz_arg 410 C0 hS (lv_at hl 1 rfl) (lv_at hl 5 rfl) dL_law_410 dL_law_411 dL_law_413 dL_law_414 dL_law_415 (v := 2) (by decide) g2 ?_
  obtain ⟨fs, hfs⟩ := lz_hM (Y := Y) (am := am) (u := u)
  refine lz_callV (pc := 416) (index := 99) (n := 2) (rest := []) (W0 := cl_mdl Y am u) (Wr := lz_C Y o0 ast ald ahi act acd bo st' ld' hi' ct' cd' fo') (As := [.int (xs (i + 1).toNatClampNeg), .int (xs (i + 2).toNatClampNeg)]) C0 hG hapM lz_eM lz_eC (lz_d2 hdMC) (ct_X7_key l D Y am u (xs (i + 1).toNatClampNeg) (xs (i + 2).toNatClampNeg) (u', r) hm) gL_law_X7_key rfl rfl rfl (by decide +kernel) ⟨Nat.le_of_ble_eq_true rfl, Nat.le_of_ble_eq_true rfl⟩ (qc := (RX7, TX7, 25)) rfl hfs rfl rfl hl.1 rfl (Nat.le_of_ble_eq_true rfl) dL_law_416 ⟨hc, hs⟩ hPM hPC hS (fun H locs hPM hPC hS => ?_)
  change W _ _ _ _ _ _ _ _ _ _ _ _ _ _ _ (F0 m 419 _ [.int r])
  refine lv_istore (lv' := [(6, .int r), (5, .int k), (0, .ref b), (1, .ref o0), (2, .ref (am 0)), (3, .ref bo), (4, .int i)]) hx hb dL_law_419 hl (by decide) rfl (fun ls hl => ?_)
  exact lz_tailI 421 C0 hG hapM ⟨hc, hs⟩ hPM ek hPC er hl dL_law_421 dL_law_422 dL_law_425 dL_law_427 dL_law_432 dL_law_434 dL_law_437 dL_law_438 dL_law_439 dL_law_440 dL_law_442 dL_law_443 dL_law_444 dL_law_449 (by decide) (fun ls hl => K n' bb' d' st' ld' hi' ct' cd' u' fo' H locs ls R' hPC hPM hS hl)
set_option maxHeartbeats 4000000 in
set_option maxRecDepth 100000 in
theorem lz_c_field (X : lz_X p l s m meth c b L xs D Y o0 ast ald ahi act acd bo am) (g1 : vp_in (i + 1) L) (g2 : vp_in (i + 2) L) (g3 : vp_in (i + 3) L) (hc : cells + 4 ≤ 601024) (hs : slots + 24 ≤ 7293034) (K : lz_go p l e s m below meth c b D Y o0 ast ald ahi act acd bo am 1356 i (cells + 4) (slots + 24)) : lz_go p l e s m below meth c b D Y o0 ast ald ahi act acd bo am 452 i cells slots := by
  obtain ⟨C0, hl0, hG, hB, hNC, hapC, hapM, hdMC⟩ := X
  obtain ⟨hx, hb, -⟩ := id C0
  intro n bb d st ld hi ct cd u fo H locs ls R hPC hPM hS hl
  obtain ⟨u', r, k, n', bb', d', st', ld', hi', ct', cd', fo', hm, R', ek, er, hML⟩ := lz_u_field (D := D) (Y := Y) (o0 := o0) (bo := bo) (fo := fo) (ast := ast) (ald := ald) (ahi := ahi) (act := act) (acd := acd) R hl0 (xs (i + 1).toNatClampNeg) (xs (i + 2).toNatClampNeg)
  refine lv_aload_n hx hb dL_law_452 rfl (lv_at hl 1 rfl) ?_
  refine lz_arg 453 C0 hS (lv_at hl 0 rfl) (lv_at hl 4 rfl) dL_law_453 dL_law_454 dL_law_456 dL_law_457 dL_law_458 (v := 1) (by decide) g1 ?_
  refine lz_arg 459 C0 hS (lv_at hl 0 rfl) (lv_at hl 4 rfl) dL_law_459 dL_law_460 dL_law_462 dL_law_463 dL_law_464 (v := 2) (by decide) g2 ?_
  refine lv_aload_n hx hb dL_law_465 rfl (lv_at hl 3 rfl) ?_
  refine lz_callL (pc := 466) (index := 100) (n := 4) (rest := []) (Wr := cl_mdl Y am u) C0 hG hB hNC hapC lz_eC lz_eM hdMC hML gL_law_L_field rfl rfl rfl (by decide +kernel) ⟨Nat.le_of_ble_eq_true rfl, Nat.le_of_ble_eq_true rfl⟩ rfl hl.1 rfl (Nat.le_of_ble_eq_true rfl) dL_law_466 ⟨Nat.le_trans (by omega) hc, Nat.le_trans (by omega) hs⟩ hPC hPM hS (fun H locs hPC hPM hS => ?_)
  change W _ _ _ _ _ _ _ _ _ _ _ _ _ _ _ (F0 m 469 _ [.int k])
  refine W.widen (k := cells + 4) (n := slots + 24) (by omega) (by omega) ?_
  refine lv_istore (lv' := [(5, .int k), (0, .ref b), (1, .ref o0), (2, .ref (am 0)), (3, .ref bo), (4, .int i)]) hx hb dL_law_469 hl (by decide) rfl (fun ls hl => ?_)
  refine lv_aload_n hx hb dL_law_471 rfl (lv_at hl 3 rfl) ?_
  refine lz_arg 472 C0 hS (lv_at hl 1 rfl) (lv_at hl 5 rfl) dL_law_472 dL_law_473 dL_law_475 dL_law_476 dL_law_477 (v := 1) (by decide) g1 ?_
  refine lz_arg 478 C0 hS (lv_at hl 1 rfl) (lv_at hl 5 rfl) dL_law_478 dL_law_479 dL_law_481 dL_law_482 dL_law_483 (v := 2) (by decide) g2 ?_
  obtain ⟨fs, hfs⟩ := lz_hM (Y := Y) (am := am) (u := u)
  refine lz_callV (pc := 484) (index := 102) (n := 2) (rest := []) (W0 := cl_mdl Y am u) (Wr := lz_C Y o0 ast ald ahi act acd bo st' ld' hi' ct' cd' fo') (As := [.int (xs (i + 1).toNatClampNeg), .int (xs (i + 2).toNatClampNeg)]) C0 hG hapM lz_eM lz_eC (lz_d2 hdMC) (ct_X7_field l D Y am u (xs (i + 1).toNatClampNeg) (xs (i + 2).toNatClampNeg) (u', r) hm) gL_law_X7_field rfl rfl rfl (by decide +kernel) ⟨Nat.le_of_ble_eq_true rfl, Nat.le_of_ble_eq_true rfl⟩ (qc := (RX7, TX7, 25)) rfl hfs rfl rfl hl.1 rfl (Nat.le_of_ble_eq_true rfl) dL_law_484 ⟨hc, hs⟩ hPM hPC hS (fun H locs hPM hPC hS => ?_)
  change W _ _ _ _ _ _ _ _ _ _ _ _ _ _ _ (F0 m 487 _ [.int r])
  refine lv_istore (lv' := [(6, .int r), (5, .int k), (0, .ref b), (1, .ref o0), (2, .ref (am 0)), (3, .ref bo), (4, .int i)]) hx hb dL_law_487 hl (by decide) rfl (fun ls hl => ?_)
  exact lz_tailI 489 C0 hG hapM ⟨hc, hs⟩ hPM ek hPC er hl dL_law_489 dL_law_490 dL_law_493 dL_law_495 dL_law_500 dL_law_502 dL_law_505 dL_law_506 dL_law_507 dL_law_508 dL_law_510 dL_law_511 dL_law_512 dL_law_517 (by decide) (fun ls hl => K n' bb' d' st' ld' hi' ct' cd' u' fo' H locs ls R' hPC hPM hS hl)
set_option maxHeartbeats 4000000 in
set_option maxRecDepth 100000 in
theorem lz_c_load (X : lz_X p l s m meth c b L xs D Y o0 ast ald ahi act acd bo am) (g1 : vp_in (i + 1) L) (g2 : vp_in (i + 2) L) (g3 : vp_in (i + 3) L) (hc : cells + 4 ≤ 601024) (hs : slots + 24 ≤ 7293034) (K : lz_go p l e s m below meth c b D Y o0 ast ald ahi act acd bo am 1356 i (cells + 4) (slots + 24)) : lz_go p l e s m below meth c b D Y o0 ast ald ahi act acd bo am 520 i cells slots := by
  obtain ⟨C0, hl0, hG, hB, hNC, hapC, hapM, hdMC⟩ := X
  obtain ⟨hx, hb, -⟩ := id C0
  intro n bb d st ld hi ct cd u fo H locs ls R hPC hPM hS hl
  obtain ⟨u', r, k, n', bb', d', st', ld', hi', ct', cd', fo', hm, R', ek, er, hML⟩ := lz_u_load (D := D) (Y := Y) (o0 := o0) (bo := bo) (fo := fo) (ast := ast) (ald := ald) (ahi := ahi) (act := act) (acd := acd) R hl0 (xs (i + 1).toNatClampNeg)
  refine lv_aload_n hx hb dL_law_520 rfl (lv_at hl 1 rfl) ?_
  refine lz_arg 521 C0 hS (lv_at hl 0 rfl) (lv_at hl 4 rfl) dL_law_521 dL_law_522 dL_law_524 dL_law_525 dL_law_526 (v := 1) (by decide) g1 ?_
  refine lv_aload_n hx hb dL_law_527 rfl (lv_at hl 3 rfl) ?_
  refine lz_callL (pc := 528) (index := 103) (n := 3) (rest := []) (Wr := cl_mdl Y am u) C0 hG hB hNC hapC lz_eC lz_eM hdMC hML gL_law_L_load rfl rfl rfl (by decide +kernel) ⟨Nat.le_of_ble_eq_true rfl, Nat.le_of_ble_eq_true rfl⟩ rfl hl.1 rfl (Nat.le_of_ble_eq_true rfl) dL_law_528 ⟨Nat.le_trans (by omega) hc, Nat.le_trans (by omega) hs⟩ hPC hPM hS (fun H locs hPC hPM hS => ?_)
  change W _ _ _ _ _ _ _ _ _ _ _ _ _ _ _ (F0 m 531 _ [.int k])
  refine W.widen (k := cells + 4) (n := slots + 24) (by omega) (by omega) ?_
  refine lv_istore (lv' := [(5, .int k), (0, .ref b), (1, .ref o0), (2, .ref (am 0)), (3, .ref bo), (4, .int i)]) hx hb dL_law_531 hl (by decide) rfl (fun ls hl => ?_)
  refine lv_aload_n hx hb dL_law_533 rfl (lv_at hl 3 rfl) ?_
  refine lz_arg 534 C0 hS (lv_at hl 1 rfl) (lv_at hl 5 rfl) dL_law_534 dL_law_535 dL_law_537 dL_law_538 dL_law_539 (v := 1) (by decide) g1 ?_
  obtain ⟨fs, hfs⟩ := lz_hM (Y := Y) (am := am) (u := u)
  refine lz_callV (pc := 540) (index := 106) (n := 1) (rest := []) (W0 := cl_mdl Y am u) (Wr := lz_C Y o0 ast ald ahi act acd bo st' ld' hi' ct' cd' fo') (As := [.int (xs (i + 1).toNatClampNeg)]) C0 hG hapM lz_eM lz_eC (lz_d2 hdMC) (ct_X7_load l D Y am u (xs (i + 1).toNatClampNeg) (u', r) hm) gL_law_X7_load rfl rfl rfl (by decide +kernel) ⟨Nat.le_of_ble_eq_true rfl, Nat.le_of_ble_eq_true rfl⟩ (qc := (RX7, TX7, 25)) rfl hfs rfl rfl hl.1 rfl (Nat.le_of_ble_eq_true rfl) dL_law_540 ⟨hc, hs⟩ hPM hPC hS (fun H locs hPM hPC hS => ?_)
  change W _ _ _ _ _ _ _ _ _ _ _ _ _ _ _ (F0 m 543 _ [.int r])
  refine lv_istore (lv' := [(6, .int r), (5, .int k), (0, .ref b), (1, .ref o0), (2, .ref (am 0)), (3, .ref bo), (4, .int i)]) hx hb dL_law_543 hl (by decide) rfl (fun ls hl => ?_)
  exact lz_tailI 545 C0 hG hapM ⟨hc, hs⟩ hPM ek hPC er hl dL_law_545 dL_law_546 dL_law_549 dL_law_551 dL_law_556 dL_law_558 dL_law_561 dL_law_562 dL_law_563 dL_law_564 dL_law_566 dL_law_567 dL_law_568 dL_law_573 (by decide) (fun ls hl => K n' bb' d' st' ld' hi' ct' cd' u' fo' H locs ls R' hPC hPM hS hl)
set_option maxHeartbeats 4000000 in
set_option maxRecDepth 100000 in
theorem lz_c_protect (X : lz_X p l s m meth c b L xs D Y o0 ast ald ahi act acd bo am) (g1 : vp_in (i + 1) L) (g2 : vp_in (i + 2) L) (g3 : vp_in (i + 3) L) (hc : cells + 4 ≤ 601024) (hs : slots + 24 ≤ 7293034) (K : lz_go p l e s m below meth c b D Y o0 ast ald ahi act acd bo am 1356 i (cells + 4) (slots + 24)) : lz_go p l e s m below meth c b D Y o0 ast ald ahi act acd bo am 576 i cells slots := by
  obtain ⟨C0, hl0, hG, hB, hNC, hapC, hapM, hdMC⟩ := X
  obtain ⟨hx, hb, -⟩ := id C0
  intro n bb d st ld hi ct cd u fo H locs ls R hPC hPM hS hl
  obtain ⟨u', r, k, n', bb', d', st', ld', hi', ct', cd', fo', hm, R', ek, er, hML⟩ := lz_u_protect (D := D) (Y := Y) (o0 := o0) (bo := bo) (fo := fo) (ast := ast) (ald := ald) (ahi := ahi) (act := act) (acd := acd) R hl0 (xs (i + 1).toNatClampNeg) (xs (i + 2).toNatClampNeg) (if xs (i + 3).toNatClampNeg = 0 then 0 else 1)
  refine lv_aload_n hx hb dL_law_576 rfl (lv_at hl 1 rfl) ?_
  refine lz_arg 577 C0 hS (lv_at hl 0 rfl) (lv_at hl 4 rfl) dL_law_577 dL_law_578 dL_law_580 dL_law_581 dL_law_582 (v := 1) (by decide) g1 ?_
  refine lz_arg 583 C0 hS (lv_at hl 0 rfl) (lv_at hl 4 rfl) dL_law_583 dL_law_584 dL_law_586 dL_law_587 dL_law_588 (v := 2) (by decide) g2 ?_
  refine lz_arg 589 C0 hS (lv_at hl 0 rfl) (lv_at hl 4 rfl) dL_law_589 dL_law_590 dL_law_592 dL_law_593 dL_law_594 (v := 3) (by decide) g3 ?_
  refine lz_bool 595 C0 dL_law_595 dL_law_598 dL_law_599 dL_law_602 ?_
  refine lv_aload_n hx hb dL_law_603 rfl (lv_at hl 3 rfl) ?_
  refine lz_callL (pc := 604) (index := 107) (n := 5) (rest := []) (Wr := cl_mdl Y am u) C0 hG hB hNC hapC lz_eC lz_eM hdMC hML gL_law_L_protect rfl rfl rfl (by decide +kernel) ⟨Nat.le_of_ble_eq_true rfl, Nat.le_of_ble_eq_true rfl⟩ rfl hl.1 rfl (Nat.le_of_ble_eq_true rfl) dL_law_604 ⟨Nat.le_trans (by omega) hc, Nat.le_trans (by omega) hs⟩ hPC hPM hS (fun H locs hPC hPM hS => ?_)
  change W _ _ _ _ _ _ _ _ _ _ _ _ _ _ _ (F0 m 607 _ [.int k])
  refine W.widen (k := cells + 4) (n := slots + 24) (by omega) (by omega) ?_
  refine lv_istore (lv' := [(5, .int k), (0, .ref b), (1, .ref o0), (2, .ref (am 0)), (3, .ref bo), (4, .int i)]) hx hb dL_law_607 hl (by decide) rfl (fun ls hl => ?_)
  refine lv_aload_n hx hb dL_law_609 rfl (lv_at hl 3 rfl) ?_
  refine lz_arg 610 C0 hS (lv_at hl 1 rfl) (lv_at hl 5 rfl) dL_law_610 dL_law_611 dL_law_613 dL_law_614 dL_law_615 (v := 1) (by decide) g1 ?_
  refine lz_arg 616 C0 hS (lv_at hl 1 rfl) (lv_at hl 5 rfl) dL_law_616 dL_law_617 dL_law_619 dL_law_620 dL_law_621 (v := 2) (by decide) g2 ?_
  refine lz_arg 622 C0 hS (lv_at hl 1 rfl) (lv_at hl 5 rfl) dL_law_622 dL_law_623 dL_law_625 dL_law_626 dL_law_627 (v := 3) (by decide) g3 ?_
  refine lz_bool 628 C0 dL_law_628 dL_law_631 dL_law_632 dL_law_635 ?_
  obtain ⟨fs, hfs⟩ := lz_hM (Y := Y) (am := am) (u := u)
  refine lz_callV (pc := 636) (index := 110) (n := 3) (rest := []) (W0 := cl_mdl Y am u) (Wr := lz_C Y o0 ast ald ahi act acd bo st' ld' hi' ct' cd' fo') (As := [.int (xs (i + 1).toNatClampNeg), .int (xs (i + 2).toNatClampNeg), .int (if xs (i + 3).toNatClampNeg = 0 then 0 else 1)]) C0 hG hapM lz_eM lz_eC (lz_d2 hdMC) (ct_X7_protect l D Y am u (xs (i + 1).toNatClampNeg) (xs (i + 2).toNatClampNeg) (if xs (i + 3).toNatClampNeg = 0 then 0 else 1) (u', r) hm) gL_law_X7_protect rfl rfl rfl (by decide +kernel) ⟨Nat.le_of_ble_eq_true rfl, Nat.le_of_ble_eq_true rfl⟩ (qc := (RX7, TX7, 25)) rfl hfs rfl rfl hl.1 rfl (Nat.le_of_ble_eq_true rfl) dL_law_636 ⟨hc, hs⟩ hPM hPC hS (fun H locs hPM hPC hS => ?_)
  change W _ _ _ _ _ _ _ _ _ _ _ _ _ _ _ (F0 m 639 _ [.int r])
  refine lv_istore (lv' := [(6, .int r), (5, .int k), (0, .ref b), (1, .ref o0), (2, .ref (am 0)), (3, .ref bo), (4, .int i)]) hx hb dL_law_639 hl (by decide) rfl (fun ls hl => ?_)
  exact lz_tailZ 641 C0 hG hapM ⟨hc, hs⟩ hPM ek hPC er hl dL_law_641 dL_law_642 dL_law_645 dL_law_647 dL_law_652 dL_law_654 dL_law_657 dL_law_658 dL_law_659 dL_law_660 dL_law_662 dL_law_665 dL_law_666 dL_law_669 dL_law_670 dL_law_671 dL_law_676 (by decide) (fun ls hl => K n' bb' d' st' ld' hi' ct' cd' u' fo' H locs ls R' hPC hPM hS hl)
set_option maxHeartbeats 4000000 in
set_option maxRecDepth 100000 in
theorem lz_c_hold (X : lz_X p l s m meth c b L xs D Y o0 ast ald ahi act acd bo am) (g1 : vp_in (i + 1) L) (g2 : vp_in (i + 2) L) (g3 : vp_in (i + 3) L) (hc : cells + 4 ≤ 601024) (hs : slots + 24 ≤ 7293034) (K : lz_go p l e s m below meth c b D Y o0 ast ald ahi act acd bo am 1356 i (cells + 4) (slots + 24)) : lz_go p l e s m below meth c b D Y o0 ast ald ahi act acd bo am 679 i cells slots := by
  obtain ⟨C0, hl0, hG, hB, hNC, hapC, hapM, hdMC⟩ := X
  obtain ⟨hx, hb, -⟩ := id C0
  intro n bb d st ld hi ct cd u fo H locs ls R hPC hPM hS hl
  obtain ⟨u', r, k, n', bb', d', st', ld', hi', ct', cd', fo', hm, R', ek, er, hML⟩ := lz_u_hold (D := D) (Y := Y) (o0 := o0) (bo := bo) (fo := fo) (ast := ast) (ald := ald) (ahi := ahi) (act := act) (acd := acd) R hl0 (xs (i + 1).toNatClampNeg)
  refine lv_aload_n hx hb dL_law_679 rfl (lv_at hl 1 rfl) ?_
  refine lz_arg 680 C0 hS (lv_at hl 0 rfl) (lv_at hl 4 rfl) dL_law_680 dL_law_681 dL_law_683 dL_law_684 dL_law_685 (v := 1) (by decide) g1 ?_
  refine lv_aload_n hx hb dL_law_686 rfl (lv_at hl 3 rfl) ?_
  refine lz_callL (pc := 687) (index := 111) (n := 3) (rest := []) (Wr := cl_mdl Y am u) C0 hG hB hNC hapC lz_eC lz_eM hdMC hML gL_law_L_hold rfl rfl rfl (by decide +kernel) ⟨Nat.le_of_ble_eq_true rfl, Nat.le_of_ble_eq_true rfl⟩ rfl hl.1 rfl (Nat.le_of_ble_eq_true rfl) dL_law_687 ⟨Nat.le_trans (by omega) hc, Nat.le_trans (by omega) hs⟩ hPC hPM hS (fun H locs hPC hPM hS => ?_)
  change W _ _ _ _ _ _ _ _ _ _ _ _ _ _ _ (F0 m 690 _ [.int k])
  refine W.widen (k := cells + 4) (n := slots + 24) (by omega) (by omega) ?_
  refine lv_istore (lv' := [(5, .int k), (0, .ref b), (1, .ref o0), (2, .ref (am 0)), (3, .ref bo), (4, .int i)]) hx hb dL_law_690 hl (by decide) rfl (fun ls hl => ?_)
  refine lv_aload_n hx hb dL_law_692 rfl (lv_at hl 3 rfl) ?_
  refine lz_arg 693 C0 hS (lv_at hl 1 rfl) (lv_at hl 5 rfl) dL_law_693 dL_law_694 dL_law_696 dL_law_697 dL_law_698 (v := 1) (by decide) g1 ?_
  obtain ⟨fs, hfs⟩ := lz_hM (Y := Y) (am := am) (u := u)
  refine lz_callV (pc := 699) (index := 113) (n := 1) (rest := []) (W0 := cl_mdl Y am u) (Wr := lz_C Y o0 ast ald ahi act acd bo st' ld' hi' ct' cd' fo') (As := [.int (xs (i + 1).toNatClampNeg)]) C0 hG hapM lz_eM lz_eC (lz_d2 hdMC) (ct_X7_hold l D Y am u (xs (i + 1).toNatClampNeg) (u', r) hm) gL_law_X7_hold rfl rfl rfl (by decide +kernel) ⟨Nat.le_of_ble_eq_true rfl, Nat.le_of_ble_eq_true rfl⟩ (qc := (RX7, TX7, 25)) rfl hfs rfl rfl hl.1 rfl (Nat.le_of_ble_eq_true rfl) dL_law_699 ⟨hc, hs⟩ hPM hPC hS (fun H locs hPM hPC hS => ?_)
  change W _ _ _ _ _ _ _ _ _ _ _ _ _ _ _ (F0 m 702 _ [.int r])
  refine lv_istore (lv' := [(6, .int r), (5, .int k), (0, .ref b), (1, .ref o0), (2, .ref (am 0)), (3, .ref bo), (4, .int i)]) hx hb dL_law_702 hl (by decide) rfl (fun ls hl => ?_)
  exact lz_tailI 704 C0 hG hapM ⟨hc, hs⟩ hPM ek hPC er hl dL_law_704 dL_law_705 dL_law_708 dL_law_710 dL_law_715 dL_law_717 dL_law_720 dL_law_721 dL_law_722 dL_law_723 dL_law_725 dL_law_726 dL_law_727 dL_law_732 (by decide) (fun ls hl => K n' bb' d' st' ld' hi' ct' cd' u' fo' H locs ls R' hPC hPM hS hl)
end CASES
