section LAW
variable {p : Program} {l : Launch} {e : Env} {s : State} {m : MethodId} {below : List Frame} {meth : Method} {c : Code} {H : Heap} {locs : List Loc} {cells slots : Nat} {Q : State → Prop} {ls : Array Slot} {D : va_G} {Y : cq_Y} {b L : Nat} {xs : Nat → Int32} {o0 : Nat} {ast ald ahi act acd ar : Nat → Nat}
variable {n bt d U tn K y r : Nat} {st : SetS} {ld : LodS} {hi : HisS} {ct cd : CatS} {u : MdlS} {v li : FL} {h ev nn qq bb t uu : FI} {dr : Int64}
set_option maxHeartbeats 4000000 in
set_option maxRecDepth 100000 in
theorem qz_B10 (X : qz_X p l s m meth c b L xs D Y o0 ast ald ahi act acd ar) (hc : cells + 4000 ≤ 600130) (hsl : slots + 24000 ≤ 7301080) (I : IV n bt d U st ld hi ct cd u v h ev nn qq li bb t uu dr) (hP : va_P D vwCl (qz_A Y ar v h ev nn qq li bb t uu) H) (hPK : va_P D vwCl (lz_K Y o0 ast ald ahi act acd st ld hi ct cd) H) (hS : va_S (fun q => s.heap.size ≤ q) s.heap H locs)  (hy : y < 2147483648) (kk : ∀ (x o9 nx : Nat) (ls : Array Slot), (bt = 0 → x = 0) → (¬ bt = 0 → x < bt) → (o9 = if U.testBit x = true then 1 else 0) → nx < 2 → lv_has ls 23 [(0, .ref b), (1, .ref o0), (2, .ref (ar 0)), (3, .ref (ar 1)), (4, .ref (ar 2)), (5, .ref (ar 5)), (6, .ref (ar 6)), (7, .ref (ar 7)), (8, .ref (ar 3)), (9, .ref (ar 8)), (10, .ref (ar 4)), (11, .long dr), (13, .int 1), (14, .int (nI tn)), (19, .int (nI x)), (20, .int (nI o9)), (21, .int (nI nx))] → W p l e room_1 s m #[Value.ref b] below meth c H locs (cells) (slots) Q (F0 m 1422 ls [])) (hl : lv_has ls 23 [(0, .ref b), (1, .ref o0), (2, .ref (ar 0)), (3, .ref (ar 1)), (4, .ref (ar 2)), (5, .ref (ar 5)), (6, .ref (ar 6)), (7, .ref (ar 7)), (8, .ref (ar 3)), (9, .ref (ar 8)), (10, .ref (ar 4)), (11, .long dr), (13, .int 1), (14, .int (nI tn)), (17, .int (nI y))]) : W p l e room_1 s m #[Value.ref b] below meth c H locs (cells) (slots) Q (F0 m 1355 ls []) := by
  obtain ⟨C0, hl0, hG, hB, hNC, hap⟩ := id X
  obtain ⟨hx, hb, hr, hml, hown, htb, hX, hbl, hlocks, hgv⟩ := id C0
  have hown : s.vm.findClass RL = some m.cls := hown
  have hts : ∀ w ∈ wsL_law, w.before #[Value.ref b] s = true := fun w h => htb w (wsL_law_in w h)
  have hD : va_D (fun q => s.heap.size ≤ q) (qz_A Y ar v h ev nn qq li bb t uu) := qz_apD hap qz_eA
  have hN := I.2.2.2.2.2.2.1
  have hn40 := I.2.2.2.2.2.2.2.1
  have hb10 := I.1.1.2.1
  by_cases hbt : bt = 0
  · by_cases hbit : U.testBit 0 = true
    · by_cases h3 : (y / 10) % 4 = 0
      · refine lv_aload hx hb dL_law_1355 (lv_at hl 8 rfl) ?_
        refine lv_iconst (v := 0) hx hb dL_law_1357 (by decide) ?_
        refine va_iald hx hb hG.1 hP 3 0 rfl rfl (inb_in (by decide)) dL_law_1358 ?_
        refine lv_topi (fun w_381 ew_381 => ?_)
        obtain rfl : w_381 = nn 0 := ew_381.trans (congrArg nn (show ((0 : Int32).toNatClampNeg) = 0 by decide))
        refine lv_topi (fun w_382 ew_382 => ?_)
        obtain rfl : w_382 = nI bt := ew_382.trans hN.1
        refine lv_if_ne (tgt := 1366) hx hb dL_law_1359 (by decide) (fun c_383 => ?_) (fun c_383 => ?_)
        · exact absurd ((n0 (by omega)).mpr hbt) c_383
        · refine lv_iconst (v := 0) hx hb dL_law_1362 (by decide) ?_
          refine lv_goto (tgt := 1373) hx hb dL_law_1363 (by decide) ?_
          refine lv_topi (fun w_384 ew_384 => ?_)
          obtain rfl : w_384 = nI 0 := ew_384.trans (show (0 : Int32) = nI 0 from rfl)
          refine lv_istore (lv' := [(19, .int (nI 0)), (0, .ref b), (1, .ref o0), (2, .ref (ar 0)), (3, .ref (ar 1)), (4, .ref (ar 2)), (5, .ref (ar 5)), (6, .ref (ar 6)), (7, .ref (ar 7)), (8, .ref (ar 3)), (9, .ref (ar 8)), (10, .ref (ar 4)), (11, .long dr), (13, .int 1), (14, .int (nI tn)), (17, .int (nI y))]) hx hb dL_law_1373 hl (by decide) rfl (fun ls hl => ?_)
          refine lv_aload hx hb dL_law_1375 (lv_at hl 10 rfl) ?_
          refine lv_iconst (v := 0) hx hb dL_law_1377 (by decide) ?_
          refine va_iald hx hb hG.1 hP 8 0 rfl rfl (inb_in (by decide)) dL_law_1378 ?_
          refine lv_topi (fun w_385 ew_385 => ?_)
          obtain rfl : w_385 = uu 0 := ew_385.trans (congrArg uu (show ((0 : Int32).toNatClampNeg) = 0 by decide))
          refine lv_topi (fun w_386 ew_386 => ?_)
          obtain rfl : w_386 = nI U := ew_386.trans I.2.2.2.2.2.1.1
          refine lv_iload hx hb dL_law_1379 (lv_at hl 0 rfl) ?_
          refine lv_ishr hx hb dL_law_1381 ?_
          refine lv_iconst (v := 1) hx hb dL_law_1382 (by decide) ?_
          refine lv_iand hx hb dL_law_1383 ?_
          refine lv_topi (fun w_387 ew_387 => ?_)
          obtain rfl : w_387 = 1 := ew_387.trans ((ubit U I.2.2.2.2.2.1.2.1 0 (by omega)).trans (if_pos hbit))
          refine lv_iconst (v := 1) hx hb dL_law_1384 (by decide) ?_
          refine lv_icmp_ne (tgt := 1392) hx hb dL_law_1385 (by decide) (fun c_388 => ?_) (fun c_388 => ?_)
          · exact absurd c_388 (by decide)
          · refine lv_iconst (v := 1) hx hb dL_law_1388 (by decide) ?_
            refine lv_goto (tgt := 1393) hx hb dL_law_1389 (by decide) ?_
            refine lv_topi (fun w_389 ew_389 => ?_)
            obtain rfl : w_389 = nI 1 := ew_389.trans (show (1 : Int32) = nI 1 from rfl)
            refine lv_istore (lv' := [(20, .int (nI 1)), (19, .int (nI 0)), (0, .ref b), (1, .ref o0), (2, .ref (ar 0)), (3, .ref (ar 1)), (4, .ref (ar 2)), (5, .ref (ar 5)), (6, .ref (ar 6)), (7, .ref (ar 7)), (8, .ref (ar 3)), (9, .ref (ar 8)), (10, .ref (ar 4)), (11, .long dr), (13, .int 1), (14, .int (nI tn)), (17, .int (nI y))]) hx hb dL_law_1393 hl (by decide) rfl (fun ls hl => ?_)
            refine lv_iload hx hb dL_law_1395 (lv_at hl 16 rfl) ?_
            refine lv_bipush (v := 10) hx hb dL_law_1397 (by decide) ?_
            refine lv_idiv hx hb dL_law_1399 (by decide) ?_
            refine lv_topi (fun w_390 ew_390 => ?_)
            obtain rfl : w_390 = nI (y / 10) := ew_390.trans (nI_dv (a := y) (b := 10) (by omega) (by omega))
            refine lv_iconst (v := 4) hx hb dL_law_1400 (by decide) ?_
            refine lv_irem hx hb dL_law_1401 (by decide) ?_
            refine lv_topi (fun w_391 ew_391 => ?_)
            obtain rfl : w_391 = nI ((y / 10) % 4) := ew_391.trans (nI_md (a := y / 10) (b := 4) (by omega) (by omega))
            refine lv_if_le (tgt := 1418) hx hb dL_law_1402 (by decide) (fun c_392 => ?_) (fun c_392 => ?_)
            · refine lv_iload hx hb dL_law_1418 (lv_at hl 0 rfl) ?_
              refine lv_istore (lv' := [(21, .int (nI 1)), (20, .int (nI 1)), (19, .int (nI 0)), (0, .ref b), (1, .ref o0), (2, .ref (ar 0)), (3, .ref (ar 1)), (4, .ref (ar 2)), (5, .ref (ar 5)), (6, .ref (ar 6)), (7, .ref (ar 7)), (8, .ref (ar 3)), (9, .ref (ar 8)), (10, .ref (ar 4)), (11, .long dr), (13, .int 1), (14, .int (nI tn)), (17, .int (nI y))]) hx hb dL_law_1420 hl (by decide) rfl (fun ls hl => ?_)
              exact kk 0 1 1 ls (fun _ => rfl) (fun h9 => absurd hbt h9) (if_pos hbit).symm (by decide) (lv_sub hl [3, 4, 5, 6, 7, 8, 9, 10, 11, 12, 13, 14, 15, 16, 2, 1, 0] rfl)
            · exact absurd ((nle0 (by omega)).mpr h3) c_392
      · refine lv_aload hx hb dL_law_1355 (lv_at hl 8 rfl) ?_
        refine lv_iconst (v := 0) hx hb dL_law_1357 (by decide) ?_
        refine va_iald hx hb hG.1 hP 3 0 rfl rfl (inb_in (by decide)) dL_law_1358 ?_
        refine lv_topi (fun w_393 ew_393 => ?_)
        obtain rfl : w_393 = nn 0 := ew_393.trans (congrArg nn (show ((0 : Int32).toNatClampNeg) = 0 by decide))
        refine lv_topi (fun w_394 ew_394 => ?_)
        obtain rfl : w_394 = nI bt := ew_394.trans hN.1
        refine lv_if_ne (tgt := 1366) hx hb dL_law_1359 (by decide) (fun c_395 => ?_) (fun c_395 => ?_)
        · exact absurd ((n0 (by omega)).mpr hbt) c_395
        · refine lv_iconst (v := 0) hx hb dL_law_1362 (by decide) ?_
          refine lv_goto (tgt := 1373) hx hb dL_law_1363 (by decide) ?_
          refine lv_topi (fun w_396 ew_396 => ?_)
          obtain rfl : w_396 = nI 0 := ew_396.trans (show (0 : Int32) = nI 0 from rfl)
          refine lv_istore (lv' := [(19, .int (nI 0)), (0, .ref b), (1, .ref o0), (2, .ref (ar 0)), (3, .ref (ar 1)), (4, .ref (ar 2)), (5, .ref (ar 5)), (6, .ref (ar 6)), (7, .ref (ar 7)), (8, .ref (ar 3)), (9, .ref (ar 8)), (10, .ref (ar 4)), (11, .long dr), (13, .int 1), (14, .int (nI tn)), (17, .int (nI y))]) hx hb dL_law_1373 hl (by decide) rfl (fun ls hl => ?_)
          refine lv_aload hx hb dL_law_1375 (lv_at hl 10 rfl) ?_
          refine lv_iconst (v := 0) hx hb dL_law_1377 (by decide) ?_
          refine va_iald hx hb hG.1 hP 8 0 rfl rfl (inb_in (by decide)) dL_law_1378 ?_
          refine lv_topi (fun w_397 ew_397 => ?_)
          obtain rfl : w_397 = uu 0 := ew_397.trans (congrArg uu (show ((0 : Int32).toNatClampNeg) = 0 by decide))
          refine lv_topi (fun w_398 ew_398 => ?_)
          obtain rfl : w_398 = nI U := ew_398.trans I.2.2.2.2.2.1.1
          refine lv_iload hx hb dL_law_1379 (lv_at hl 0 rfl) ?_
          refine lv_ishr hx hb dL_law_1381 ?_
          refine lv_iconst (v := 1) hx hb dL_law_1382 (by decide) ?_
          refine lv_iand hx hb dL_law_1383 ?_
          refine lv_topi (fun w_399 ew_399 => ?_)
          obtain rfl : w_399 = 1 := ew_399.trans ((ubit U I.2.2.2.2.2.1.2.1 0 (by omega)).trans (if_pos hbit))
          refine lv_iconst (v := 1) hx hb dL_law_1384 (by decide) ?_
          refine lv_icmp_ne (tgt := 1392) hx hb dL_law_1385 (by decide) (fun c_400 => ?_) (fun c_400 => ?_)
          · exact absurd c_400 (by decide)
          · refine lv_iconst (v := 1) hx hb dL_law_1388 (by decide) ?_
            refine lv_goto (tgt := 1393) hx hb dL_law_1389 (by decide) ?_
            refine lv_topi (fun w_401 ew_401 => ?_)
            obtain rfl : w_401 = nI 1 := ew_401.trans (show (1 : Int32) = nI 1 from rfl)
            refine lv_istore (lv' := [(20, .int (nI 1)), (19, .int (nI 0)), (0, .ref b), (1, .ref o0), (2, .ref (ar 0)), (3, .ref (ar 1)), (4, .ref (ar 2)), (5, .ref (ar 5)), (6, .ref (ar 6)), (7, .ref (ar 7)), (8, .ref (ar 3)), (9, .ref (ar 8)), (10, .ref (ar 4)), (11, .long dr), (13, .int 1), (14, .int (nI tn)), (17, .int (nI y))]) hx hb dL_law_1393 hl (by decide) rfl (fun ls hl => ?_)
            refine lv_iload hx hb dL_law_1395 (lv_at hl 16 rfl) ?_
            refine lv_bipush (v := 10) hx hb dL_law_1397 (by decide) ?_
            refine lv_idiv hx hb dL_law_1399 (by decide) ?_
            refine lv_topi (fun w_402 ew_402 => ?_)
            obtain rfl : w_402 = nI (y / 10) := ew_402.trans (nI_dv (a := y) (b := 10) (by omega) (by omega))
            refine lv_iconst (v := 4) hx hb dL_law_1400 (by decide) ?_
            refine lv_irem hx hb dL_law_1401 (by decide) ?_
            refine lv_topi (fun w_403 ew_403 => ?_)
            obtain rfl : w_403 = nI ((y / 10) % 4) := ew_403.trans (nI_md (a := y / 10) (b := 4) (by omega) (by omega))
            refine lv_if_le (tgt := 1418) hx hb dL_law_1402 (by decide) (fun c_404 => ?_) (fun c_404 => ?_)
            · exact absurd c_404 (fun h9 => h3 ((nle0 (by omega)).mp h9))
            · refine lv_iload hx hb dL_law_1405 (lv_at hl 0 rfl) ?_
              refine lv_topi (fun w_405 ew_405 => ?_)
              obtain rfl : w_405 = 1 := ew_405.trans (show nI 1 = 1 from rfl)
              refine lv_if_ne (tgt := 1414) hx hb dL_law_1407 (by decide) (fun c_406 => ?_) (fun c_406 => ?_)
              · refine lv_iconst (v := 0) hx hb dL_law_1414 (by decide) ?_
                refine lv_goto (tgt := 1420) hx hb dL_law_1415 (by decide) ?_
                refine lv_topi (fun w_407 ew_407 => ?_)
                obtain rfl : w_407 = nI 0 := ew_407.trans (show (0 : Int32) = nI 0 from rfl)
                refine lv_istore (lv' := [(21, .int (nI 0)), (20, .int (nI 1)), (19, .int (nI 0)), (0, .ref b), (1, .ref o0), (2, .ref (ar 0)), (3, .ref (ar 1)), (4, .ref (ar 2)), (5, .ref (ar 5)), (6, .ref (ar 6)), (7, .ref (ar 7)), (8, .ref (ar 3)), (9, .ref (ar 8)), (10, .ref (ar 4)), (11, .long dr), (13, .int 1), (14, .int (nI tn)), (17, .int (nI y))]) hx hb dL_law_1420 hl (by decide) rfl (fun ls hl => ?_)
                exact kk 0 1 0 ls (fun _ => rfl) (fun h9 => absurd hbt h9) (if_pos hbit).symm (by decide) (lv_sub hl [3, 4, 5, 6, 7, 8, 9, 10, 11, 12, 13, 14, 15, 16, 2, 1, 0] rfl)
              · exact absurd c_406 (by decide)
    · by_cases h3 : (y / 10) % 4 = 0
      · refine lv_aload hx hb dL_law_1355 (lv_at hl 8 rfl) ?_
        refine lv_iconst (v := 0) hx hb dL_law_1357 (by decide) ?_
        refine va_iald hx hb hG.1 hP 3 0 rfl rfl (inb_in (by decide)) dL_law_1358 ?_
        refine lv_topi (fun w_408 ew_408 => ?_)
        obtain rfl : w_408 = nn 0 := ew_408.trans (congrArg nn (show ((0 : Int32).toNatClampNeg) = 0 by decide))
        refine lv_topi (fun w_409 ew_409 => ?_)
        obtain rfl : w_409 = nI bt := ew_409.trans hN.1
        refine lv_if_ne (tgt := 1366) hx hb dL_law_1359 (by decide) (fun c_410 => ?_) (fun c_410 => ?_)
        · exact absurd ((n0 (by omega)).mpr hbt) c_410
        · refine lv_iconst (v := 0) hx hb dL_law_1362 (by decide) ?_
          refine lv_goto (tgt := 1373) hx hb dL_law_1363 (by decide) ?_
          refine lv_topi (fun w_411 ew_411 => ?_)
          obtain rfl : w_411 = nI 0 := ew_411.trans (show (0 : Int32) = nI 0 from rfl)
          refine lv_istore (lv' := [(19, .int (nI 0)), (0, .ref b), (1, .ref o0), (2, .ref (ar 0)), (3, .ref (ar 1)), (4, .ref (ar 2)), (5, .ref (ar 5)), (6, .ref (ar 6)), (7, .ref (ar 7)), (8, .ref (ar 3)), (9, .ref (ar 8)), (10, .ref (ar 4)), (11, .long dr), (13, .int 1), (14, .int (nI tn)), (17, .int (nI y))]) hx hb dL_law_1373 hl (by decide) rfl (fun ls hl => ?_)
          refine lv_aload hx hb dL_law_1375 (lv_at hl 10 rfl) ?_
          refine lv_iconst (v := 0) hx hb dL_law_1377 (by decide) ?_
          refine va_iald hx hb hG.1 hP 8 0 rfl rfl (inb_in (by decide)) dL_law_1378 ?_
          refine lv_topi (fun w_412 ew_412 => ?_)
          obtain rfl : w_412 = uu 0 := ew_412.trans (congrArg uu (show ((0 : Int32).toNatClampNeg) = 0 by decide))
          refine lv_topi (fun w_413 ew_413 => ?_)
          obtain rfl : w_413 = nI U := ew_413.trans I.2.2.2.2.2.1.1
          refine lv_iload hx hb dL_law_1379 (lv_at hl 0 rfl) ?_
          refine lv_ishr hx hb dL_law_1381 ?_
          refine lv_iconst (v := 1) hx hb dL_law_1382 (by decide) ?_
          refine lv_iand hx hb dL_law_1383 ?_
          refine lv_topi (fun w_414 ew_414 => ?_)
          obtain rfl : w_414 = 0 := ew_414.trans ((ubit U I.2.2.2.2.2.1.2.1 0 (by omega)).trans (if_neg hbit))
          refine lv_iconst (v := 1) hx hb dL_law_1384 (by decide) ?_
          refine lv_icmp_ne (tgt := 1392) hx hb dL_law_1385 (by decide) (fun c_415 => ?_) (fun c_415 => ?_)
          · refine lv_iconst (v := 0) hx hb dL_law_1392 (by decide) ?_
            refine lv_topi (fun w_416 ew_416 => ?_)
            obtain rfl : w_416 = nI 0 := ew_416.trans (show (0 : Int32) = nI 0 from rfl)
            refine lv_istore (lv' := [(20, .int (nI 0)), (19, .int (nI 0)), (0, .ref b), (1, .ref o0), (2, .ref (ar 0)), (3, .ref (ar 1)), (4, .ref (ar 2)), (5, .ref (ar 5)), (6, .ref (ar 6)), (7, .ref (ar 7)), (8, .ref (ar 3)), (9, .ref (ar 8)), (10, .ref (ar 4)), (11, .long dr), (13, .int 1), (14, .int (nI tn)), (17, .int (nI y))]) hx hb dL_law_1393 hl (by decide) rfl (fun ls hl => ?_)
            refine lv_iload hx hb dL_law_1395 (lv_at hl 16 rfl) ?_
            refine lv_bipush (v := 10) hx hb dL_law_1397 (by decide) ?_
            refine lv_idiv hx hb dL_law_1399 (by decide) ?_
            refine lv_topi (fun w_417 ew_417 => ?_)
            obtain rfl : w_417 = nI (y / 10) := ew_417.trans (nI_dv (a := y) (b := 10) (by omega) (by omega))
            refine lv_iconst (v := 4) hx hb dL_law_1400 (by decide) ?_
            refine lv_irem hx hb dL_law_1401 (by decide) ?_
            refine lv_topi (fun w_418 ew_418 => ?_)
            obtain rfl : w_418 = nI ((y / 10) % 4) := ew_418.trans (nI_md (a := y / 10) (b := 4) (by omega) (by omega))
            refine lv_if_le (tgt := 1418) hx hb dL_law_1402 (by decide) (fun c_419 => ?_) (fun c_419 => ?_)
            · refine lv_iload hx hb dL_law_1418 (lv_at hl 0 rfl) ?_
              refine lv_istore (lv' := [(21, .int (nI 0)), (20, .int (nI 0)), (19, .int (nI 0)), (0, .ref b), (1, .ref o0), (2, .ref (ar 0)), (3, .ref (ar 1)), (4, .ref (ar 2)), (5, .ref (ar 5)), (6, .ref (ar 6)), (7, .ref (ar 7)), (8, .ref (ar 3)), (9, .ref (ar 8)), (10, .ref (ar 4)), (11, .long dr), (13, .int 1), (14, .int (nI tn)), (17, .int (nI y))]) hx hb dL_law_1420 hl (by decide) rfl (fun ls hl => ?_)
              exact kk 0 0 0 ls (fun _ => rfl) (fun h9 => absurd hbt h9) (if_neg hbit).symm (by decide) (lv_sub hl [3, 4, 5, 6, 7, 8, 9, 10, 11, 12, 13, 14, 15, 16, 2, 1, 0] rfl)
            · exact absurd ((nle0 (by omega)).mpr h3) c_419
          · exact absurd c_415 (by decide)
      · refine lv_aload hx hb dL_law_1355 (lv_at hl 8 rfl) ?_
        refine lv_iconst (v := 0) hx hb dL_law_1357 (by decide) ?_
        refine va_iald hx hb hG.1 hP 3 0 rfl rfl (inb_in (by decide)) dL_law_1358 ?_
        refine lv_topi (fun w_420 ew_420 => ?_)
        obtain rfl : w_420 = nn 0 := ew_420.trans (congrArg nn (show ((0 : Int32).toNatClampNeg) = 0 by decide))
        refine lv_topi (fun w_421 ew_421 => ?_)
        obtain rfl : w_421 = nI bt := ew_421.trans hN.1
        refine lv_if_ne (tgt := 1366) hx hb dL_law_1359 (by decide) (fun c_422 => ?_) (fun c_422 => ?_)
        · exact absurd ((n0 (by omega)).mpr hbt) c_422
        · refine lv_iconst (v := 0) hx hb dL_law_1362 (by decide) ?_
          refine lv_goto (tgt := 1373) hx hb dL_law_1363 (by decide) ?_
          refine lv_topi (fun w_423 ew_423 => ?_)
          obtain rfl : w_423 = nI 0 := ew_423.trans (show (0 : Int32) = nI 0 from rfl)
          refine lv_istore (lv' := [(19, .int (nI 0)), (0, .ref b), (1, .ref o0), (2, .ref (ar 0)), (3, .ref (ar 1)), (4, .ref (ar 2)), (5, .ref (ar 5)), (6, .ref (ar 6)), (7, .ref (ar 7)), (8, .ref (ar 3)), (9, .ref (ar 8)), (10, .ref (ar 4)), (11, .long dr), (13, .int 1), (14, .int (nI tn)), (17, .int (nI y))]) hx hb dL_law_1373 hl (by decide) rfl (fun ls hl => ?_)
          refine lv_aload hx hb dL_law_1375 (lv_at hl 10 rfl) ?_
          refine lv_iconst (v := 0) hx hb dL_law_1377 (by decide) ?_
          refine va_iald hx hb hG.1 hP 8 0 rfl rfl (inb_in (by decide)) dL_law_1378 ?_
          refine lv_topi (fun w_424 ew_424 => ?_)
          obtain rfl : w_424 = uu 0 := ew_424.trans (congrArg uu (show ((0 : Int32).toNatClampNeg) = 0 by decide))
          refine lv_topi (fun w_425 ew_425 => ?_)
          obtain rfl : w_425 = nI U := ew_425.trans I.2.2.2.2.2.1.1
          refine lv_iload hx hb dL_law_1379 (lv_at hl 0 rfl) ?_
          refine lv_ishr hx hb dL_law_1381 ?_
          refine lv_iconst (v := 1) hx hb dL_law_1382 (by decide) ?_
          refine lv_iand hx hb dL_law_1383 ?_
          refine lv_topi (fun w_426 ew_426 => ?_)
          obtain rfl : w_426 = 0 := ew_426.trans ((ubit U I.2.2.2.2.2.1.2.1 0 (by omega)).trans (if_neg hbit))
          refine lv_iconst (v := 1) hx hb dL_law_1384 (by decide) ?_
          refine lv_icmp_ne (tgt := 1392) hx hb dL_law_1385 (by decide) (fun c_427 => ?_) (fun c_427 => ?_)
          · refine lv_iconst (v := 0) hx hb dL_law_1392 (by decide) ?_
            refine lv_topi (fun w_428 ew_428 => ?_)
            obtain rfl : w_428 = nI 0 := ew_428.trans (show (0 : Int32) = nI 0 from rfl)
            refine lv_istore (lv' := [(20, .int (nI 0)), (19, .int (nI 0)), (0, .ref b), (1, .ref o0), (2, .ref (ar 0)), (3, .ref (ar 1)), (4, .ref (ar 2)), (5, .ref (ar 5)), (6, .ref (ar 6)), (7, .ref (ar 7)), (8, .ref (ar 3)), (9, .ref (ar 8)), (10, .ref (ar 4)), (11, .long dr), (13, .int 1), (14, .int (nI tn)), (17, .int (nI y))]) hx hb dL_law_1393 hl (by decide) rfl (fun ls hl => ?_)
            refine lv_iload hx hb dL_law_1395 (lv_at hl 16 rfl) ?_
            refine lv_bipush (v := 10) hx hb dL_law_1397 (by decide) ?_
            refine lv_idiv hx hb dL_law_1399 (by decide) ?_
            refine lv_topi (fun w_429 ew_429 => ?_)
            obtain rfl : w_429 = nI (y / 10) := ew_429.trans (nI_dv (a := y) (b := 10) (by omega) (by omega))
            refine lv_iconst (v := 4) hx hb dL_law_1400 (by decide) ?_
            refine lv_irem hx hb dL_law_1401 (by decide) ?_
            refine lv_topi (fun w_430 ew_430 => ?_)
            obtain rfl : w_430 = nI ((y / 10) % 4) := ew_430.trans (nI_md (a := y / 10) (b := 4) (by omega) (by omega))
            refine lv_if_le (tgt := 1418) hx hb dL_law_1402 (by decide) (fun c_431 => ?_) (fun c_431 => ?_)
            · exact absurd c_431 (fun h9 => h3 ((nle0 (by omega)).mp h9))
            · refine lv_iload hx hb dL_law_1405 (lv_at hl 0 rfl) ?_
              refine lv_topi (fun w_432 ew_432 => ?_)
              obtain rfl : w_432 = 0 := ew_432.trans (show nI 0 = 0 from rfl)
              refine lv_if_ne (tgt := 1414) hx hb dL_law_1407 (by decide) (fun c_433 => ?_) (fun c_433 => ?_)
              · exact absurd c_433 (by decide)
              · refine lv_iconst (v := 1) hx hb dL_law_1410 (by decide) ?_
                refine lv_goto (tgt := 1420) hx hb dL_law_1411 (by decide) ?_
                refine lv_topi (fun w_434 ew_434 => ?_)
                obtain rfl : w_434 = nI 1 := ew_434.trans (show (1 : Int32) = nI 1 from rfl)
                refine lv_istore (lv' := [(21, .int (nI 1)), (20, .int (nI 0)), (19, .int (nI 0)), (0, .ref b), (1, .ref o0), (2, .ref (ar 0)), (3, .ref (ar 1)), (4, .ref (ar 2)), (5, .ref (ar 5)), (6, .ref (ar 6)), (7, .ref (ar 7)), (8, .ref (ar 3)), (9, .ref (ar 8)), (10, .ref (ar 4)), (11, .long dr), (13, .int 1), (14, .int (nI tn)), (17, .int (nI y))]) hx hb dL_law_1420 hl (by decide) rfl (fun ls hl => ?_)
                exact kk 0 0 1 ls (fun _ => rfl) (fun h9 => absurd hbt h9) (if_neg hbit).symm (by decide) (lv_sub hl [3, 4, 5, 6, 7, 8, 9, 10, 11, 12, 13, 14, 15, 16, 2, 1, 0] rfl)
          · exact absurd c_427 (by decide)
  · by_cases hbit : U.testBit (y % bt) = true
    · by_cases h3 : (y / 10) % 4 = 0
      · have hmb := Nat.mod_lt y (show bt > 0 by omega)
        refine lv_aload hx hb dL_law_1355 (lv_at hl 8 rfl) ?_
        refine lv_iconst (v := 0) hx hb dL_law_1357 (by decide) ?_
        refine va_iald hx hb hG.1 hP 3 0 rfl rfl (inb_in (by decide)) dL_law_1358 ?_
        refine lv_topi (fun w_435 ew_435 => ?_)
        obtain rfl : w_435 = nn 0 := ew_435.trans (congrArg nn (show ((0 : Int32).toNatClampNeg) = 0 by decide))
        refine lv_topi (fun w_436 ew_436 => ?_)
        obtain rfl : w_436 = nI bt := ew_436.trans hN.1
        refine lv_if_ne (tgt := 1366) hx hb dL_law_1359 (by decide) (fun c_437 => ?_) (fun c_437 => ?_)
        · refine lv_iload hx hb dL_law_1366 (lv_at hl 14 rfl) ?_
          refine lv_aload hx hb dL_law_1368 (lv_at hl 8 rfl) ?_
          refine lv_iconst (v := 0) hx hb dL_law_1370 (by decide) ?_
          refine va_iald hx hb hG.1 hP 3 0 rfl rfl (inb_in (by decide)) dL_law_1371 ?_
          refine lv_topi (fun w_438 ew_438 => ?_)
          obtain rfl : w_438 = nn 0 := ew_438.trans (congrArg nn (show ((0 : Int32).toNatClampNeg) = 0 by decide))
          refine lv_topi (fun w_439 ew_439 => ?_)
          obtain rfl : w_439 = nI bt := ew_439.trans hN.1
          refine lv_irem hx hb dL_law_1372 (fun h9 => hbt ((n0 (by omega)).mp h9)) ?_
          refine lv_topi (fun w_440 ew_440 => ?_)
          obtain rfl : w_440 = nI (y % bt) := ew_440.trans (nI_md (a := y) (b := bt) (by omega) (by omega))
          refine lv_istore (lv' := [(19, .int (nI (y % bt))), (0, .ref b), (1, .ref o0), (2, .ref (ar 0)), (3, .ref (ar 1)), (4, .ref (ar 2)), (5, .ref (ar 5)), (6, .ref (ar 6)), (7, .ref (ar 7)), (8, .ref (ar 3)), (9, .ref (ar 8)), (10, .ref (ar 4)), (11, .long dr), (13, .int 1), (14, .int (nI tn)), (17, .int (nI y))]) hx hb dL_law_1373 hl (by decide) rfl (fun ls hl => ?_)
          refine lv_aload hx hb dL_law_1375 (lv_at hl 10 rfl) ?_
          refine lv_iconst (v := 0) hx hb dL_law_1377 (by decide) ?_
          refine va_iald hx hb hG.1 hP 8 0 rfl rfl (inb_in (by decide)) dL_law_1378 ?_
          refine lv_topi (fun w_441 ew_441 => ?_)
          obtain rfl : w_441 = uu 0 := ew_441.trans (congrArg uu (show ((0 : Int32).toNatClampNeg) = 0 by decide))
          refine lv_topi (fun w_442 ew_442 => ?_)
          obtain rfl : w_442 = nI U := ew_442.trans I.2.2.2.2.2.1.1
          refine lv_iload hx hb dL_law_1379 (lv_at hl 0 rfl) ?_
          refine lv_ishr hx hb dL_law_1381 ?_
          refine lv_iconst (v := 1) hx hb dL_law_1382 (by decide) ?_
          refine lv_iand hx hb dL_law_1383 ?_
          refine lv_topi (fun w_443 ew_443 => ?_)
          obtain rfl : w_443 = 1 := ew_443.trans ((ubit U I.2.2.2.2.2.1.2.1 (y % bt) (by omega)).trans (if_pos hbit))
          refine lv_iconst (v := 1) hx hb dL_law_1384 (by decide) ?_
          refine lv_icmp_ne (tgt := 1392) hx hb dL_law_1385 (by decide) (fun c_444 => ?_) (fun c_444 => ?_)
          · exact absurd c_444 (by decide)
          · refine lv_iconst (v := 1) hx hb dL_law_1388 (by decide) ?_
            refine lv_goto (tgt := 1393) hx hb dL_law_1389 (by decide) ?_
            refine lv_topi (fun w_445 ew_445 => ?_)
            obtain rfl : w_445 = nI 1 := ew_445.trans (show (1 : Int32) = nI 1 from rfl)
            refine lv_istore (lv' := [(20, .int (nI 1)), (19, .int (nI (y % bt))), (0, .ref b), (1, .ref o0), (2, .ref (ar 0)), (3, .ref (ar 1)), (4, .ref (ar 2)), (5, .ref (ar 5)), (6, .ref (ar 6)), (7, .ref (ar 7)), (8, .ref (ar 3)), (9, .ref (ar 8)), (10, .ref (ar 4)), (11, .long dr), (13, .int 1), (14, .int (nI tn)), (17, .int (nI y))]) hx hb dL_law_1393 hl (by decide) rfl (fun ls hl => ?_)
            refine lv_iload hx hb dL_law_1395 (lv_at hl 16 rfl) ?_
            refine lv_bipush (v := 10) hx hb dL_law_1397 (by decide) ?_
            refine lv_idiv hx hb dL_law_1399 (by decide) ?_
            refine lv_topi (fun w_446 ew_446 => ?_)
            obtain rfl : w_446 = nI (y / 10) := ew_446.trans (nI_dv (a := y) (b := 10) (by omega) (by omega))
            refine lv_iconst (v := 4) hx hb dL_law_1400 (by decide) ?_
            refine lv_irem hx hb dL_law_1401 (by decide) ?_
            refine lv_topi (fun w_447 ew_447 => ?_)
            obtain rfl : w_447 = nI ((y / 10) % 4) := ew_447.trans (nI_md (a := y / 10) (b := 4) (by omega) (by omega))
            refine lv_if_le (tgt := 1418) hx hb dL_law_1402 (by decide) (fun c_448 => ?_) (fun c_448 => ?_)
            · refine lv_iload hx hb dL_law_1418 (lv_at hl 0 rfl) ?_
              refine lv_istore (lv' := [(21, .int (nI 1)), (20, .int (nI 1)), (19, .int (nI (y % bt))), (0, .ref b), (1, .ref o0), (2, .ref (ar 0)), (3, .ref (ar 1)), (4, .ref (ar 2)), (5, .ref (ar 5)), (6, .ref (ar 6)), (7, .ref (ar 7)), (8, .ref (ar 3)), (9, .ref (ar 8)), (10, .ref (ar 4)), (11, .long dr), (13, .int 1), (14, .int (nI tn)), (17, .int (nI y))]) hx hb dL_law_1420 hl (by decide) rfl (fun ls hl => ?_)
              exact kk (y % bt) 1 1 ls (fun h9 => absurd h9 hbt) (fun _ => hmb) (if_pos hbit).symm (by decide) (lv_sub hl [3, 4, 5, 6, 7, 8, 9, 10, 11, 12, 13, 14, 15, 16, 2, 1, 0] rfl)
            · exact absurd ((nle0 (by omega)).mpr h3) c_448
        · exact absurd c_437 (fun h9 => hbt ((n0 (by omega)).mp h9))
      · have hmb := Nat.mod_lt y (show bt > 0 by omega)
        refine lv_aload hx hb dL_law_1355 (lv_at hl 8 rfl) ?_
        refine lv_iconst (v := 0) hx hb dL_law_1357 (by decide) ?_
        refine va_iald hx hb hG.1 hP 3 0 rfl rfl (inb_in (by decide)) dL_law_1358 ?_
        refine lv_topi (fun w_449 ew_449 => ?_)
        obtain rfl : w_449 = nn 0 := ew_449.trans (congrArg nn (show ((0 : Int32).toNatClampNeg) = 0 by decide))
        refine lv_topi (fun w_450 ew_450 => ?_)
        obtain rfl : w_450 = nI bt := ew_450.trans hN.1
        refine lv_if_ne (tgt := 1366) hx hb dL_law_1359 (by decide) (fun c_451 => ?_) (fun c_451 => ?_)
        · refine lv_iload hx hb dL_law_1366 (lv_at hl 14 rfl) ?_
          refine lv_aload hx hb dL_law_1368 (lv_at hl 8 rfl) ?_
          refine lv_iconst (v := 0) hx hb dL_law_1370 (by decide) ?_
          refine va_iald hx hb hG.1 hP 3 0 rfl rfl (inb_in (by decide)) dL_law_1371 ?_
          refine lv_topi (fun w_452 ew_452 => ?_)
          obtain rfl : w_452 = nn 0 := ew_452.trans (congrArg nn (show ((0 : Int32).toNatClampNeg) = 0 by decide))
          refine lv_topi (fun w_453 ew_453 => ?_)
          obtain rfl : w_453 = nI bt := ew_453.trans hN.1
          refine lv_irem hx hb dL_law_1372 (fun h9 => hbt ((n0 (by omega)).mp h9)) ?_
          refine lv_topi (fun w_454 ew_454 => ?_)
          obtain rfl : w_454 = nI (y % bt) := ew_454.trans (nI_md (a := y) (b := bt) (by omega) (by omega))
          refine lv_istore (lv' := [(19, .int (nI (y % bt))), (0, .ref b), (1, .ref o0), (2, .ref (ar 0)), (3, .ref (ar 1)), (4, .ref (ar 2)), (5, .ref (ar 5)), (6, .ref (ar 6)), (7, .ref (ar 7)), (8, .ref (ar 3)), (9, .ref (ar 8)), (10, .ref (ar 4)), (11, .long dr), (13, .int 1), (14, .int (nI tn)), (17, .int (nI y))]) hx hb dL_law_1373 hl (by decide) rfl (fun ls hl => ?_)
          refine lv_aload hx hb dL_law_1375 (lv_at hl 10 rfl) ?_
          refine lv_iconst (v := 0) hx hb dL_law_1377 (by decide) ?_
          refine va_iald hx hb hG.1 hP 8 0 rfl rfl (inb_in (by decide)) dL_law_1378 ?_
          refine lv_topi (fun w_455 ew_455 => ?_)
          obtain rfl : w_455 = uu 0 := ew_455.trans (congrArg uu (show ((0 : Int32).toNatClampNeg) = 0 by decide))
          refine lv_topi (fun w_456 ew_456 => ?_)
          obtain rfl : w_456 = nI U := ew_456.trans I.2.2.2.2.2.1.1
          refine lv_iload hx hb dL_law_1379 (lv_at hl 0 rfl) ?_
          refine lv_ishr hx hb dL_law_1381 ?_
          refine lv_iconst (v := 1) hx hb dL_law_1382 (by decide) ?_
          refine lv_iand hx hb dL_law_1383 ?_
          refine lv_topi (fun w_457 ew_457 => ?_)
          obtain rfl : w_457 = 1 := ew_457.trans ((ubit U I.2.2.2.2.2.1.2.1 (y % bt) (by omega)).trans (if_pos hbit))
          refine lv_iconst (v := 1) hx hb dL_law_1384 (by decide) ?_
          refine lv_icmp_ne (tgt := 1392) hx hb dL_law_1385 (by decide) (fun c_458 => ?_) (fun c_458 => ?_)
          · exact absurd c_458 (by decide)
          · refine lv_iconst (v := 1) hx hb dL_law_1388 (by decide) ?_
            refine lv_goto (tgt := 1393) hx hb dL_law_1389 (by decide) ?_
            refine lv_topi (fun w_459 ew_459 => ?_)
            obtain rfl : w_459 = nI 1 := ew_459.trans (show (1 : Int32) = nI 1 from rfl)
            refine lv_istore (lv' := [(20, .int (nI 1)), (19, .int (nI (y % bt))), (0, .ref b), (1, .ref o0), (2, .ref (ar 0)), (3, .ref (ar 1)), (4, .ref (ar 2)), (5, .ref (ar 5)), (6, .ref (ar 6)), (7, .ref (ar 7)), (8, .ref (ar 3)), (9, .ref (ar 8)), (10, .ref (ar 4)), (11, .long dr), (13, .int 1), (14, .int (nI tn)), (17, .int (nI y))]) hx hb dL_law_1393 hl (by decide) rfl (fun ls hl => ?_)
            refine lv_iload hx hb dL_law_1395 (lv_at hl 16 rfl) ?_
            refine lv_bipush (v := 10) hx hb dL_law_1397 (by decide) ?_
            refine lv_idiv hx hb dL_law_1399 (by decide) ?_
            refine lv_topi (fun w_460 ew_460 => ?_)
            obtain rfl : w_460 = nI (y / 10) := ew_460.trans (nI_dv (a := y) (b := 10) (by omega) (by omega))
            refine lv_iconst (v := 4) hx hb dL_law_1400 (by decide) ?_
            refine lv_irem hx hb dL_law_1401 (by decide) ?_
            refine lv_topi (fun w_461 ew_461 => ?_)
            obtain rfl : w_461 = nI ((y / 10) % 4) := ew_461.trans (nI_md (a := y / 10) (b := 4) (by omega) (by omega))
            refine lv_if_le (tgt := 1418) hx hb dL_law_1402 (by decide) (fun c_462 => ?_) (fun c_462 => ?_)
            · exact absurd c_462 (fun h9 => h3 ((nle0 (by omega)).mp h9))
            · refine lv_iload hx hb dL_law_1405 (lv_at hl 0 rfl) ?_
              refine lv_topi (fun w_463 ew_463 => ?_)
              obtain rfl : w_463 = 1 := ew_463.trans (show nI 1 = 1 from rfl)
              refine lv_if_ne (tgt := 1414) hx hb dL_law_1407 (by decide) (fun c_464 => ?_) (fun c_464 => ?_)
              · refine lv_iconst (v := 0) hx hb dL_law_1414 (by decide) ?_
                refine lv_goto (tgt := 1420) hx hb dL_law_1415 (by decide) ?_
                refine lv_topi (fun w_465 ew_465 => ?_)
                obtain rfl : w_465 = nI 0 := ew_465.trans (show (0 : Int32) = nI 0 from rfl)
                refine lv_istore (lv' := [(21, .int (nI 0)), (20, .int (nI 1)), (19, .int (nI (y % bt))), (0, .ref b), (1, .ref o0), (2, .ref (ar 0)), (3, .ref (ar 1)), (4, .ref (ar 2)), (5, .ref (ar 5)), (6, .ref (ar 6)), (7, .ref (ar 7)), (8, .ref (ar 3)), (9, .ref (ar 8)), (10, .ref (ar 4)), (11, .long dr), (13, .int 1), (14, .int (nI tn)), (17, .int (nI y))]) hx hb dL_law_1420 hl (by decide) rfl (fun ls hl => ?_)
                exact kk (y % bt) 1 0 ls (fun h9 => absurd h9 hbt) (fun _ => hmb) (if_pos hbit).symm (by decide) (lv_sub hl [3, 4, 5, 6, 7, 8, 9, 10, 11, 12, 13, 14, 15, 16, 2, 1, 0] rfl)
              · exact absurd c_464 (by decide)
        · exact absurd c_451 (fun h9 => hbt ((n0 (by omega)).mp h9))
    · by_cases h3 : (y / 10) % 4 = 0
      · have hmb := Nat.mod_lt y (show bt > 0 by omega)
        refine lv_aload hx hb dL_law_1355 (lv_at hl 8 rfl) ?_
        refine lv_iconst (v := 0) hx hb dL_law_1357 (by decide) ?_
        refine va_iald hx hb hG.1 hP 3 0 rfl rfl (inb_in (by decide)) dL_law_1358 ?_
        refine lv_topi (fun w_466 ew_466 => ?_)
        obtain rfl : w_466 = nn 0 := ew_466.trans (congrArg nn (show ((0 : Int32).toNatClampNeg) = 0 by decide))
        refine lv_topi (fun w_467 ew_467 => ?_)
        obtain rfl : w_467 = nI bt := ew_467.trans hN.1
        refine lv_if_ne (tgt := 1366) hx hb dL_law_1359 (by decide) (fun c_468 => ?_) (fun c_468 => ?_)
        · refine lv_iload hx hb dL_law_1366 (lv_at hl 14 rfl) ?_
          refine lv_aload hx hb dL_law_1368 (lv_at hl 8 rfl) ?_
          refine lv_iconst (v := 0) hx hb dL_law_1370 (by decide) ?_
          refine va_iald hx hb hG.1 hP 3 0 rfl rfl (inb_in (by decide)) dL_law_1371 ?_
          refine lv_topi (fun w_469 ew_469 => ?_)
          obtain rfl : w_469 = nn 0 := ew_469.trans (congrArg nn (show ((0 : Int32).toNatClampNeg) = 0 by decide))
          refine lv_topi (fun w_470 ew_470 => ?_)
          obtain rfl : w_470 = nI bt := ew_470.trans hN.1
          refine lv_irem hx hb dL_law_1372 (fun h9 => hbt ((n0 (by omega)).mp h9)) ?_
          refine lv_topi (fun w_471 ew_471 => ?_)
          obtain rfl : w_471 = nI (y % bt) := ew_471.trans (nI_md (a := y) (b := bt) (by omega) (by omega))
          refine lv_istore (lv' := [(19, .int (nI (y % bt))), (0, .ref b), (1, .ref o0), (2, .ref (ar 0)), (3, .ref (ar 1)), (4, .ref (ar 2)), (5, .ref (ar 5)), (6, .ref (ar 6)), (7, .ref (ar 7)), (8, .ref (ar 3)), (9, .ref (ar 8)), (10, .ref (ar 4)), (11, .long dr), (13, .int 1), (14, .int (nI tn)), (17, .int (nI y))]) hx hb dL_law_1373 hl (by decide) rfl (fun ls hl => ?_)
          refine lv_aload hx hb dL_law_1375 (lv_at hl 10 rfl) ?_
          refine lv_iconst (v := 0) hx hb dL_law_1377 (by decide) ?_
          refine va_iald hx hb hG.1 hP 8 0 rfl rfl (inb_in (by decide)) dL_law_1378 ?_
          refine lv_topi (fun w_472 ew_472 => ?_)
          obtain rfl : w_472 = uu 0 := ew_472.trans (congrArg uu (show ((0 : Int32).toNatClampNeg) = 0 by decide))
          refine lv_topi (fun w_473 ew_473 => ?_)
          obtain rfl : w_473 = nI U := ew_473.trans I.2.2.2.2.2.1.1
          refine lv_iload hx hb dL_law_1379 (lv_at hl 0 rfl) ?_
          refine lv_ishr hx hb dL_law_1381 ?_
          refine lv_iconst (v := 1) hx hb dL_law_1382 (by decide) ?_
          refine lv_iand hx hb dL_law_1383 ?_
          refine lv_topi (fun w_474 ew_474 => ?_)
          obtain rfl : w_474 = 0 := ew_474.trans ((ubit U I.2.2.2.2.2.1.2.1 (y % bt) (by omega)).trans (if_neg hbit))
          refine lv_iconst (v := 1) hx hb dL_law_1384 (by decide) ?_
          refine lv_icmp_ne (tgt := 1392) hx hb dL_law_1385 (by decide) (fun c_475 => ?_) (fun c_475 => ?_)
          · refine lv_iconst (v := 0) hx hb dL_law_1392 (by decide) ?_
            refine lv_topi (fun w_476 ew_476 => ?_)
            obtain rfl : w_476 = nI 0 := ew_476.trans (show (0 : Int32) = nI 0 from rfl)
            refine lv_istore (lv' := [(20, .int (nI 0)), (19, .int (nI (y % bt))), (0, .ref b), (1, .ref o0), (2, .ref (ar 0)), (3, .ref (ar 1)), (4, .ref (ar 2)), (5, .ref (ar 5)), (6, .ref (ar 6)), (7, .ref (ar 7)), (8, .ref (ar 3)), (9, .ref (ar 8)), (10, .ref (ar 4)), (11, .long dr), (13, .int 1), (14, .int (nI tn)), (17, .int (nI y))]) hx hb dL_law_1393 hl (by decide) rfl (fun ls hl => ?_)
            refine lv_iload hx hb dL_law_1395 (lv_at hl 16 rfl) ?_
            refine lv_bipush (v := 10) hx hb dL_law_1397 (by decide) ?_
            refine lv_idiv hx hb dL_law_1399 (by decide) ?_
            refine lv_topi (fun w_477 ew_477 => ?_)
            obtain rfl : w_477 = nI (y / 10) := ew_477.trans (nI_dv (a := y) (b := 10) (by omega) (by omega))
            refine lv_iconst (v := 4) hx hb dL_law_1400 (by decide) ?_
            refine lv_irem hx hb dL_law_1401 (by decide) ?_
            refine lv_topi (fun w_478 ew_478 => ?_)
            obtain rfl : w_478 = nI ((y / 10) % 4) := ew_478.trans (nI_md (a := y / 10) (b := 4) (by omega) (by omega))
            refine lv_if_le (tgt := 1418) hx hb dL_law_1402 (by decide) (fun c_479 => ?_) (fun c_479 => ?_)
            · refine lv_iload hx hb dL_law_1418 (lv_at hl 0 rfl) ?_
              refine lv_istore (lv' := [(21, .int (nI 0)), (20, .int (nI 0)), (19, .int (nI (y % bt))), (0, .ref b), (1, .ref o0), (2, .ref (ar 0)), (3, .ref (ar 1)), (4, .ref (ar 2)), (5, .ref (ar 5)), (6, .ref (ar 6)), (7, .ref (ar 7)), (8, .ref (ar 3)), (9, .ref (ar 8)), (10, .ref (ar 4)), (11, .long dr), (13, .int 1), (14, .int (nI tn)), (17, .int (nI y))]) hx hb dL_law_1420 hl (by decide) rfl (fun ls hl => ?_)
              exact kk (y % bt) 0 0 ls (fun h9 => absurd h9 hbt) (fun _ => hmb) (if_neg hbit).symm (by decide) (lv_sub hl [3, 4, 5, 6, 7, 8, 9, 10, 11, 12, 13, 14, 15, 16, 2, 1, 0] rfl)
            · exact absurd ((nle0 (by omega)).mpr h3) c_479
          · exact absurd c_475 (by decide)
        · exact absurd c_468 (fun h9 => hbt ((n0 (by omega)).mp h9))
      · have hmb := Nat.mod_lt y (show bt > 0 by omega)
        refine lv_aload hx hb dL_law_1355 (lv_at hl 8 rfl) ?_
        refine lv_iconst (v := 0) hx hb dL_law_1357 (by decide) ?_
        refine va_iald hx hb hG.1 hP 3 0 rfl rfl (inb_in (by decide)) dL_law_1358 ?_
        refine lv_topi (fun w_480 ew_480 => ?_)
        obtain rfl : w_480 = nn 0 := ew_480.trans (congrArg nn (show ((0 : Int32).toNatClampNeg) = 0 by decide))
        refine lv_topi (fun w_481 ew_481 => ?_)
        obtain rfl : w_481 = nI bt := ew_481.trans hN.1
        refine lv_if_ne (tgt := 1366) hx hb dL_law_1359 (by decide) (fun c_482 => ?_) (fun c_482 => ?_)
        · refine lv_iload hx hb dL_law_1366 (lv_at hl 14 rfl) ?_
          refine lv_aload hx hb dL_law_1368 (lv_at hl 8 rfl) ?_
          refine lv_iconst (v := 0) hx hb dL_law_1370 (by decide) ?_
          refine va_iald hx hb hG.1 hP 3 0 rfl rfl (inb_in (by decide)) dL_law_1371 ?_
          refine lv_topi (fun w_483 ew_483 => ?_)
          obtain rfl : w_483 = nn 0 := ew_483.trans (congrArg nn (show ((0 : Int32).toNatClampNeg) = 0 by decide))
          refine lv_topi (fun w_484 ew_484 => ?_)
          obtain rfl : w_484 = nI bt := ew_484.trans hN.1
          refine lv_irem hx hb dL_law_1372 (fun h9 => hbt ((n0 (by omega)).mp h9)) ?_
          refine lv_topi (fun w_485 ew_485 => ?_)
          obtain rfl : w_485 = nI (y % bt) := ew_485.trans (nI_md (a := y) (b := bt) (by omega) (by omega))
          refine lv_istore (lv' := [(19, .int (nI (y % bt))), (0, .ref b), (1, .ref o0), (2, .ref (ar 0)), (3, .ref (ar 1)), (4, .ref (ar 2)), (5, .ref (ar 5)), (6, .ref (ar 6)), (7, .ref (ar 7)), (8, .ref (ar 3)), (9, .ref (ar 8)), (10, .ref (ar 4)), (11, .long dr), (13, .int 1), (14, .int (nI tn)), (17, .int (nI y))]) hx hb dL_law_1373 hl (by decide) rfl (fun ls hl => ?_)
          refine lv_aload hx hb dL_law_1375 (lv_at hl 10 rfl) ?_
          refine lv_iconst (v := 0) hx hb dL_law_1377 (by decide) ?_
          refine va_iald hx hb hG.1 hP 8 0 rfl rfl (inb_in (by decide)) dL_law_1378 ?_
          refine lv_topi (fun w_486 ew_486 => ?_)
          obtain rfl : w_486 = uu 0 := ew_486.trans (congrArg uu (show ((0 : Int32).toNatClampNeg) = 0 by decide))
          refine lv_topi (fun w_487 ew_487 => ?_)
          obtain rfl : w_487 = nI U := ew_487.trans I.2.2.2.2.2.1.1
          refine lv_iload hx hb dL_law_1379 (lv_at hl 0 rfl) ?_
          refine lv_ishr hx hb dL_law_1381 ?_
          refine lv_iconst (v := 1) hx hb dL_law_1382 (by decide) ?_
          refine lv_iand hx hb dL_law_1383 ?_
          refine lv_topi (fun w_488 ew_488 => ?_)
          obtain rfl : w_488 = 0 := ew_488.trans ((ubit U I.2.2.2.2.2.1.2.1 (y % bt) (by omega)).trans (if_neg hbit))
          refine lv_iconst (v := 1) hx hb dL_law_1384 (by decide) ?_
          refine lv_icmp_ne (tgt := 1392) hx hb dL_law_1385 (by decide) (fun c_489 => ?_) (fun c_489 => ?_)
          · refine lv_iconst (v := 0) hx hb dL_law_1392 (by decide) ?_
            refine lv_topi (fun w_490 ew_490 => ?_)
            obtain rfl : w_490 = nI 0 := ew_490.trans (show (0 : Int32) = nI 0 from rfl)
            refine lv_istore (lv' := [(20, .int (nI 0)), (19, .int (nI (y % bt))), (0, .ref b), (1, .ref o0), (2, .ref (ar 0)), (3, .ref (ar 1)), (4, .ref (ar 2)), (5, .ref (ar 5)), (6, .ref (ar 6)), (7, .ref (ar 7)), (8, .ref (ar 3)), (9, .ref (ar 8)), (10, .ref (ar 4)), (11, .long dr), (13, .int 1), (14, .int (nI tn)), (17, .int (nI y))]) hx hb dL_law_1393 hl (by decide) rfl (fun ls hl => ?_)
            refine lv_iload hx hb dL_law_1395 (lv_at hl 16 rfl) ?_
            refine lv_bipush (v := 10) hx hb dL_law_1397 (by decide) ?_
            refine lv_idiv hx hb dL_law_1399 (by decide) ?_
            refine lv_topi (fun w_491 ew_491 => ?_)
            obtain rfl : w_491 = nI (y / 10) := ew_491.trans (nI_dv (a := y) (b := 10) (by omega) (by omega))
            refine lv_iconst (v := 4) hx hb dL_law_1400 (by decide) ?_
            refine lv_irem hx hb dL_law_1401 (by decide) ?_
            refine lv_topi (fun w_492 ew_492 => ?_)
            obtain rfl : w_492 = nI ((y / 10) % 4) := ew_492.trans (nI_md (a := y / 10) (b := 4) (by omega) (by omega))
            refine lv_if_le (tgt := 1418) hx hb dL_law_1402 (by decide) (fun c_493 => ?_) (fun c_493 => ?_)
            · exact absurd c_493 (fun h9 => h3 ((nle0 (by omega)).mp h9))
            · refine lv_iload hx hb dL_law_1405 (lv_at hl 0 rfl) ?_
              refine lv_topi (fun w_494 ew_494 => ?_)
              obtain rfl : w_494 = 0 := ew_494.trans (show nI 0 = 0 from rfl)
              refine lv_if_ne (tgt := 1414) hx hb dL_law_1407 (by decide) (fun c_495 => ?_) (fun c_495 => ?_)
              · exact absurd c_495 (by decide)
              · refine lv_iconst (v := 1) hx hb dL_law_1410 (by decide) ?_
                refine lv_goto (tgt := 1420) hx hb dL_law_1411 (by decide) ?_
                refine lv_topi (fun w_496 ew_496 => ?_)
                obtain rfl : w_496 = nI 1 := ew_496.trans (show (1 : Int32) = nI 1 from rfl)
                refine lv_istore (lv' := [(21, .int (nI 1)), (20, .int (nI 0)), (19, .int (nI (y % bt))), (0, .ref b), (1, .ref o0), (2, .ref (ar 0)), (3, .ref (ar 1)), (4, .ref (ar 2)), (5, .ref (ar 5)), (6, .ref (ar 6)), (7, .ref (ar 7)), (8, .ref (ar 3)), (9, .ref (ar 8)), (10, .ref (ar 4)), (11, .long dr), (13, .int 1), (14, .int (nI tn)), (17, .int (nI y))]) hx hb dL_law_1420 hl (by decide) rfl (fun ls hl => ?_)
                exact kk (y % bt) 0 1 ls (fun h9 => absurd h9 hbt) (fun _ => hmb) (if_neg hbit).symm (by decide) (lv_sub hl [3, 4, 5, 6, 7, 8, 9, 10, 11, 12, 13, 14, 15, 16, 2, 1, 0] rfl)
          · exact absurd c_489 (by decide)
        · exact absurd c_482 (fun h9 => hbt ((n0 (by omega)).mp h9))

set_option maxHeartbeats 4000000 in
set_option maxRecDepth 100000 in
theorem qz_B10u (X : qz_X p l s m meth c b L xs D Y o0 ast ald ahi act acd ar) (hc : cells + 4000 ≤ 600130) (hsl : slots + 24000 ≤ 7301080) (I : IV n bt d U st ld hi ct cd u v h ev nn qq li bb t uu dr) (hP : va_P D vwCl (qz_A Y ar v h ev nn qq li bb t uu) H) (hPK : va_P D vwCl (lz_K Y o0 ast ald ahi act acd st ld hi ct cd) H) (hS : va_S (fun q => s.heap.size ≤ q) s.heap H locs) (go : qz_go p l e s m below meth c b D Y o0 ast ald ahi act acd ar Q 1522 tn (fun n => tn + 1 ≤ 6 → n = 0) (cells + 10) (slots + 60)) {x o9 nx : Nat} (hT : tn + 1 ≤ 6 → n = 0) (hx0 : bt = 0 → x = 0) (hx1 : ¬ bt = 0 → x < bt) (ho9 : o9 = if U.testBit x = true then 1 else 0) (hnx : nx < 2) (hl : lv_has ls 23 [(0, .ref b), (1, .ref o0), (2, .ref (ar 0)), (3, .ref (ar 1)), (4, .ref (ar 2)), (5, .ref (ar 5)), (6, .ref (ar 6)), (7, .ref (ar 7)), (8, .ref (ar 3)), (9, .ref (ar 8)), (10, .ref (ar 4)), (11, .long dr), (13, .int 1), (14, .int (nI tn)), (19, .int (nI x)), (20, .int (nI o9)), (21, .int (nI nx))]) : W p l e room_1 s m #[Value.ref b] below meth c H locs (cells) (slots) Q (F0 m 1422 ls []) := by
  obtain ⟨C0, hl0, hG, hB, hNC, hap⟩ := id X
  obtain ⟨hx, hb, hr, hml, hown, htb, hX, hbl, hlocks, hgv⟩ := id C0
  have hown : s.vm.findClass RL = some m.cls := hown
  have hts : ∀ w ∈ wsL_law, w.before #[Value.ref b] s = true := fun w h => htb w (wsL_law_in w h)
  have hD : va_D (fun q => s.heap.size ≤ q) (qz_A Y ar v h ev nn qq li bb t uu) := qz_apD hap qz_eA
  have hN := I.2.2.2.2.2.2.1
  have hn40 := I.2.2.2.2.2.2.2.1
  have hb10 := I.1.1.2.1
  by_cases hbt : bt = 0
  · obtain rfl := hx0 hbt
    rcases (show nx = 0 ∨ nx = 1 by omega) with rfl | rfl
    · refine lv_aload hx hb dL_law_1422 (lv_at hl 8 rfl) ?_
      refine lv_iconst (v := 0) hx hb dL_law_1424 (by decide) ?_
      refine va_iald hx hb hG.1 hP 3 0 rfl rfl (inb_in (by decide)) dL_law_1425 ?_
      refine lv_topi (fun w_497 ew_497 => ?_)
      obtain rfl : w_497 = nn 0 := ew_497.trans (congrArg nn (show ((0 : Int32).toNatClampNeg) = 0 by decide))
      refine lv_topi (fun w_498 ew_498 => ?_)
      obtain rfl : w_498 = nI bt := ew_498.trans hN.1
      refine lv_if_le (tgt := 1466) hx hb dL_law_1426 (by decide) (fun c_499 => ?_) (fun c_499 => ?_)
      · refine lv_aload_n hx hb dL_law_1466 rfl (lv_at hl 1 rfl) ?_
        refine lv_bipush (v := 6) hx hb dL_law_1467 (by decide) ?_
        refine lv_iload hx hb dL_law_1469 (lv_at hl 14 rfl) ?_
        refine lv_iload hx hb dL_law_1471 (lv_at hl 16 rfl) ?_
        refine lv_topi (fun w_500 ew_500 => ?_)
        obtain rfl : w_500 = 0 := ew_500.trans (show nI 0 = 0 from rfl)
        refine lv_if_eq (tgt := 1480) hx hb dL_law_1473 (by decide) (fun c_501 => ?_) (fun c_501 => ?_)
        · refine lv_iconst (v := 0) hx hb dL_law_1480 (by decide) ?_
          refine lz_callL (l := l) (pc := 1481) (n := 4) (W0 := lz_K Y o0 ast ald ahi act acd st ld hi ct cd) (Wr := qz_A Y ar v h ev nn qq li bb t uu) (As := [.ref o0, .int 6, .int (nI 0), .int 0]) (rest := []) C0 hG hB hNC hap.app.2.1 lz_eK qz_eA hap.swap (ct_does_undo0_ex88 l D Y o0 ast st ald ld ahi hi act ct acd cd (nI 0) (tv_undo0 I hbt) hl0) gL_law_L_does rfl rfl rfl (by decide +kernel) ⟨Nat.le_of_ble_eq_true rfl, Nat.le_of_ble_eq_true rfl⟩ rfl hl.1 rfl (Nat.le_of_ble_eq_true rfl) dL_law_1481 ⟨qz_f1 (k := 2) (show cells + 2000 ≤ 600130 by omega) (by decide), qz_f2 (k := 12) (show slots + 12000 ≤ 7301080 by omega) (by decide)⟩ hPK hP hS (fun H locs hPK hP hS => ?_)
          have hPK : va_P D vwCl (lz_K Y o0 ast ald ahi act acd st ld hi ct cd) H := hPK
          have hP : va_P D vwCl (qz_A Y ar v h ev nn qq li bb t uu) H := hP
          have hD : va_D (fun q => s.heap.size ≤ q) (qz_A Y ar v h ev nn qq li bb t uu) := qz_apD hap qz_eA
          change W _ _ _ _ _ _ _ _ _ _ _ _ _ _ _ (F0 m 1484 _ (.int (-11) :: []))
          refine lv_aload hx hb dL_law_1484 (lv_at hl 8 rfl) ?_
          refine lv_iconst (v := 0) hx hb dL_law_1486 (by decide) ?_
          refine va_iald hx hb hG.1 hP 3 0 rfl rfl (inb_in (by decide)) dL_law_1487 ?_
          refine lv_topi (fun w_502 ew_502 => ?_)
          obtain rfl : w_502 = nn 0 := ew_502.trans (congrArg nn (show ((0 : Int32).toNatClampNeg) = 0 by decide))
          refine lv_topi (fun w_503 ew_503 => ?_)
          obtain rfl : w_503 = nI bt := ew_503.trans hN.1
          refine lv_if_ne (tgt := 1496) hx hb dL_law_1488 (by decide) (fun c_504 => ?_) (fun c_504 => ?_)
          · exact absurd ((n0 (by omega)).mpr hbt) c_504
          · refine lv_bipush (v := (-11)) hx hb dL_law_1491 (by decide) ?_
            refine lv_goto (tgt := 1512) hx hb dL_law_1493 (by decide) ?_
            refine lv_icmp_ne (tgt := 1519) hx hb dL_law_1512 (by decide) (fun c_505 => ?_) (fun c_505 => ?_)
            · exact absurd c_505 (by decide)
            · refine lv_iconst (v := 1) hx hb dL_law_1515 (by decide) ?_
              refine lv_goto (tgt := 1520) hx hb dL_law_1516 (by decide) ?_
              refine lv_istore (lv' := [(13, .int 1), (0, .ref b), (1, .ref o0), (2, .ref (ar 0)), (3, .ref (ar 1)), (4, .ref (ar 2)), (5, .ref (ar 5)), (6, .ref (ar 6)), (7, .ref (ar 7)), (8, .ref (ar 3)), (9, .ref (ar 8)), (10, .ref (ar 4)), (11, .long dr), (14, .int (nI tn)), (19, .int (nI 0)), (20, .int (nI o9)), (21, .int (nI 0))]) hx hb dL_law_1520 hl (by decide) rfl (fun ls hl => ?_)
              exact W.widen (by omega) (by omega) (go _ _ _ _ _ _ _ _ _ _ _ _ _ _ _ _ _ _ _ _ H locs ls hT I hP hPK hS (lv_sub hl [1, 2, 3, 4, 5, 6, 7, 8, 9, 10, 11, 12, 0, 13] rfl))
        · exact absurd c_501 (by decide)
      · exact absurd ((nle0 (by omega)).mpr hbt) c_499
    · refine lv_aload hx hb dL_law_1422 (lv_at hl 8 rfl) ?_
      refine lv_iconst (v := 0) hx hb dL_law_1424 (by decide) ?_
      refine va_iald hx hb hG.1 hP 3 0 rfl rfl (inb_in (by decide)) dL_law_1425 ?_
      refine lv_topi (fun w_506 ew_506 => ?_)
      obtain rfl : w_506 = nn 0 := ew_506.trans (congrArg nn (show ((0 : Int32).toNatClampNeg) = 0 by decide))
      refine lv_topi (fun w_507 ew_507 => ?_)
      obtain rfl : w_507 = nI bt := ew_507.trans hN.1
      refine lv_if_le (tgt := 1466) hx hb dL_law_1426 (by decide) (fun c_508 => ?_) (fun c_508 => ?_)
      · refine lv_aload_n hx hb dL_law_1466 rfl (lv_at hl 1 rfl) ?_
        refine lv_bipush (v := 6) hx hb dL_law_1467 (by decide) ?_
        refine lv_iload hx hb dL_law_1469 (lv_at hl 14 rfl) ?_
        refine lv_iload hx hb dL_law_1471 (lv_at hl 16 rfl) ?_
        refine lv_topi (fun w_509 ew_509 => ?_)
        obtain rfl : w_509 = 1 := ew_509.trans (show nI 1 = 1 from rfl)
        refine lv_if_eq (tgt := 1480) hx hb dL_law_1473 (by decide) (fun c_510 => ?_) (fun c_510 => ?_)
        · exact absurd c_510 (by decide)
        · refine lv_iconst (v := 1) hx hb dL_law_1476 (by decide) ?_
          refine lv_goto (tgt := 1481) hx hb dL_law_1477 (by decide) ?_
          refine lz_callL (l := l) (pc := 1481) (n := 4) (W0 := lz_K Y o0 ast ald ahi act acd st ld hi ct cd) (Wr := qz_A Y ar v h ev nn qq li bb t uu) (As := [.ref o0, .int 6, .int (nI 0), .int 1]) (rest := []) C0 hG hB hNC hap.app.2.1 lz_eK qz_eA hap.swap (ct_does_undo1_ex88 l D Y o0 ast st ald ld ahi hi act ct acd cd (nI 0) (tv_undo0 I hbt) hl0) gL_law_L_does rfl rfl rfl (by decide +kernel) ⟨Nat.le_of_ble_eq_true rfl, Nat.le_of_ble_eq_true rfl⟩ rfl hl.1 rfl (Nat.le_of_ble_eq_true rfl) dL_law_1481 ⟨qz_f1 (k := 2) (show cells + 2000 ≤ 600130 by omega) (by decide), qz_f2 (k := 12) (show slots + 12000 ≤ 7301080 by omega) (by decide)⟩ hPK hP hS (fun H locs hPK hP hS => ?_)
          have hPK : va_P D vwCl (lz_K Y o0 ast ald ahi act acd st ld hi ct cd) H := hPK
          have hP : va_P D vwCl (qz_A Y ar v h ev nn qq li bb t uu) H := hP
          have hD : va_D (fun q => s.heap.size ≤ q) (qz_A Y ar v h ev nn qq li bb t uu) := qz_apD hap qz_eA
          change W _ _ _ _ _ _ _ _ _ _ _ _ _ _ _ (F0 m 1484 _ (.int (-11) :: []))
          refine lv_aload hx hb dL_law_1484 (lv_at hl 8 rfl) ?_
          refine lv_iconst (v := 0) hx hb dL_law_1486 (by decide) ?_
          refine va_iald hx hb hG.1 hP 3 0 rfl rfl (inb_in (by decide)) dL_law_1487 ?_
          refine lv_topi (fun w_511 ew_511 => ?_)
          obtain rfl : w_511 = nn 0 := ew_511.trans (congrArg nn (show ((0 : Int32).toNatClampNeg) = 0 by decide))
          refine lv_topi (fun w_512 ew_512 => ?_)
          obtain rfl : w_512 = nI bt := ew_512.trans hN.1
          refine lv_if_ne (tgt := 1496) hx hb dL_law_1488 (by decide) (fun c_513 => ?_) (fun c_513 => ?_)
          · exact absurd ((n0 (by omega)).mpr hbt) c_513
          · refine lv_bipush (v := (-11)) hx hb dL_law_1491 (by decide) ?_
            refine lv_goto (tgt := 1512) hx hb dL_law_1493 (by decide) ?_
            refine lv_icmp_ne (tgt := 1519) hx hb dL_law_1512 (by decide) (fun c_514 => ?_) (fun c_514 => ?_)
            · exact absurd c_514 (by decide)
            · refine lv_iconst (v := 1) hx hb dL_law_1515 (by decide) ?_
              refine lv_goto (tgt := 1520) hx hb dL_law_1516 (by decide) ?_
              refine lv_istore (lv' := [(13, .int 1), (0, .ref b), (1, .ref o0), (2, .ref (ar 0)), (3, .ref (ar 1)), (4, .ref (ar 2)), (5, .ref (ar 5)), (6, .ref (ar 6)), (7, .ref (ar 7)), (8, .ref (ar 3)), (9, .ref (ar 8)), (10, .ref (ar 4)), (11, .long dr), (14, .int (nI tn)), (19, .int (nI 0)), (20, .int (nI o9)), (21, .int (nI 1))]) hx hb dL_law_1520 hl (by decide) rfl (fun ls hl => ?_)
              exact W.widen (by omega) (by omega) (go _ _ _ _ _ _ _ _ _ _ _ _ _ _ _ _ _ _ _ _ H locs ls hT I hP hPK hS (lv_sub hl [1, 2, 3, 4, 5, 6, 7, 8, 9, 10, 11, 12, 0, 13] rfl))
      · exact absurd ((nle0 (by omega)).mpr hbt) c_508
  · have hxx := hx1 hbt
    by_cases hbit : U.testBit x = true
    · rw [if_pos hbit] at ho9
      subst ho9
      rcases (show nx = 0 ∨ nx = 1 by omega) with rfl | rfl
      · obtain ⟨v', h', t', hM, z, u', hE, hm, I'⟩ := tv_undo (x := x) (w := 0) I hxx (Or.inr ⟨rfl, hbit⟩) (upd uu 0 (nI (U ^^^ 2 ^ x))) pk_us
        refine lv_aload hx hb dL_law_1422 (lv_at hl 8 rfl) ?_
        refine lv_iconst (v := 0) hx hb dL_law_1424 (by decide) ?_
        refine va_iald hx hb hG.1 hP 3 0 rfl rfl (inb_in (by decide)) dL_law_1425 ?_
        refine lv_topi (fun w_515 ew_515 => ?_)
        obtain rfl : w_515 = nn 0 := ew_515.trans (congrArg nn (show ((0 : Int32).toNatClampNeg) = 0 by decide))
        refine lv_topi (fun w_516 ew_516 => ?_)
        obtain rfl : w_516 = nI bt := ew_516.trans hN.1
        refine lv_if_le (tgt := 1466) hx hb dL_law_1426 (by decide) (fun c_517 => ?_) (fun c_517 => ?_)
        · exact absurd c_517 (nI_nle (by omega) (by omega))
        · refine lv_iload hx hb dL_law_1429 (lv_at hl 16 rfl) ?_
          refine lv_topi (fun w_518 ew_518 => ?_)
          obtain rfl : w_518 = 0 := ew_518.trans (show nI 0 = 0 from rfl)
          refine lv_iload hx hb dL_law_1431 (lv_at hl 15 rfl) ?_
          refine lv_topi (fun w_519 ew_519 => ?_)
          obtain rfl : w_519 = 1 := ew_519.trans (show nI 1 = 1 from rfl)
          refine lv_icmp_eq (tgt := 1466) hx hb dL_law_1433 (by decide) (fun c_520 => ?_) (fun c_520 => ?_)
          · exact absurd c_520 (by decide)
          · refine lv_aload hx hb dL_law_1436 (lv_at hl 9 rfl) ?_
            refine lv_iconst (v := 0) hx hb dL_law_1438 (by decide) ?_
            refine lv_dup2_11 hx hb dL_law_1439 rfl rfl ?_
            refine va_iald hx hb hG.1 hP 8 0 rfl rfl (inb_in (by decide)) dL_law_1440 ?_
            refine lv_topi (fun w_521 ew_521 => ?_)
            obtain rfl : w_521 = uu 0 := ew_521.trans (congrArg uu (show ((0 : Int32).toNatClampNeg) = 0 by decide))
            refine lv_topi (fun w_522 ew_522 => ?_)
            obtain rfl : w_522 = nI U := ew_522.trans I.2.2.2.2.2.1.1
            refine lv_iconst (v := 1) hx hb dL_law_1441 (by decide) ?_
            refine lv_iload hx hb dL_law_1442 (lv_at hl 14 rfl) ?_
            refine lv_ishl hx hb dL_law_1444 ?_
            refine lv_ixor hx hb dL_law_1445 ?_
            refine lv_topi (fun w_523 ew_523 => ?_)
            obtain rfl : w_523 = nI (U ^^^ 2 ^ x) := ew_523.trans (uxor U I.2.2.2.2.2.1.2.1 x (by omega))
            refine qz_ist hx hb hG.1 hap qz_eA lz_eK hP hPK hS 8 0 rfl rfl (inb_in (by decide)) dL_law_1446 (fun H locs hP hPK hS => ?_)
            rw [show ((0 : Int32).toNatClampNeg) = 0 by decide] at hP
            have hP : va_P D vwCl (qz_A Y ar v h ev nn qq li bb t (upd uu 0 (nI (U ^^^ 2 ^ x)))) H := hP
            have hD : va_D (fun q => s.heap.size ≤ q) (qz_A Y ar v h ev nn qq li bb t (upd uu 0 (nI (U ^^^ 2 ^ x)))) := qz_apD hap qz_eA
            refine lv_aload_n hx hb dL_law_1447 rfl (lv_at hl 2 rfl) ?_
            refine lv_aload_n hx hb dL_law_1448 rfl (lv_at hl 3 rfl) ?_
            refine lv_aload hx hb dL_law_1449 (lv_at hl 4 rfl) ?_
            refine lv_aload hx hb dL_law_1451 (lv_at hl 8 rfl) ?_
            refine lv_aload hx hb dL_law_1453 (lv_at hl 10 rfl) ?_
            refine lv_aload hx hb dL_law_1455 (lv_at hl 5 rfl) ?_
            refine lv_aload hx hb dL_law_1457 (lv_at hl 6 rfl) ?_
            refine lv_aload hx hb dL_law_1459 (lv_at hl 7 rfl) ?_
            refine lv_aload hx hb dL_law_1461 (lv_at hl 9 rfl) ?_
            refine qz_WS (R := room_1) (args := #[Value.ref b]) (y := yL_makes) (bytes := cL_makes) (cc := code) (maxL := 13) (nL := 23) (n := 9) (index := 157) (pc := 1463) (ret := none) (ws := wsL_makes) (rm := cq_rm 3 85) (Ts := wsL_law) (own := RL) (D := D) (Y := Y) (W0 := [(ar 0, .inl (Y.2.2, 40, .inr (.inl v))), (ar 1, .inl (Y.1, 40, .inl h)), (ar 2, .inl (Y.1, 64, .inl ev)), (ar 3, .inl (Y.1, 4, .inl nn)), (ar 4, .inl (Y.1, 12, .inl qq)), (ar 5, .inl (Y.2.2, 40, .inr (.inl li))), (ar 6, .inl (Y.1, 40, .inl bb)), (ar 7, .inl (Y.1, 40, .inl t)), (ar 8, .inl (Y.1, 1, .inl (upd uu 0 (nI (U ^^^ 2 ^ x)))))]) (W1 := [(ar 0, .inl (Y.2.2, 40, .inr (.inl v'))), (ar 1, .inl (Y.1, 40, .inl h')), (ar 2, .inl (Y.1, 64, .inl ev)), (ar 3, .inl (Y.1, 4, .inl nn)), (ar 4, .inl (Y.1, 12, .inl qq)), (ar 5, .inl (Y.2.2, 40, .inr (.inl li))), (ar 6, .inl (Y.1, 40, .inl bb)), (ar 7, .inl (Y.1, 40, .inl t')), (ar 8, .inl (Y.1, 1, .inl (upd uu 0 (nI (U ^^^ 2 ^ x)))))]) (wl := qz_A Y ar v h ev nn qq li bb t (upd uu 0 (nI (U ^^^ 2 ^ x)))) (Wr := lz_K Y o0 ast ald ahi act acd st ld hi ct cd) (v := none) (As := [.ref (ar 0), .ref (ar 1), .ref (ar 2), .ref (ar 3), .ref (ar 4), .ref (ar 5), .ref (ar 6), .ref (ar 7), .ref (ar 8)]) (rest := []) (A := fun q => s.heap.size ≤ q) (qz_A Y ar v' h' ev nn qq li bb t' (upd uu 0 (nI (U ^^^ 2 ^ x)))) [0, 1, 2, 3, 4, 5, 6, 7, 8] [] ⟨hx, hb, hml, hown, hts⟩ (ct_L_makes l D Y (ar 0) v (ar 1) h (ar 2) ev (ar 3) nn (ar 4) qq (ar 5) li (ar 6) bb (ar 7) t (ar 8) (upd uu 0 (nI (U ^^^ 2 ^ x)))  (v', h', t') hM) (va_cwS 9 hts gL_law_L_makes rfl rfl rfl (by decide +kernel) ⟨Nat.le_of_ble_eq_true rfl, Nat.le_of_ble_eq_true rfl⟩) hG hap qz_eA lz_eK hP hPK hS rfl (by decide +kernel) ⟨rfl, ⟨[], rfl, rfl⟩, 9, rfl, by decide +kernel⟩ rfl rfl hl.1 rfl (Nat.le_of_ble_eq_true rfl) dL_law_1463 ⟨qz_f1 (k := 0) (show cells + 2000 ≤ 600130 by omega) (by decide), qz_f2 (k := 0) (show slots + 12000 ≤ 7301080 by omega) (by decide)⟩ (fun H locs hP hPK hS => ?_)
            have hP : va_P D vwCl (qz_A Y ar v' h' ev nn qq li bb t' (upd uu 0 (nI (U ^^^ 2 ^ x)))) H := hP
            have hD : va_D (fun q => s.heap.size ≤ q) (qz_A Y ar v' h' ev nn qq li bb t' (upd uu 0 (nI (U ^^^ 2 ^ x)))) := qz_apD hap qz_eA
            change W _ _ _ _ _ _ _ _ _ _ _ _ _ _ _ (F0 m 1466 _ [])
            refine lv_aload_n hx hb dL_law_1466 rfl (lv_at hl 1 rfl) ?_
            refine lv_bipush (v := 6) hx hb dL_law_1467 (by decide) ?_
            refine lv_iload hx hb dL_law_1469 (lv_at hl 14 rfl) ?_
            refine lv_iload hx hb dL_law_1471 (lv_at hl 16 rfl) ?_
            refine lv_topi (fun w_524 ew_524 => ?_)
            obtain rfl : w_524 = 0 := ew_524.trans (show nI 0 = 0 from rfl)
            refine lv_if_eq (tgt := 1480) hx hb dL_law_1473 (by decide) (fun c_525 => ?_) (fun c_525 => ?_)
            · refine lv_iconst (v := 0) hx hb dL_law_1480 (by decide) ?_
              refine lz_callL (l := l) (pc := 1481) (n := 4) (W0 := lz_K Y o0 ast ald ahi act acd st ld hi ct cd) (Wr := qz_A Y ar v' h' ev nn qq li bb t' (upd uu 0 (nI (U ^^^ 2 ^ x)))) (As := [.ref o0, .int 6, .int (nI x), .int 0]) (rest := []) C0 hG hB hNC hap.app.2.1 lz_eK qz_eA hap.swap (ct_does_undo0_ok l D Y o0 ast st ald ld ahi hi act ct acd cd (nI x) z hE hl0) gL_law_L_does rfl rfl rfl (by decide +kernel) ⟨Nat.le_of_ble_eq_true rfl, Nat.le_of_ble_eq_true rfl⟩ rfl hl.1 rfl (Nat.le_of_ble_eq_true rfl) dL_law_1481 ⟨qz_f1 (k := 2) (show cells + 2000 ≤ 600130 by omega) (by decide), qz_f2 (k := 12) (show slots + 12000 ≤ 7301080 by omega) (by decide)⟩ hPK hP hS (fun H locs hPK hP hS => ?_)
              have hPK : va_P D vwCl (lz_K Y o0 ast ald ahi act acd st z.1.1 hi z.1.2 cd) H := hPK
              have hP : va_P D vwCl (qz_A Y ar v' h' ev nn qq li bb t' (upd uu 0 (nI (U ^^^ 2 ^ x)))) H := hP
              have hD : va_D (fun q => s.heap.size ≤ q) (qz_A Y ar v' h' ev nn qq li bb t' (upd uu 0 (nI (U ^^^ 2 ^ x)))) := qz_apD hap qz_eA
              change W _ _ _ _ _ _ _ _ _ _ _ _ _ _ _ (F0 m 1484 _ (.int z.2 :: []))
              refine lv_aload hx hb dL_law_1484 (lv_at hl 8 rfl) ?_
              refine lv_iconst (v := 0) hx hb dL_law_1486 (by decide) ?_
              refine va_iald hx hb hG.1 hP 3 0 rfl rfl (inb_in (by decide)) dL_law_1487 ?_
              refine lv_topi (fun w_526 ew_526 => ?_)
              obtain rfl : w_526 = nn 0 := ew_526.trans (congrArg nn (show ((0 : Int32).toNatClampNeg) = 0 by decide))
              refine lv_topi (fun w_527 ew_527 => ?_)
              obtain rfl : w_527 = nI bt := ew_527.trans hN.1
              refine lv_if_ne (tgt := 1496) hx hb dL_law_1488 (by decide) (fun c_528 => ?_) (fun c_528 => ?_)
              · refine lv_iload hx hb dL_law_1496 (lv_at hl 16 rfl) ?_
                refine lv_topi (fun w_529 ew_529 => ?_)
                obtain rfl : w_529 = 0 := ew_529.trans (show nI 0 = 0 from rfl)
                refine lv_iload hx hb dL_law_1498 (lv_at hl 15 rfl) ?_
                refine lv_topi (fun w_530 ew_530 => ?_)
                obtain rfl : w_530 = 1 := ew_530.trans (show nI 1 = 1 from rfl)
                refine lv_icmp_ne (tgt := 1508) hx hb dL_law_1500 (by decide) (fun c_531 => ?_) (fun c_531 => ?_)
                · refine lv_aload_n hx hb dL_law_1508 rfl (lv_at hl 2 rfl) ?_
                  refine cq_RS (R := room_1) (args := #[Value.ref b]) (y := yL_many) (bytes := cL_many) (cc := code) (maxL := 3) (nL := 23) (n := 1) (index := 106) (ret := (some .int)) (ws := wsL_many) (rm := cq_rm 1 21) (Ts := wsL_law) (own := RL) (D := D) (Y := Y) (W0 := cl_lar Y (ar 0) 40 v') (wl := qz_A Y ar v' h' ev nn qq li bb t' (upd uu 0 (nI (U ^^^ 2 ^ x)))) (v := some (.int z.2)) (st0 := [.ref (ar 0), .int z.2]) (As := [.ref (ar 0)]) (rest := [.int z.2]) ⟨hx, hb, hml, hown, hts⟩ (ct_L_many l D Y (ar 0) v'  z.2 hm) (va_cwS 1 hts gL_law_L_many rfl rfl rfl (by decide +kernel) ⟨Nat.le_of_ble_eq_true rfl, Nat.le_of_ble_eq_true rfl⟩) hG hP hD [0] rfl (by decide +kernel) rfl hl.1 rfl (Nat.le_of_ble_eq_true rfl) dL_law_1509 ⟨qz_f1 (k := 0) (show cells + 2 + 2000 ≤ 600130 by omega) (by decide), qz_f2 (k := 0) (show slots + 12 + 12000 ≤ 7301080 by omega) (by decide)⟩ ?_
                  change W _ _ _ _ _ _ _ _ _ _ _ _ _ _ _ (F0 m 1512 _ (.int z.2 :: [.int z.2]))
                  refine lv_icmp_ne (tgt := 1519) hx hb dL_law_1512 (by decide) (fun c_532 => ?_) (fun c_532 => ?_)
                  · exact absurd (Eq.refl (z.2)) c_532
                  · refine lv_iconst (v := 1) hx hb dL_law_1515 (by decide) ?_
                    refine lv_goto (tgt := 1520) hx hb dL_law_1516 (by decide) ?_
                    refine lv_istore (lv' := [(13, .int 1), (0, .ref b), (1, .ref o0), (2, .ref (ar 0)), (3, .ref (ar 1)), (4, .ref (ar 2)), (5, .ref (ar 5)), (6, .ref (ar 6)), (7, .ref (ar 7)), (8, .ref (ar 3)), (9, .ref (ar 8)), (10, .ref (ar 4)), (11, .long dr), (14, .int (nI tn)), (19, .int (nI x)), (20, .int (nI 1)), (21, .int (nI 0))]) hx hb dL_law_1520 hl (by decide) rfl (fun ls hl => ?_)
                    exact W.widen (by omega) (by omega) (go _ _ _ _ _ _ _ _ _ _ _ _ _ _ _ _ _ _ _ _ H locs ls hT I' hP hPK hS (lv_sub hl [1, 2, 3, 4, 5, 6, 7, 8, 9, 10, 11, 12, 0, 13] rfl))
                · exact absurd c_531 (by decide)
              · exact absurd c_528 (fun h9 => hbt ((n0 (by omega)).mp h9))
            · exact absurd c_525 (by decide)
      · refine lv_aload hx hb dL_law_1422 (lv_at hl 8 rfl) ?_
        refine lv_iconst (v := 0) hx hb dL_law_1424 (by decide) ?_
        refine va_iald hx hb hG.1 hP 3 0 rfl rfl (inb_in (by decide)) dL_law_1425 ?_
        refine lv_topi (fun w_533 ew_533 => ?_)
        obtain rfl : w_533 = nn 0 := ew_533.trans (congrArg nn (show ((0 : Int32).toNatClampNeg) = 0 by decide))
        refine lv_topi (fun w_534 ew_534 => ?_)
        obtain rfl : w_534 = nI bt := ew_534.trans hN.1
        refine lv_if_le (tgt := 1466) hx hb dL_law_1426 (by decide) (fun c_535 => ?_) (fun c_535 => ?_)
        · exact absurd c_535 (nI_nle (by omega) (by omega))
        · refine lv_iload hx hb dL_law_1429 (lv_at hl 16 rfl) ?_
          refine lv_topi (fun w_536 ew_536 => ?_)
          obtain rfl : w_536 = 1 := ew_536.trans (show nI 1 = 1 from rfl)
          refine lv_iload hx hb dL_law_1431 (lv_at hl 15 rfl) ?_
          refine lv_topi (fun w_537 ew_537 => ?_)
          obtain rfl : w_537 = 1 := ew_537.trans (show nI 1 = 1 from rfl)
          refine lv_icmp_eq (tgt := 1466) hx hb dL_law_1433 (by decide) (fun c_538 => ?_) (fun c_538 => ?_)
          · refine lv_aload_n hx hb dL_law_1466 rfl (lv_at hl 1 rfl) ?_
            refine lv_bipush (v := 6) hx hb dL_law_1467 (by decide) ?_
            refine lv_iload hx hb dL_law_1469 (lv_at hl 14 rfl) ?_
            refine lv_iload hx hb dL_law_1471 (lv_at hl 16 rfl) ?_
            refine lv_topi (fun w_539 ew_539 => ?_)
            obtain rfl : w_539 = 1 := ew_539.trans (show nI 1 = 1 from rfl)
            refine lv_if_eq (tgt := 1480) hx hb dL_law_1473 (by decide) (fun c_540 => ?_) (fun c_540 => ?_)
            · exact absurd c_540 (by decide)
            · refine lv_iconst (v := 1) hx hb dL_law_1476 (by decide) ?_
              refine lv_goto (tgt := 1481) hx hb dL_law_1477 (by decide) ?_
              refine lz_callL (l := l) (pc := 1481) (n := 4) (W0 := lz_K Y o0 ast ald ahi act acd st ld hi ct cd) (Wr := qz_A Y ar v h ev nn qq li bb t uu) (As := [.ref o0, .int 6, .int (nI x), .int 1]) (rest := []) C0 hG hB hNC hap.app.2.1 lz_eK qz_eA hap.swap (ct_does_undo1_ex92 l D Y o0 ast st ald ld ahi hi act ct acd cd (nI x) (tv_undo1 (x := x) I hxx (Or.inl ⟨rfl, hbit⟩)) hl0) gL_law_L_does rfl rfl rfl (by decide +kernel) ⟨Nat.le_of_ble_eq_true rfl, Nat.le_of_ble_eq_true rfl⟩ rfl hl.1 rfl (Nat.le_of_ble_eq_true rfl) dL_law_1481 ⟨qz_f1 (k := 2) (show cells + 2000 ≤ 600130 by omega) (by decide), qz_f2 (k := 12) (show slots + 12000 ≤ 7301080 by omega) (by decide)⟩ hPK hP hS (fun H locs hPK hP hS => ?_)
              have hPK : va_P D vwCl (lz_K Y o0 ast ald ahi act acd st ld hi ct cd) H := hPK
              have hP : va_P D vwCl (qz_A Y ar v h ev nn qq li bb t uu) H := hP
              have hD : va_D (fun q => s.heap.size ≤ q) (qz_A Y ar v h ev nn qq li bb t uu) := qz_apD hap qz_eA
              change W _ _ _ _ _ _ _ _ _ _ _ _ _ _ _ (F0 m 1484 _ (.int (-13) :: []))
              refine lv_aload hx hb dL_law_1484 (lv_at hl 8 rfl) ?_
              refine lv_iconst (v := 0) hx hb dL_law_1486 (by decide) ?_
              refine va_iald hx hb hG.1 hP 3 0 rfl rfl (inb_in (by decide)) dL_law_1487 ?_
              refine lv_topi (fun w_541 ew_541 => ?_)
              obtain rfl : w_541 = nn 0 := ew_541.trans (congrArg nn (show ((0 : Int32).toNatClampNeg) = 0 by decide))
              refine lv_topi (fun w_542 ew_542 => ?_)
              obtain rfl : w_542 = nI bt := ew_542.trans hN.1
              refine lv_if_ne (tgt := 1496) hx hb dL_law_1488 (by decide) (fun c_543 => ?_) (fun c_543 => ?_)
              · refine lv_iload hx hb dL_law_1496 (lv_at hl 16 rfl) ?_
                refine lv_topi (fun w_544 ew_544 => ?_)
                obtain rfl : w_544 = 1 := ew_544.trans (show nI 1 = 1 from rfl)
                refine lv_iload hx hb dL_law_1498 (lv_at hl 15 rfl) ?_
                refine lv_topi (fun w_545 ew_545 => ?_)
                obtain rfl : w_545 = 1 := ew_545.trans (show nI 1 = 1 from rfl)
                refine lv_icmp_ne (tgt := 1508) hx hb dL_law_1500 (by decide) (fun c_546 => ?_) (fun c_546 => ?_)
                · exact absurd c_546 (by decide)
                · refine lv_bipush (v := (-13)) hx hb dL_law_1503 (by decide) ?_
                  refine lv_goto (tgt := 1512) hx hb dL_law_1505 (by decide) ?_
                  refine lv_icmp_ne (tgt := 1519) hx hb dL_law_1512 (by decide) (fun c_547 => ?_) (fun c_547 => ?_)
                  · exact absurd c_547 (by decide)
                  · refine lv_iconst (v := 1) hx hb dL_law_1515 (by decide) ?_
                    refine lv_goto (tgt := 1520) hx hb dL_law_1516 (by decide) ?_
                    refine lv_istore (lv' := [(13, .int 1), (0, .ref b), (1, .ref o0), (2, .ref (ar 0)), (3, .ref (ar 1)), (4, .ref (ar 2)), (5, .ref (ar 5)), (6, .ref (ar 6)), (7, .ref (ar 7)), (8, .ref (ar 3)), (9, .ref (ar 8)), (10, .ref (ar 4)), (11, .long dr), (14, .int (nI tn)), (19, .int (nI x)), (20, .int (nI 1)), (21, .int (nI 1))]) hx hb dL_law_1520 hl (by decide) rfl (fun ls hl => ?_)
                    exact W.widen (by omega) (by omega) (go _ _ _ _ _ _ _ _ _ _ _ _ _ _ _ _ _ _ _ _ H locs ls hT I hP hPK hS (lv_sub hl [1, 2, 3, 4, 5, 6, 7, 8, 9, 10, 11, 12, 0, 13] rfl))
              · exact absurd c_543 (fun h9 => hbt ((n0 (by omega)).mp h9))
          · exact absurd c_538 (by decide)
    · rw [if_neg hbit] at ho9
      subst ho9
      rcases (show nx = 0 ∨ nx = 1 by omega) with rfl | rfl
      · refine lv_aload hx hb dL_law_1422 (lv_at hl 8 rfl) ?_
        refine lv_iconst (v := 0) hx hb dL_law_1424 (by decide) ?_
        refine va_iald hx hb hG.1 hP 3 0 rfl rfl (inb_in (by decide)) dL_law_1425 ?_
        refine lv_topi (fun w_548 ew_548 => ?_)
        obtain rfl : w_548 = nn 0 := ew_548.trans (congrArg nn (show ((0 : Int32).toNatClampNeg) = 0 by decide))
        refine lv_topi (fun w_549 ew_549 => ?_)
        obtain rfl : w_549 = nI bt := ew_549.trans hN.1
        refine lv_if_le (tgt := 1466) hx hb dL_law_1426 (by decide) (fun c_550 => ?_) (fun c_550 => ?_)
        · exact absurd c_550 (nI_nle (by omega) (by omega))
        · refine lv_iload hx hb dL_law_1429 (lv_at hl 16 rfl) ?_
          refine lv_topi (fun w_551 ew_551 => ?_)
          obtain rfl : w_551 = 0 := ew_551.trans (show nI 0 = 0 from rfl)
          refine lv_iload hx hb dL_law_1431 (lv_at hl 15 rfl) ?_
          refine lv_topi (fun w_552 ew_552 => ?_)
          obtain rfl : w_552 = 0 := ew_552.trans (show nI 0 = 0 from rfl)
          refine lv_icmp_eq (tgt := 1466) hx hb dL_law_1433 (by decide) (fun c_553 => ?_) (fun c_553 => ?_)
          · refine lv_aload_n hx hb dL_law_1466 rfl (lv_at hl 1 rfl) ?_
            refine lv_bipush (v := 6) hx hb dL_law_1467 (by decide) ?_
            refine lv_iload hx hb dL_law_1469 (lv_at hl 14 rfl) ?_
            refine lv_iload hx hb dL_law_1471 (lv_at hl 16 rfl) ?_
            refine lv_topi (fun w_554 ew_554 => ?_)
            obtain rfl : w_554 = 0 := ew_554.trans (show nI 0 = 0 from rfl)
            refine lv_if_eq (tgt := 1480) hx hb dL_law_1473 (by decide) (fun c_555 => ?_) (fun c_555 => ?_)
            · refine lv_iconst (v := 0) hx hb dL_law_1480 (by decide) ?_
              refine lz_callL (l := l) (pc := 1481) (n := 4) (W0 := lz_K Y o0 ast ald ahi act acd st ld hi ct cd) (Wr := qz_A Y ar v h ev nn qq li bb t uu) (As := [.ref o0, .int 6, .int (nI x), .int 0]) (rest := []) C0 hG hB hNC hap.app.2.1 lz_eK qz_eA hap.swap (ct_does_undo0_ex92 l D Y o0 ast st ald ld ahi hi act ct acd cd (nI x) (tv_undo1 (x := x) I hxx (Or.inr ⟨rfl, hbit⟩)) hl0) gL_law_L_does rfl rfl rfl (by decide +kernel) ⟨Nat.le_of_ble_eq_true rfl, Nat.le_of_ble_eq_true rfl⟩ rfl hl.1 rfl (Nat.le_of_ble_eq_true rfl) dL_law_1481 ⟨qz_f1 (k := 2) (show cells + 2000 ≤ 600130 by omega) (by decide), qz_f2 (k := 12) (show slots + 12000 ≤ 7301080 by omega) (by decide)⟩ hPK hP hS (fun H locs hPK hP hS => ?_)
              have hPK : va_P D vwCl (lz_K Y o0 ast ald ahi act acd st ld hi ct cd) H := hPK
              have hP : va_P D vwCl (qz_A Y ar v h ev nn qq li bb t uu) H := hP
              have hD : va_D (fun q => s.heap.size ≤ q) (qz_A Y ar v h ev nn qq li bb t uu) := qz_apD hap qz_eA
              change W _ _ _ _ _ _ _ _ _ _ _ _ _ _ _ (F0 m 1484 _ (.int (-13) :: []))
              refine lv_aload hx hb dL_law_1484 (lv_at hl 8 rfl) ?_
              refine lv_iconst (v := 0) hx hb dL_law_1486 (by decide) ?_
              refine va_iald hx hb hG.1 hP 3 0 rfl rfl (inb_in (by decide)) dL_law_1487 ?_
              refine lv_topi (fun w_556 ew_556 => ?_)
              obtain rfl : w_556 = nn 0 := ew_556.trans (congrArg nn (show ((0 : Int32).toNatClampNeg) = 0 by decide))
              refine lv_topi (fun w_557 ew_557 => ?_)
              obtain rfl : w_557 = nI bt := ew_557.trans hN.1
              refine lv_if_ne (tgt := 1496) hx hb dL_law_1488 (by decide) (fun c_558 => ?_) (fun c_558 => ?_)
              · refine lv_iload hx hb dL_law_1496 (lv_at hl 16 rfl) ?_
                refine lv_topi (fun w_559 ew_559 => ?_)
                obtain rfl : w_559 = 0 := ew_559.trans (show nI 0 = 0 from rfl)
                refine lv_iload hx hb dL_law_1498 (lv_at hl 15 rfl) ?_
                refine lv_topi (fun w_560 ew_560 => ?_)
                obtain rfl : w_560 = 0 := ew_560.trans (show nI 0 = 0 from rfl)
                refine lv_icmp_ne (tgt := 1508) hx hb dL_law_1500 (by decide) (fun c_561 => ?_) (fun c_561 => ?_)
                · exact absurd c_561 (by decide)
                · refine lv_bipush (v := (-13)) hx hb dL_law_1503 (by decide) ?_
                  refine lv_goto (tgt := 1512) hx hb dL_law_1505 (by decide) ?_
                  refine lv_icmp_ne (tgt := 1519) hx hb dL_law_1512 (by decide) (fun c_562 => ?_) (fun c_562 => ?_)
                  · exact absurd c_562 (by decide)
                  · refine lv_iconst (v := 1) hx hb dL_law_1515 (by decide) ?_
                    refine lv_goto (tgt := 1520) hx hb dL_law_1516 (by decide) ?_
                    refine lv_istore (lv' := [(13, .int 1), (0, .ref b), (1, .ref o0), (2, .ref (ar 0)), (3, .ref (ar 1)), (4, .ref (ar 2)), (5, .ref (ar 5)), (6, .ref (ar 6)), (7, .ref (ar 7)), (8, .ref (ar 3)), (9, .ref (ar 8)), (10, .ref (ar 4)), (11, .long dr), (14, .int (nI tn)), (19, .int (nI x)), (20, .int (nI 0)), (21, .int (nI 0))]) hx hb dL_law_1520 hl (by decide) rfl (fun ls hl => ?_)
                    exact W.widen (by omega) (by omega) (go _ _ _ _ _ _ _ _ _ _ _ _ _ _ _ _ _ _ _ _ H locs ls hT I hP hPK hS (lv_sub hl [1, 2, 3, 4, 5, 6, 7, 8, 9, 10, 11, 12, 0, 13] rfl))
              · exact absurd c_558 (fun h9 => hbt ((n0 (by omega)).mp h9))
            · exact absurd c_555 (by decide)
          · exact absurd c_553 (by decide)
      · obtain ⟨v', h', t', hM, z, u', hE, hm, I'⟩ := tv_undo (x := x) (w := 1) I hxx (Or.inl ⟨rfl, hbit⟩) (upd uu 0 (nI (U ^^^ 2 ^ x))) pk_us
        refine lv_aload hx hb dL_law_1422 (lv_at hl 8 rfl) ?_
        refine lv_iconst (v := 0) hx hb dL_law_1424 (by decide) ?_
        refine va_iald hx hb hG.1 hP 3 0 rfl rfl (inb_in (by decide)) dL_law_1425 ?_
        refine lv_topi (fun w_563 ew_563 => ?_)
        obtain rfl : w_563 = nn 0 := ew_563.trans (congrArg nn (show ((0 : Int32).toNatClampNeg) = 0 by decide))
        refine lv_topi (fun w_564 ew_564 => ?_)
        obtain rfl : w_564 = nI bt := ew_564.trans hN.1
        refine lv_if_le (tgt := 1466) hx hb dL_law_1426 (by decide) (fun c_565 => ?_) (fun c_565 => ?_)
        · exact absurd c_565 (nI_nle (by omega) (by omega))
        · refine lv_iload hx hb dL_law_1429 (lv_at hl 16 rfl) ?_
          refine lv_topi (fun w_566 ew_566 => ?_)
          obtain rfl : w_566 = 1 := ew_566.trans (show nI 1 = 1 from rfl)
          refine lv_iload hx hb dL_law_1431 (lv_at hl 15 rfl) ?_
          refine lv_topi (fun w_567 ew_567 => ?_)
          obtain rfl : w_567 = 0 := ew_567.trans (show nI 0 = 0 from rfl)
          refine lv_icmp_eq (tgt := 1466) hx hb dL_law_1433 (by decide) (fun c_568 => ?_) (fun c_568 => ?_)
          · exact absurd c_568 (by decide)
          · refine lv_aload hx hb dL_law_1436 (lv_at hl 9 rfl) ?_
            refine lv_iconst (v := 0) hx hb dL_law_1438 (by decide) ?_
            refine lv_dup2_11 hx hb dL_law_1439 rfl rfl ?_
            refine va_iald hx hb hG.1 hP 8 0 rfl rfl (inb_in (by decide)) dL_law_1440 ?_
            refine lv_topi (fun w_569 ew_569 => ?_)
            obtain rfl : w_569 = uu 0 := ew_569.trans (congrArg uu (show ((0 : Int32).toNatClampNeg) = 0 by decide))
            refine lv_topi (fun w_570 ew_570 => ?_)
            obtain rfl : w_570 = nI U := ew_570.trans I.2.2.2.2.2.1.1
            refine lv_iconst (v := 1) hx hb dL_law_1441 (by decide) ?_
            refine lv_iload hx hb dL_law_1442 (lv_at hl 14 rfl) ?_
            refine lv_ishl hx hb dL_law_1444 ?_
            refine lv_ixor hx hb dL_law_1445 ?_
            refine lv_topi (fun w_571 ew_571 => ?_)
            obtain rfl : w_571 = nI (U ^^^ 2 ^ x) := ew_571.trans (uxor U I.2.2.2.2.2.1.2.1 x (by omega))
            refine qz_ist hx hb hG.1 hap qz_eA lz_eK hP hPK hS 8 0 rfl rfl (inb_in (by decide)) dL_law_1446 (fun H locs hP hPK hS => ?_)
            rw [show ((0 : Int32).toNatClampNeg) = 0 by decide] at hP
            have hP : va_P D vwCl (qz_A Y ar v h ev nn qq li bb t (upd uu 0 (nI (U ^^^ 2 ^ x)))) H := hP
            have hD : va_D (fun q => s.heap.size ≤ q) (qz_A Y ar v h ev nn qq li bb t (upd uu 0 (nI (U ^^^ 2 ^ x)))) := qz_apD hap qz_eA
            refine lv_aload_n hx hb dL_law_1447 rfl (lv_at hl 2 rfl) ?_
            refine lv_aload_n hx hb dL_law_1448 rfl (lv_at hl 3 rfl) ?_
            refine lv_aload hx hb dL_law_1449 (lv_at hl 4 rfl) ?_
            refine lv_aload hx hb dL_law_1451 (lv_at hl 8 rfl) ?_
            refine lv_aload hx hb dL_law_1453 (lv_at hl 10 rfl) ?_
            refine lv_aload hx hb dL_law_1455 (lv_at hl 5 rfl) ?_
            refine lv_aload hx hb dL_law_1457 (lv_at hl 6 rfl) ?_
            refine lv_aload hx hb dL_law_1459 (lv_at hl 7 rfl) ?_
            refine lv_aload hx hb dL_law_1461 (lv_at hl 9 rfl) ?_
            refine qz_WS (R := room_1) (args := #[Value.ref b]) (y := yL_makes) (bytes := cL_makes) (cc := code) (maxL := 13) (nL := 23) (n := 9) (index := 157) (pc := 1463) (ret := none) (ws := wsL_makes) (rm := cq_rm 3 85) (Ts := wsL_law) (own := RL) (D := D) (Y := Y) (W0 := [(ar 0, .inl (Y.2.2, 40, .inr (.inl v))), (ar 1, .inl (Y.1, 40, .inl h)), (ar 2, .inl (Y.1, 64, .inl ev)), (ar 3, .inl (Y.1, 4, .inl nn)), (ar 4, .inl (Y.1, 12, .inl qq)), (ar 5, .inl (Y.2.2, 40, .inr (.inl li))), (ar 6, .inl (Y.1, 40, .inl bb)), (ar 7, .inl (Y.1, 40, .inl t)), (ar 8, .inl (Y.1, 1, .inl (upd uu 0 (nI (U ^^^ 2 ^ x)))))]) (W1 := [(ar 0, .inl (Y.2.2, 40, .inr (.inl v'))), (ar 1, .inl (Y.1, 40, .inl h')), (ar 2, .inl (Y.1, 64, .inl ev)), (ar 3, .inl (Y.1, 4, .inl nn)), (ar 4, .inl (Y.1, 12, .inl qq)), (ar 5, .inl (Y.2.2, 40, .inr (.inl li))), (ar 6, .inl (Y.1, 40, .inl bb)), (ar 7, .inl (Y.1, 40, .inl t')), (ar 8, .inl (Y.1, 1, .inl (upd uu 0 (nI (U ^^^ 2 ^ x)))))]) (wl := qz_A Y ar v h ev nn qq li bb t (upd uu 0 (nI (U ^^^ 2 ^ x)))) (Wr := lz_K Y o0 ast ald ahi act acd st ld hi ct cd) (v := none) (As := [.ref (ar 0), .ref (ar 1), .ref (ar 2), .ref (ar 3), .ref (ar 4), .ref (ar 5), .ref (ar 6), .ref (ar 7), .ref (ar 8)]) (rest := []) (A := fun q => s.heap.size ≤ q) (qz_A Y ar v' h' ev nn qq li bb t' (upd uu 0 (nI (U ^^^ 2 ^ x)))) [0, 1, 2, 3, 4, 5, 6, 7, 8] [] ⟨hx, hb, hml, hown, hts⟩ (ct_L_makes l D Y (ar 0) v (ar 1) h (ar 2) ev (ar 3) nn (ar 4) qq (ar 5) li (ar 6) bb (ar 7) t (ar 8) (upd uu 0 (nI (U ^^^ 2 ^ x)))  (v', h', t') hM) (va_cwS 9 hts gL_law_L_makes rfl rfl rfl (by decide +kernel) ⟨Nat.le_of_ble_eq_true rfl, Nat.le_of_ble_eq_true rfl⟩) hG hap qz_eA lz_eK hP hPK hS rfl (by decide +kernel) ⟨rfl, ⟨[], rfl, rfl⟩, 9, rfl, by decide +kernel⟩ rfl rfl hl.1 rfl (Nat.le_of_ble_eq_true rfl) dL_law_1463 ⟨qz_f1 (k := 0) (show cells + 2000 ≤ 600130 by omega) (by decide), qz_f2 (k := 0) (show slots + 12000 ≤ 7301080 by omega) (by decide)⟩ (fun H locs hP hPK hS => ?_)
            have hP : va_P D vwCl (qz_A Y ar v' h' ev nn qq li bb t' (upd uu 0 (nI (U ^^^ 2 ^ x)))) H := hP
            have hD : va_D (fun q => s.heap.size ≤ q) (qz_A Y ar v' h' ev nn qq li bb t' (upd uu 0 (nI (U ^^^ 2 ^ x)))) := qz_apD hap qz_eA
            change W _ _ _ _ _ _ _ _ _ _ _ _ _ _ _ (F0 m 1466 _ [])
            refine lv_aload_n hx hb dL_law_1466 rfl (lv_at hl 1 rfl) ?_
            refine lv_bipush (v := 6) hx hb dL_law_1467 (by decide) ?_
            refine lv_iload hx hb dL_law_1469 (lv_at hl 14 rfl) ?_
            refine lv_iload hx hb dL_law_1471 (lv_at hl 16 rfl) ?_
            refine lv_topi (fun w_572 ew_572 => ?_)
            obtain rfl : w_572 = 1 := ew_572.trans (show nI 1 = 1 from rfl)
            refine lv_if_eq (tgt := 1480) hx hb dL_law_1473 (by decide) (fun c_573 => ?_) (fun c_573 => ?_)
            · exact absurd c_573 (by decide)
            · refine lv_iconst (v := 1) hx hb dL_law_1476 (by decide) ?_
              refine lv_goto (tgt := 1481) hx hb dL_law_1477 (by decide) ?_
              refine lz_callL (l := l) (pc := 1481) (n := 4) (W0 := lz_K Y o0 ast ald ahi act acd st ld hi ct cd) (Wr := qz_A Y ar v' h' ev nn qq li bb t' (upd uu 0 (nI (U ^^^ 2 ^ x)))) (As := [.ref o0, .int 6, .int (nI x), .int 1]) (rest := []) C0 hG hB hNC hap.app.2.1 lz_eK qz_eA hap.swap (ct_does_undo1_ok l D Y o0 ast st ald ld ahi hi act ct acd cd (nI x) z hE hl0) gL_law_L_does rfl rfl rfl (by decide +kernel) ⟨Nat.le_of_ble_eq_true rfl, Nat.le_of_ble_eq_true rfl⟩ rfl hl.1 rfl (Nat.le_of_ble_eq_true rfl) dL_law_1481 ⟨qz_f1 (k := 2) (show cells + 2000 ≤ 600130 by omega) (by decide), qz_f2 (k := 12) (show slots + 12000 ≤ 7301080 by omega) (by decide)⟩ hPK hP hS (fun H locs hPK hP hS => ?_)
              have hPK : va_P D vwCl (lz_K Y o0 ast ald ahi act acd st z.1.1 hi z.1.2 cd) H := hPK
              have hP : va_P D vwCl (qz_A Y ar v' h' ev nn qq li bb t' (upd uu 0 (nI (U ^^^ 2 ^ x)))) H := hP
              have hD : va_D (fun q => s.heap.size ≤ q) (qz_A Y ar v' h' ev nn qq li bb t' (upd uu 0 (nI (U ^^^ 2 ^ x)))) := qz_apD hap qz_eA
              change W _ _ _ _ _ _ _ _ _ _ _ _ _ _ _ (F0 m 1484 _ (.int z.2 :: []))
              refine lv_aload hx hb dL_law_1484 (lv_at hl 8 rfl) ?_
              refine lv_iconst (v := 0) hx hb dL_law_1486 (by decide) ?_
              refine va_iald hx hb hG.1 hP 3 0 rfl rfl (inb_in (by decide)) dL_law_1487 ?_
              refine lv_topi (fun w_574 ew_574 => ?_)
              obtain rfl : w_574 = nn 0 := ew_574.trans (congrArg nn (show ((0 : Int32).toNatClampNeg) = 0 by decide))
              refine lv_topi (fun w_575 ew_575 => ?_)
              obtain rfl : w_575 = nI bt := ew_575.trans hN.1
              refine lv_if_ne (tgt := 1496) hx hb dL_law_1488 (by decide) (fun c_576 => ?_) (fun c_576 => ?_)
              · refine lv_iload hx hb dL_law_1496 (lv_at hl 16 rfl) ?_
                refine lv_topi (fun w_577 ew_577 => ?_)
                obtain rfl : w_577 = 1 := ew_577.trans (show nI 1 = 1 from rfl)
                refine lv_iload hx hb dL_law_1498 (lv_at hl 15 rfl) ?_
                refine lv_topi (fun w_578 ew_578 => ?_)
                obtain rfl : w_578 = 0 := ew_578.trans (show nI 0 = 0 from rfl)
                refine lv_icmp_ne (tgt := 1508) hx hb dL_law_1500 (by decide) (fun c_579 => ?_) (fun c_579 => ?_)
                · refine lv_aload_n hx hb dL_law_1508 rfl (lv_at hl 2 rfl) ?_
                  refine cq_RS (R := room_1) (args := #[Value.ref b]) (y := yL_many) (bytes := cL_many) (cc := code) (maxL := 3) (nL := 23) (n := 1) (index := 106) (ret := (some .int)) (ws := wsL_many) (rm := cq_rm 1 21) (Ts := wsL_law) (own := RL) (D := D) (Y := Y) (W0 := cl_lar Y (ar 0) 40 v') (wl := qz_A Y ar v' h' ev nn qq li bb t' (upd uu 0 (nI (U ^^^ 2 ^ x)))) (v := some (.int z.2)) (st0 := [.ref (ar 0), .int z.2]) (As := [.ref (ar 0)]) (rest := [.int z.2]) ⟨hx, hb, hml, hown, hts⟩ (ct_L_many l D Y (ar 0) v'  z.2 hm) (va_cwS 1 hts gL_law_L_many rfl rfl rfl (by decide +kernel) ⟨Nat.le_of_ble_eq_true rfl, Nat.le_of_ble_eq_true rfl⟩) hG hP hD [0] rfl (by decide +kernel) rfl hl.1 rfl (Nat.le_of_ble_eq_true rfl) dL_law_1509 ⟨qz_f1 (k := 0) (show cells + 2 + 2000 ≤ 600130 by omega) (by decide), qz_f2 (k := 0) (show slots + 12 + 12000 ≤ 7301080 by omega) (by decide)⟩ ?_
                  change W _ _ _ _ _ _ _ _ _ _ _ _ _ _ _ (F0 m 1512 _ (.int z.2 :: [.int z.2]))
                  refine lv_icmp_ne (tgt := 1519) hx hb dL_law_1512 (by decide) (fun c_580 => ?_) (fun c_580 => ?_)
                  · exact absurd (Eq.refl (z.2)) c_580
                  · refine lv_iconst (v := 1) hx hb dL_law_1515 (by decide) ?_
                    refine lv_goto (tgt := 1520) hx hb dL_law_1516 (by decide) ?_
                    refine lv_istore (lv' := [(13, .int 1), (0, .ref b), (1, .ref o0), (2, .ref (ar 0)), (3, .ref (ar 1)), (4, .ref (ar 2)), (5, .ref (ar 5)), (6, .ref (ar 6)), (7, .ref (ar 7)), (8, .ref (ar 3)), (9, .ref (ar 8)), (10, .ref (ar 4)), (11, .long dr), (14, .int (nI tn)), (19, .int (nI x)), (20, .int (nI 0)), (21, .int (nI 1))]) hx hb dL_law_1520 hl (by decide) rfl (fun ls hl => ?_)
                    exact W.widen (by omega) (by omega) (go _ _ _ _ _ _ _ _ _ _ _ _ _ _ _ _ _ _ _ _ H locs ls hT I' hP hPK hS (lv_sub hl [1, 2, 3, 4, 5, 6, 7, 8, 9, 10, 11, 12, 0, 13] rfl))
                · exact absurd c_579 (by decide)
              · exact absurd c_576 (fun h9 => hbt ((n0 (by omega)).mp h9))
end LAW
