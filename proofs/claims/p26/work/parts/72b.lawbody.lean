section LAW
variable {p : Program} {l : Launch} {e : Env} {s : State} {m : MethodId} {below : List Frame} {meth : Method} {c : Code} {H : Heap} {locs : List Loc} {cells slots : Nat} {Q : State → Prop} {ls : Array Slot} {D : va_G} {Y : cq_Y} {b L : Nat} {xs : Nat → Int32} {o0 : Nat} {ast ald ahi act acd ar : Nat → Nat}
variable {n bt d U tn K y r : Nat} {st : SetS} {ld : LodS} {hi : HisS} {ct cd : CatS} {u : MdlS} {v li : FL} {h ev nn qq bb t uu : FI} {dr : Int64}
set_option maxHeartbeats 4000000 in
set_option maxRecDepth 100000 in
theorem qz_B0 (X : qz_X p l s m meth c b L xs D Y o0 ast ald ahi act acd ar) (hc : cells + 4000 ≤ 600130) (hsl : slots + 24000 ≤ 7301080) (I : IV n bt d U st ld hi ct cd u v h ev nn qq li bb t uu dr) (hP : va_P D vwCl (qz_A Y ar v h ev nn qq li bb t uu) H) (hPK : va_P D vwCl (lz_K Y o0 ast ald ahi act acd st ld hi ct cd) H) (hS : va_S (fun q => s.heap.size ≤ q) s.heap H locs) (go : qz_go p l e s m below meth c b D Y o0 ast ald ahi act acd ar Q 1522 tn (fun n => tn + 1 ≤ 6 → n = 0) (cells + 10) (slots + 60)) (hy : y < 2147483648) (hT : tn + 1 ≤ 6 → n = 0) (hn0 : n = 0) (hl : lv_has ls 23 [(0, .ref b), (1, .ref o0), (2, .ref (ar 0)), (3, .ref (ar 1)), (4, .ref (ar 2)), (5, .ref (ar 5)), (6, .ref (ar 6)), (7, .ref (ar 7)), (8, .ref (ar 3)), (9, .ref (ar 8)), (10, .ref (ar 4)), (11, .long dr), (13, .int 1), (14, .int (nI tn)), (17, .int (nI y))]) : W p l e room_1 s m #[Value.ref b] below meth c H locs (cells) (slots) Q (F0 m 300 ls []) := by
  obtain ⟨C0, hl0, hG, hB, hNC, hap⟩ := id X
  obtain ⟨hx, hb, hr, hml, hown, htb, hX, hbl, hlocks, hgv⟩ := id C0
  have hown : s.vm.findClass RL = some m.cls := hown
  have hts : ∀ w ∈ wsL_law, w.before #[Value.ref b] s = true := fun w h => htb w (wsL_law_in w h)
  have hD : va_D (fun q => s.heap.size ≤ q) (qz_A Y ar v h ev nn qq li bb t uu) := qz_apD hap qz_eA
  have hN := I.2.2.2.2.2.2.1
  have hn40 := I.2.2.2.2.2.2.2.1
  have hb10 := I.1.1.2.1
  obtain ⟨z, u', hE, hz, I'⟩ := tv_rank (a := y % 5) (w := y / 5 % 10) I hn0 (by omega) (by omega)
  refine lv_aload_n hx hb dL_law_300 rfl (lv_at hl 1 rfl) ?_
  refine lv_bipush (v := 7) hx hb dL_law_301 (by decide) ?_
  refine lv_iload hx hb dL_law_303 (lv_at hl 14 rfl) ?_
  refine lv_iconst (v := 5) hx hb dL_law_305 (by decide) ?_
  refine lv_irem hx hb dL_law_306 (by decide) ?_
  refine lv_topi (fun w_1 ew_1 => ?_)
  obtain rfl : w_1 = nI (y % 5) := ew_1.trans (nI_md (a := y) (b := 5) (by omega) (by omega))
  refine lv_iload hx hb dL_law_307 (lv_at hl 14 rfl) ?_
  refine lv_iconst (v := 5) hx hb dL_law_309 (by decide) ?_
  refine lv_idiv hx hb dL_law_310 (by decide) ?_
  refine lv_topi (fun w_2 ew_2 => ?_)
  obtain rfl : w_2 = nI (y / 5) := ew_2.trans (nI_dv (a := y) (b := 5) (by omega) (by omega))
  refine lv_bipush (v := 10) hx hb dL_law_311 (by decide) ?_
  refine lv_irem hx hb dL_law_313 (by decide) ?_
  refine lv_topi (fun w_3 ew_3 => ?_)
  obtain rfl : w_3 = nI ((y / 5) % 10) := ew_3.trans (nI_md (a := y / 5) (b := 10) (by omega) (by omega))
  refine lz_callL (l := l) (pc := 314) (n := 4) (W0 := lz_K Y o0 ast ald ahi act acd st ld hi ct cd) (Wr := qz_A Y ar v h ev nn qq li bb t uu) (As := [.ref o0, .int 7, .int (nI (y % 5)), .int (nI ((y / 5) % 10))]) (rest := []) C0 hG hB hNC hap.app.2.1 lz_eK qz_eA hap.swap (ct_does_setRank_ok l D Y o0 ast st ald ld ahi hi act ct acd cd (nI (y % 5)) (nI ((y / 5) % 10)) z hE hl0) gL_law_L_does rfl rfl rfl (by decide +kernel) ⟨Nat.le_of_ble_eq_true rfl, Nat.le_of_ble_eq_true rfl⟩ rfl hl.1 rfl (Nat.le_of_ble_eq_true rfl) dL_law_314 ⟨qz_f1 (k := 3) (show cells + 2000 ≤ 600130 by omega) (by decide), qz_f2 (k := 18) (show slots + 12000 ≤ 7301080 by omega) (by decide)⟩ hPK hP hS (fun H locs hPK hP hS => ?_)
  have hPK : va_P D vwCl (lz_K Y o0 ast ald ahi act acd z.1 ld hi ct cd) H := hPK
  have hP : va_P D vwCl (qz_A Y ar v h ev nn qq li bb t uu) H := hP
  have hD : va_D (fun q => s.heap.size ≤ q) (qz_A Y ar v h ev nn qq li bb t uu) := qz_apD hap qz_eA
  change W _ _ _ _ _ _ _ _ _ _ _ _ _ _ _ (F0 m 317 _ (.int z.2 :: []))
  refine lv_topi (fun w_4 ew_4 => ?_)
  obtain rfl : w_4 = qq (y % 5) := ew_4.trans hz
  refine lv_aload hx hb dL_law_317 (lv_at hl 10 rfl) ?_
  refine lv_iload hx hb dL_law_319 (lv_at hl 14 rfl) ?_
  refine lv_iconst (v := 5) hx hb dL_law_321 (by decide) ?_
  refine lv_irem hx hb dL_law_322 (by decide) ?_
  refine lv_topi (fun w_5 ew_5 => ?_)
  obtain rfl : w_5 = nI (y % 5) := ew_5.trans (nI_md (a := y) (b := 5) (by omega) (by omega))
  refine va_iald hx hb hG.1 hP 4 0 rfl rfl (inb_in (inb_n (show y % 5 < 12 by omega) (by decide))) dL_law_323 ?_
  refine lv_topi (fun w_6 ew_6 => ?_)
  obtain rfl : w_6 = qq (y % 5) := ew_6.trans (congrArg qq (ncl (show y % 5 < 2147483648 by omega)))
  refine lv_icmp_ne (tgt := 331) hx hb dL_law_324 (by decide) (fun c_7 => ?_) (fun c_7 => ?_)
  · exact absurd (Eq.refl (qq (y % 5))) c_7
  · refine lv_iconst (v := 1) hx hb dL_law_327 (by decide) ?_
    refine lv_goto (tgt := 332) hx hb dL_law_328 (by decide) ?_
    refine lv_istore (lv' := [(13, .int 1), (0, .ref b), (1, .ref o0), (2, .ref (ar 0)), (3, .ref (ar 1)), (4, .ref (ar 2)), (5, .ref (ar 5)), (6, .ref (ar 6)), (7, .ref (ar 7)), (8, .ref (ar 3)), (9, .ref (ar 8)), (10, .ref (ar 4)), (11, .long dr), (14, .int (nI tn)), (17, .int (nI y))]) hx hb dL_law_332 hl (by decide) rfl (fun ls hl => ?_)
    refine lv_aload hx hb dL_law_334 (lv_at hl 11 rfl) ?_
    refine lv_iload hx hb dL_law_336 (lv_at hl 14 rfl) ?_
    refine lv_iconst (v := 5) hx hb dL_law_338 (by decide) ?_
    refine lv_irem hx hb dL_law_339 (by decide) ?_
    refine lv_topi (fun w_8 ew_8 => ?_)
    obtain rfl : w_8 = nI (y % 5) := ew_8.trans (nI_md (a := y) (b := 5) (by omega) (by omega))
    refine lv_iload hx hb dL_law_340 (lv_at hl 14 rfl) ?_
    refine lv_iconst (v := 5) hx hb dL_law_342 (by decide) ?_
    refine lv_idiv hx hb dL_law_343 (by decide) ?_
    refine lv_topi (fun w_9 ew_9 => ?_)
    obtain rfl : w_9 = nI (y / 5) := ew_9.trans (nI_dv (a := y) (b := 5) (by omega) (by omega))
    refine lv_bipush (v := 10) hx hb dL_law_344 (by decide) ?_
    refine lv_irem hx hb dL_law_346 (by decide) ?_
    refine lv_topi (fun w_10 ew_10 => ?_)
    obtain rfl : w_10 = nI ((y / 5) % 10) := ew_10.trans (nI_md (a := y / 5) (b := 10) (by omega) (by omega))
    refine qz_ist hx hb hG.1 hap qz_eA lz_eK hP hPK hS 4 0 rfl rfl (inb_in (inb_n (show y % 5 < 12 by omega) (by decide))) dL_law_347 (fun H locs hP hPK hS => ?_)
    rw [show (nI (y % 5)).toNatClampNeg = y % 5 from ncl (by omega)] at hP
    have hP : va_P D vwCl (qz_A Y ar v h ev nn (upd qq (y % 5) (nI ((y / 5) % 10))) li bb t uu) H := hP
    have hD : va_D (fun q => s.heap.size ≤ q) (qz_A Y ar v h ev nn (upd qq (y % 5) (nI ((y / 5) % 10))) li bb t uu) := qz_apD hap qz_eA
    refine lv_goto (tgt := 1522) hx hb dL_law_348 (by decide) ?_
    exact W.widen (by omega) (by omega) (go _ _ _ _ _ _ _ _ _ _ _ _ _ _ _ _ _ _ _ _ H locs ls hT I' hP hPK hS (lv_sub hl [1, 2, 3, 4, 5, 6, 7, 8, 9, 10, 11, 12, 0, 13] rfl))

set_option maxHeartbeats 4000000 in
set_option maxRecDepth 100000 in
theorem qz_B1 (X : qz_X p l s m meth c b L xs D Y o0 ast ald ahi act acd ar) (hc : cells + 4000 ≤ 600130) (hsl : slots + 24000 ≤ 7301080) (I : IV n bt d U st ld hi ct cd u v h ev nn qq li bb t uu dr) (hP : va_P D vwCl (qz_A Y ar v h ev nn qq li bb t uu) H) (hPK : va_P D vwCl (lz_K Y o0 ast ald ahi act acd st ld hi ct cd) H) (hS : va_S (fun q => s.heap.size ≤ q) s.heap H locs) (go : qz_go p l e s m below meth c b D Y o0 ast ald ahi act acd ar Q 1522 tn (fun n => tn + 1 ≤ 6 → n = 0) (cells + 10) (slots + 60)) (hy : y < 2147483648) (hT : tn + 1 ≤ 6 → n = 0) (hn0 : n = 0) (hl : lv_has ls 23 [(0, .ref b), (1, .ref o0), (2, .ref (ar 0)), (3, .ref (ar 1)), (4, .ref (ar 2)), (5, .ref (ar 5)), (6, .ref (ar 6)), (7, .ref (ar 7)), (8, .ref (ar 3)), (9, .ref (ar 8)), (10, .ref (ar 4)), (11, .long dr), (13, .int 1), (14, .int (nI tn)), (17, .int (nI y))]) : W p l e room_1 s m #[Value.ref b] below meth c H locs (cells) (slots) Q (F0 m 357 ls []) := by
  obtain ⟨C0, hl0, hG, hB, hNC, hap⟩ := id X
  obtain ⟨hx, hb, hr, hml, hown, htb, hX, hbl, hlocks, hgv⟩ := id C0
  have hown : s.vm.findClass RL = some m.cls := hown
  have hts : ∀ w ∈ wsL_law, w.before #[Value.ref b] s = true := fun w h => htb w (wsL_law_in w h)
  have hD : va_D (fun q => s.heap.size ≤ q) (qz_A Y ar v h ev nn qq li bb t uu) := qz_apD hap qz_eA
  have hN := I.2.2.2.2.2.2.1
  have hn40 := I.2.2.2.2.2.2.2.1
  have hb10 := I.1.1.2.1
  obtain ⟨z, u', hE, hz, I'⟩ := tv_rule (a := y % 4) (w := y / 4 % 3) I hn0 (by omega) (by omega)
  refine lv_aload_n hx hb dL_law_357 rfl (lv_at hl 1 rfl) ?_
  refine lv_bipush (v := 8) hx hb dL_law_358 (by decide) ?_
  refine lv_iload hx hb dL_law_360 (lv_at hl 14 rfl) ?_
  refine lv_iconst (v := 4) hx hb dL_law_362 (by decide) ?_
  refine lv_irem hx hb dL_law_363 (by decide) ?_
  refine lv_topi (fun w_11 ew_11 => ?_)
  obtain rfl : w_11 = nI (y % 4) := ew_11.trans (nI_md (a := y) (b := 4) (by omega) (by omega))
  refine lv_iload hx hb dL_law_364 (lv_at hl 14 rfl) ?_
  refine lv_iconst (v := 4) hx hb dL_law_366 (by decide) ?_
  refine lv_idiv hx hb dL_law_367 (by decide) ?_
  refine lv_topi (fun w_12 ew_12 => ?_)
  obtain rfl : w_12 = nI (y / 4) := ew_12.trans (nI_dv (a := y) (b := 4) (by omega) (by omega))
  refine lv_iconst (v := 3) hx hb dL_law_368 (by decide) ?_
  refine lv_irem hx hb dL_law_369 (by decide) ?_
  refine lv_topi (fun w_13 ew_13 => ?_)
  obtain rfl : w_13 = nI ((y / 4) % 3) := ew_13.trans (nI_md (a := y / 4) (b := 3) (by omega) (by omega))
  refine lz_callL (l := l) (pc := 370) (n := 4) (W0 := lz_K Y o0 ast ald ahi act acd st ld hi ct cd) (Wr := qz_A Y ar v h ev nn qq li bb t uu) (As := [.ref o0, .int 8, .int (nI (y % 4)), .int (nI ((y / 4) % 3))]) (rest := []) C0 hG hB hNC hap.app.2.1 lz_eK qz_eA hap.swap (ct_does_setRule_ok l D Y o0 ast st ald ld ahi hi act ct acd cd (nI (y % 4)) (nI ((y / 4) % 3)) z hE hl0) gL_law_L_does rfl rfl rfl (by decide +kernel) ⟨Nat.le_of_ble_eq_true rfl, Nat.le_of_ble_eq_true rfl⟩ rfl hl.1 rfl (Nat.le_of_ble_eq_true rfl) dL_law_370 ⟨qz_f1 (k := 3) (show cells + 2000 ≤ 600130 by omega) (by decide), qz_f2 (k := 18) (show slots + 12000 ≤ 7301080 by omega) (by decide)⟩ hPK hP hS (fun H locs hPK hP hS => ?_)
  have hPK : va_P D vwCl (lz_K Y o0 ast ald ahi act acd z.1 ld hi ct cd) H := hPK
  have hP : va_P D vwCl (qz_A Y ar v h ev nn qq li bb t uu) H := hP
  have hD : va_D (fun q => s.heap.size ≤ q) (qz_A Y ar v h ev nn qq li bb t uu) := qz_apD hap qz_eA
  change W _ _ _ _ _ _ _ _ _ _ _ _ _ _ _ (F0 m 373 _ (.int z.2 :: []))
  refine lv_topi (fun w_14 ew_14 => ?_)
  obtain rfl : w_14 = qq (5 + (y % 4)) := ew_14.trans hz
  refine lv_aload hx hb dL_law_373 (lv_at hl 10 rfl) ?_
  refine lv_iconst (v := 5) hx hb dL_law_375 (by decide) ?_
  refine lv_iload hx hb dL_law_376 (lv_at hl 14 rfl) ?_
  refine lv_iconst (v := 4) hx hb dL_law_378 (by decide) ?_
  refine lv_irem hx hb dL_law_379 (by decide) ?_
  refine lv_topi (fun w_15 ew_15 => ?_)
  obtain rfl : w_15 = nI (y % 4) := ew_15.trans (nI_md (a := y) (b := 4) (by omega) (by omega))
  refine lv_iadd hx hb dL_law_380 ?_
  refine lv_topi (fun w_16 ew_16 => ?_)
  obtain rfl : w_16 = nI (5 + (y % 4)) := ew_16.trans (nI_add 5 (y % 4))
  refine va_iald hx hb hG.1 hP 4 0 rfl rfl (inb_in (inb_n (show 5 + (y % 4) < 12 by omega) (by decide))) dL_law_381 ?_
  refine lv_topi (fun w_17 ew_17 => ?_)
  obtain rfl : w_17 = qq (5 + (y % 4)) := ew_17.trans (congrArg qq (ncl (show 5 + (y % 4) < 2147483648 by omega)))
  refine lv_icmp_ne (tgt := 389) hx hb dL_law_382 (by decide) (fun c_18 => ?_) (fun c_18 => ?_)
  · exact absurd (Eq.refl (qq (5 + (y % 4)))) c_18
  · refine lv_iconst (v := 1) hx hb dL_law_385 (by decide) ?_
    refine lv_goto (tgt := 390) hx hb dL_law_386 (by decide) ?_
    refine lv_istore (lv' := [(13, .int 1), (0, .ref b), (1, .ref o0), (2, .ref (ar 0)), (3, .ref (ar 1)), (4, .ref (ar 2)), (5, .ref (ar 5)), (6, .ref (ar 6)), (7, .ref (ar 7)), (8, .ref (ar 3)), (9, .ref (ar 8)), (10, .ref (ar 4)), (11, .long dr), (14, .int (nI tn)), (17, .int (nI y))]) hx hb dL_law_390 hl (by decide) rfl (fun ls hl => ?_)
    refine lv_aload hx hb dL_law_392 (lv_at hl 11 rfl) ?_
    refine lv_iconst (v := 5) hx hb dL_law_394 (by decide) ?_
    refine lv_iload hx hb dL_law_395 (lv_at hl 14 rfl) ?_
    refine lv_iconst (v := 4) hx hb dL_law_397 (by decide) ?_
    refine lv_irem hx hb dL_law_398 (by decide) ?_
    refine lv_topi (fun w_19 ew_19 => ?_)
    obtain rfl : w_19 = nI (y % 4) := ew_19.trans (nI_md (a := y) (b := 4) (by omega) (by omega))
    refine lv_iadd hx hb dL_law_399 ?_
    refine lv_topi (fun w_20 ew_20 => ?_)
    obtain rfl : w_20 = nI (5 + (y % 4)) := ew_20.trans (nI_add 5 (y % 4))
    refine lv_iload hx hb dL_law_400 (lv_at hl 14 rfl) ?_
    refine lv_iconst (v := 4) hx hb dL_law_402 (by decide) ?_
    refine lv_idiv hx hb dL_law_403 (by decide) ?_
    refine lv_topi (fun w_21 ew_21 => ?_)
    obtain rfl : w_21 = nI (y / 4) := ew_21.trans (nI_dv (a := y) (b := 4) (by omega) (by omega))
    refine lv_iconst (v := 3) hx hb dL_law_404 (by decide) ?_
    refine lv_irem hx hb dL_law_405 (by decide) ?_
    refine lv_topi (fun w_22 ew_22 => ?_)
    obtain rfl : w_22 = nI ((y / 4) % 3) := ew_22.trans (nI_md (a := y / 4) (b := 3) (by omega) (by omega))
    refine qz_ist hx hb hG.1 hap qz_eA lz_eK hP hPK hS 4 0 rfl rfl (inb_in (inb_n (show 5 + (y % 4) < 12 by omega) (by decide))) dL_law_406 (fun H locs hP hPK hS => ?_)
    rw [show (nI (5 + (y % 4))).toNatClampNeg = 5 + (y % 4) from ncl (by omega)] at hP
    have hP : va_P D vwCl (qz_A Y ar v h ev nn (upd qq (5 + (y % 4)) (nI ((y / 4) % 3))) li bb t uu) H := hP
    have hD : va_D (fun q => s.heap.size ≤ q) (qz_A Y ar v h ev nn (upd qq (5 + (y % 4)) (nI ((y / 4) % 3))) li bb t uu) := qz_apD hap qz_eA
    refine lv_goto (tgt := 1522) hx hb dL_law_407 (by decide) ?_
    exact W.widen (by omega) (by omega) (go _ _ _ _ _ _ _ _ _ _ _ _ _ _ _ _ _ _ _ _ H locs ls hT I' hP hPK hS (lv_sub hl [1, 2, 3, 4, 5, 6, 7, 8, 9, 10, 11, 12, 0, 13] rfl))

set_option maxHeartbeats 4000000 in
set_option maxRecDepth 100000 in
theorem qz_B2 (X : qz_X p l s m meth c b L xs D Y o0 ast ald ahi act acd ar) (hc : cells + 4000 ≤ 600130) (hsl : slots + 24000 ≤ 7301080) (I : IV n bt d U st ld hi ct cd u v h ev nn qq li bb t uu dr) (hP : va_P D vwCl (qz_A Y ar v h ev nn qq li bb t uu) H) (hPK : va_P D vwCl (lz_K Y o0 ast ald ahi act acd st ld hi ct cd) H) (hS : va_S (fun q => s.heap.size ≤ q) s.heap H locs) (go : qz_go p l e s m below meth c b D Y o0 ast ald ahi act acd ar Q 1522 tn (fun n => tn + 1 ≤ 6 → n = 0) (cells + 10) (slots + 60)) (hy : y < 2147483648) (hT : tn + 1 ≤ 6 → n = 0) (hn0 : n = 0) (hl : lv_has ls 23 [(0, .ref b), (1, .ref o0), (2, .ref (ar 0)), (3, .ref (ar 1)), (4, .ref (ar 2)), (5, .ref (ar 5)), (6, .ref (ar 6)), (7, .ref (ar 7)), (8, .ref (ar 3)), (9, .ref (ar 8)), (10, .ref (ar 4)), (11, .long dr), (13, .int 1), (14, .int (nI tn)), (17, .int (nI y))]) : W p l e room_1 s m #[Value.ref b] below meth c H locs (cells) (slots) Q (F0 m 416 ls []) := by
  obtain ⟨C0, hl0, hG, hB, hNC, hap⟩ := id X
  obtain ⟨hx, hb, hr, hml, hown, htb, hX, hbl, hlocks, hgv⟩ := id C0
  have hown : s.vm.findClass RL = some m.cls := hown
  have hts : ∀ w ∈ wsL_law, w.before #[Value.ref b] s = true := fun w h => htb w (wsL_law_in w h)
  have hD : va_D (fun q => s.heap.size ≤ q) (qz_A Y ar v h ev nn qq li bb t uu) := qz_apD hap qz_eA
  have hN := I.2.2.2.2.2.2.1
  have hn40 := I.2.2.2.2.2.2.2.1
  have hb10 := I.1.1.2.1
  obtain ⟨z, u', hE, I'⟩ := tv_order (f := y % 3) (s := (((y % 3) + 1 + (y / 3) % 2) % 3)) (w := 3 - y % 3 - (((y % 3) + 1 + (y / 3) % 2) % 3)) I hn0 (by omega) (by omega) (by omega) (by omega) (by omega) (by omega)
  refine lv_iload hx hb dL_law_416 (lv_at hl 14 rfl) ?_
  refine lv_iconst (v := 3) hx hb dL_law_418 (by decide) ?_
  refine lv_irem hx hb dL_law_419 (by decide) ?_
  refine lv_topi (fun w_23 ew_23 => ?_)
  obtain rfl : w_23 = nI (y % 3) := ew_23.trans (nI_md (a := y) (b := 3) (by omega) (by omega))
  refine lv_istore (lv' := [(19, .int (nI (y % 3))), (0, .ref b), (1, .ref o0), (2, .ref (ar 0)), (3, .ref (ar 1)), (4, .ref (ar 2)), (5, .ref (ar 5)), (6, .ref (ar 6)), (7, .ref (ar 7)), (8, .ref (ar 3)), (9, .ref (ar 8)), (10, .ref (ar 4)), (11, .long dr), (13, .int 1), (14, .int (nI tn)), (17, .int (nI y))]) hx hb dL_law_420 hl (by decide) rfl (fun ls hl => ?_)
  refine lv_iload hx hb dL_law_422 (lv_at hl 0 rfl) ?_
  refine lv_iconst (v := 1) hx hb dL_law_424 (by decide) ?_
  refine lv_iadd hx hb dL_law_425 ?_
  refine lv_topi (fun w_24 ew_24 => ?_)
  obtain rfl : w_24 = nI ((y % 3) + 1) := ew_24.trans (nI_add (y % 3) 1)
  refine lv_iload hx hb dL_law_426 (lv_at hl 15 rfl) ?_
  refine lv_iconst (v := 3) hx hb dL_law_428 (by decide) ?_
  refine lv_idiv hx hb dL_law_429 (by decide) ?_
  refine lv_topi (fun w_25 ew_25 => ?_)
  obtain rfl : w_25 = nI (y / 3) := ew_25.trans (nI_dv (a := y) (b := 3) (by omega) (by omega))
  refine lv_iconst (v := 2) hx hb dL_law_430 (by decide) ?_
  refine lv_irem hx hb dL_law_431 (by decide) ?_
  refine lv_topi (fun w_26 ew_26 => ?_)
  obtain rfl : w_26 = nI ((y / 3) % 2) := ew_26.trans (nI_md (a := y / 3) (b := 2) (by omega) (by omega))
  refine lv_iadd hx hb dL_law_432 ?_
  refine lv_topi (fun w_27 ew_27 => ?_)
  obtain rfl : w_27 = nI (((y % 3) + 1) + ((y / 3) % 2)) := ew_27.trans (nI_add ((y % 3) + 1) ((y / 3) % 2))
  refine lv_iconst (v := 3) hx hb dL_law_433 (by decide) ?_
  refine lv_irem hx hb dL_law_434 (by decide) ?_
  refine lv_topi (fun w_28 ew_28 => ?_)
  obtain rfl : w_28 = nI ((((y % 3) + 1) + ((y / 3) % 2)) % 3) := ew_28.trans (nI_md (a := ((y % 3) + 1) + ((y / 3) % 2)) (b := 3) (by omega) (by omega))
  refine lv_istore (lv' := [(20, .int (nI ((((y % 3) + 1) + ((y / 3) % 2)) % 3))), (19, .int (nI (y % 3))), (0, .ref b), (1, .ref o0), (2, .ref (ar 0)), (3, .ref (ar 1)), (4, .ref (ar 2)), (5, .ref (ar 5)), (6, .ref (ar 6)), (7, .ref (ar 7)), (8, .ref (ar 3)), (9, .ref (ar 8)), (10, .ref (ar 4)), (11, .long dr), (13, .int 1), (14, .int (nI tn)), (17, .int (nI y))]) hx hb dL_law_435 hl (by decide) rfl (fun ls hl => ?_)
  refine lv_aload_n hx hb dL_law_437 rfl (lv_at hl 3 rfl) ?_
  refine lv_iload hx hb dL_law_438 (lv_at hl 1 rfl) ?_
  refine lv_iload hx hb dL_law_440 (lv_at hl 0 rfl) ?_
  refine lv_iconst (v := 3) hx hb dL_law_442 (by decide) ?_
  refine lv_iload hx hb dL_law_443 (lv_at hl 1 rfl) ?_
  refine lv_isub hx hb dL_law_445 ?_
  refine lv_topi (fun w_29 ew_29 => ?_)
  obtain rfl : w_29 = nI (3 - (y % 3)) := ew_29.trans (nI_sb (a := 3) (b := y % 3) (by omega))
  refine lv_iload hx hb dL_law_446 (lv_at hl 0 rfl) ?_
  refine lv_isub hx hb dL_law_448 ?_
  refine lv_topi (fun w_30 ew_30 => ?_)
  obtain rfl : w_30 = nI ((3 - (y % 3)) - ((((y % 3) + 1) + ((y / 3) % 2)) % 3)) := ew_30.trans (nI_sb (a := 3 - (y % 3)) (b := (((y % 3) + 1) + ((y / 3) % 2)) % 3) (by omega))
  obtain ⟨fs, hfs⟩ := lz_hK (Y := Y) (o0 := o0) (ast := ast) (ald := ald) (ahi := ahi) (act := act) (acd := acd) (st := st) (ld := ld) (hi := hi) (ct := ct) (cd := cd)
  refine qz_callV (l := l) (pc := 449) (n := 3) (W0 := lz_K Y o0 ast ald ahi act acd st ld hi ct cd) (Wr := qz_A Y ar v h ev nn qq li bb t uu) (As := [.int (nI (y % 3)), .int (nI ((((y % 3) + 1) + ((y / 3) % 2)) % 3)), .int (nI ((3 - (y % 3)) - ((((y % 3) + 1) + ((y / 3) % 2)) % 3)))]) (rest := []) z hE C0 hG hB hap.app.2.1 lz_eK qz_eA hap.swap (ct_X6_setOrder l D Y o0 ast st ald ld ahi hi act ct acd cd (nI (y % 3)) (nI ((((y % 3) + 1) + ((y / 3) % 2)) % 3)) (nI ((3 - (y % 3)) - ((((y % 3) + 1) + ((y / 3) % 2)) % 3))) hl0) gL_law_X6_setOrder rfl rfl rfl (by decide +kernel) ⟨Nat.le_of_ble_eq_true rfl, Nat.le_of_ble_eq_true rfl⟩ (ci := 6) (qc := (RX6, TX6, 5)) rfl hfs rfl rfl hl.1 rfl (Nat.le_of_ble_eq_true rfl) dL_law_449 ⟨qz_f1 (k := 4) (show cells + 2000 ≤ 600130 by omega) (by decide), qz_f2 (k := 24) (show slots + 12000 ≤ 7301080 by omega) (by decide)⟩ hPK hP hS (fun H locs hPK hP hS => ?_)
  have hPK : va_P D vwCl (lz_K Y o0 ast ald ahi act acd z ld hi ct cd) H := hPK
  have hP : va_P D vwCl (qz_A Y ar v h ev nn qq li bb t uu) H := hP
  have hD : va_D (fun q => s.heap.size ≤ q) (qz_A Y ar v h ev nn qq li bb t uu) := qz_apD hap qz_eA
  change W _ _ _ _ _ _ _ _ _ _ _ _ _ _ _ (F0 m 452 _ [])
  refine lv_aload hx hb dL_law_452 (lv_at hl 12 rfl) ?_
  refine lv_bipush (v := 9) hx hb dL_law_454 (by decide) ?_
  refine lv_iload hx hb dL_law_456 (lv_at hl 1 rfl) ?_
  refine qz_ist hx hb hG.1 hap qz_eA lz_eK hP hPK hS 4 0 rfl rfl (inb_in (by decide)) dL_law_458 (fun H locs hP hPK hS => ?_)
  rw [show ((9 : Int32).toNatClampNeg) = 9 by decide] at hP
  have hP : va_P D vwCl (qz_A Y ar v h ev nn (upd qq 9 (nI (y % 3))) li bb t uu) H := hP
  have hD : va_D (fun q => s.heap.size ≤ q) (qz_A Y ar v h ev nn (upd qq 9 (nI (y % 3))) li bb t uu) := qz_apD hap qz_eA
  refine lv_aload hx hb dL_law_459 (lv_at hl 12 rfl) ?_
  refine lv_bipush (v := 10) hx hb dL_law_461 (by decide) ?_
  refine lv_iload hx hb dL_law_463 (lv_at hl 0 rfl) ?_
  refine qz_ist hx hb hG.1 hap qz_eA lz_eK hP hPK hS 4 0 rfl rfl (inb_in (by decide)) dL_law_465 (fun H locs hP hPK hS => ?_)
  rw [show ((10 : Int32).toNatClampNeg) = 10 by decide] at hP
  have hP : va_P D vwCl (qz_A Y ar v h ev nn (upd (upd qq 9 (nI (y % 3))) 10 (nI ((((y % 3) + 1) + ((y / 3) % 2)) % 3))) li bb t uu) H := hP
  have hD : va_D (fun q => s.heap.size ≤ q) (qz_A Y ar v h ev nn (upd (upd qq 9 (nI (y % 3))) 10 (nI ((((y % 3) + 1) + ((y / 3) % 2)) % 3))) li bb t uu) := qz_apD hap qz_eA
  refine lv_aload hx hb dL_law_466 (lv_at hl 12 rfl) ?_
  refine lv_bipush (v := 11) hx hb dL_law_468 (by decide) ?_
  refine lv_iconst (v := 3) hx hb dL_law_470 (by decide) ?_
  refine lv_iload hx hb dL_law_471 (lv_at hl 1 rfl) ?_
  refine lv_isub hx hb dL_law_473 ?_
  refine lv_topi (fun w_31 ew_31 => ?_)
  obtain rfl : w_31 = nI (3 - (y % 3)) := ew_31.trans (nI_sb (a := 3) (b := y % 3) (by omega))
  refine lv_iload hx hb dL_law_474 (lv_at hl 0 rfl) ?_
  refine lv_isub hx hb dL_law_476 ?_
  refine lv_topi (fun w_32 ew_32 => ?_)
  obtain rfl : w_32 = nI ((3 - (y % 3)) - ((((y % 3) + 1) + ((y / 3) % 2)) % 3)) := ew_32.trans (nI_sb (a := 3 - (y % 3)) (b := (((y % 3) + 1) + ((y / 3) % 2)) % 3) (by omega))
  refine qz_ist hx hb hG.1 hap qz_eA lz_eK hP hPK hS 4 0 rfl rfl (inb_in (by decide)) dL_law_477 (fun H locs hP hPK hS => ?_)
  rw [show ((11 : Int32).toNatClampNeg) = 11 by decide] at hP
  have hP : va_P D vwCl (qz_A Y ar v h ev nn (upd (upd (upd qq 9 (nI (y % 3))) 10 (nI ((((y % 3) + 1) + ((y / 3) % 2)) % 3))) 11 (nI ((3 - (y % 3)) - ((((y % 3) + 1) + ((y / 3) % 2)) % 3)))) li bb t uu) H := hP
  have hD : va_D (fun q => s.heap.size ≤ q) (qz_A Y ar v h ev nn (upd (upd (upd qq 9 (nI (y % 3))) 10 (nI ((((y % 3) + 1) + ((y / 3) % 2)) % 3))) 11 (nI ((3 - (y % 3)) - ((((y % 3) + 1) + ((y / 3) % 2)) % 3)))) li bb t uu) := qz_apD hap qz_eA
  refine lv_goto (tgt := 1522) hx hb dL_law_478 (by decide) ?_
  exact W.widen (by omega) (by omega) (go _ _ _ _ _ _ _ _ _ _ _ _ _ _ _ _ _ _ _ _ H locs ls hT I' hP hPK hS (lv_sub hl [2, 3, 4, 5, 6, 7, 8, 9, 10, 11, 12, 13, 14, 15] rfl))

set_option maxHeartbeats 4000000 in
set_option maxRecDepth 100000 in
theorem qz_B3 (X : qz_X p l s m meth c b L xs D Y o0 ast ald ahi act acd ar) (hc : cells + 4000 ≤ 600130) (hsl : slots + 24000 ≤ 7301080) (I : IV n bt d U st ld hi ct cd u v h ev nn qq li bb t uu dr) (hP : va_P D vwCl (qz_A Y ar v h ev nn qq li bb t uu) H) (hPK : va_P D vwCl (lz_K Y o0 ast ald ahi act acd st ld hi ct cd) H) (hS : va_S (fun q => s.heap.size ≤ q) s.heap H locs) (go : qz_go p l e s m below meth c b D Y o0 ast ald ahi act acd ar Q 1522 tn (fun n => tn + 1 ≤ 6 → n = 0) (cells + 10) (slots + 60)) (hy : y < 2147483648) (hT : tn + 1 ≤ 6 → n = 0) (hl : lv_has ls 23 [(0, .ref b), (1, .ref o0), (2, .ref (ar 0)), (3, .ref (ar 1)), (4, .ref (ar 2)), (5, .ref (ar 5)), (6, .ref (ar 6)), (7, .ref (ar 7)), (8, .ref (ar 3)), (9, .ref (ar 8)), (10, .ref (ar 4)), (11, .long dr), (13, .int 1), (14, .int (nI tn)), (17, .int (nI y))]) : W p l e room_1 s m #[Value.ref b] below meth c H locs (cells) (slots) Q (F0 m 487 ls []) := by
  obtain ⟨C0, hl0, hG, hB, hNC, hap⟩ := id X
  obtain ⟨hx, hb, hr, hml, hown, htb, hX, hbl, hlocks, hgv⟩ := id C0
  have hown : s.vm.findClass RL = some m.cls := hown
  have hts : ∀ w ∈ wsL_law, w.before #[Value.ref b] s = true := fun w h => htb w (wsL_law_in w h)
  have hD : va_D (fun q => s.heap.size ≤ q) (qz_A Y ar v h ev nn qq li bb t uu) := qz_apD hap qz_eA
  have hN := I.2.2.2.2.2.2.1
  have hn40 := I.2.2.2.2.2.2.2.1
  have hb10 := I.1.1.2.1
  by_cases hn0 : n = 0
  · obtain ⟨z, u', hE, hz, I'⟩ := tv_rank (a := y % 5) (w := y / 5 % 10) I hn0 (by omega) (by omega)
    refine lv_aload_n hx hb dL_law_487 rfl (lv_at hl 1 rfl) ?_
    refine lv_bipush (v := 7) hx hb dL_law_488 (by decide) ?_
    refine lv_iload hx hb dL_law_490 (lv_at hl 14 rfl) ?_
    refine lv_iconst (v := 5) hx hb dL_law_492 (by decide) ?_
    refine lv_irem hx hb dL_law_493 (by decide) ?_
    refine lv_topi (fun w_33 ew_33 => ?_)
    obtain rfl : w_33 = nI (y % 5) := ew_33.trans (nI_md (a := y) (b := 5) (by omega) (by omega))
    refine lv_iload hx hb dL_law_494 (lv_at hl 14 rfl) ?_
    refine lv_iconst (v := 5) hx hb dL_law_496 (by decide) ?_
    refine lv_idiv hx hb dL_law_497 (by decide) ?_
    refine lv_topi (fun w_34 ew_34 => ?_)
    obtain rfl : w_34 = nI (y / 5) := ew_34.trans (nI_dv (a := y) (b := 5) (by omega) (by omega))
    refine lv_bipush (v := 10) hx hb dL_law_498 (by decide) ?_
    refine lv_irem hx hb dL_law_500 (by decide) ?_
    refine lv_topi (fun w_35 ew_35 => ?_)
    obtain rfl : w_35 = nI ((y / 5) % 10) := ew_35.trans (nI_md (a := y / 5) (b := 10) (by omega) (by omega))
    refine lz_callL (l := l) (pc := 501) (n := 4) (W0 := lz_K Y o0 ast ald ahi act acd st ld hi ct cd) (Wr := qz_A Y ar v h ev nn qq li bb t uu) (As := [.ref o0, .int 7, .int (nI (y % 5)), .int (nI ((y / 5) % 10))]) (rest := []) C0 hG hB hNC hap.app.2.1 lz_eK qz_eA hap.swap (ct_does_setRank_ok l D Y o0 ast st ald ld ahi hi act ct acd cd (nI (y % 5)) (nI ((y / 5) % 10)) z hE hl0) gL_law_L_does rfl rfl rfl (by decide +kernel) ⟨Nat.le_of_ble_eq_true rfl, Nat.le_of_ble_eq_true rfl⟩ rfl hl.1 rfl (Nat.le_of_ble_eq_true rfl) dL_law_501 ⟨qz_f1 (k := 3) (show cells + 2000 ≤ 600130 by omega) (by decide), qz_f2 (k := 18) (show slots + 12000 ≤ 7301080 by omega) (by decide)⟩ hPK hP hS (fun H locs hPK hP hS => ?_)
    have hPK : va_P D vwCl (lz_K Y o0 ast ald ahi act acd z.1 ld hi ct cd) H := hPK
    have hP : va_P D vwCl (qz_A Y ar v h ev nn qq li bb t uu) H := hP
    have hD : va_D (fun q => s.heap.size ≤ q) (qz_A Y ar v h ev nn qq li bb t uu) := qz_apD hap qz_eA
    change W _ _ _ _ _ _ _ _ _ _ _ _ _ _ _ (F0 m 504 _ (.int z.2 :: []))
    refine lv_topi (fun w_36 ew_36 => ?_)
    obtain rfl : w_36 = qq (y % 5) := ew_36.trans hz
    refine lv_aload hx hb dL_law_504 (lv_at hl 8 rfl) ?_
    refine lv_iconst (v := 1) hx hb dL_law_506 (by decide) ?_
    refine va_iald hx hb hG.1 hP 3 0 rfl rfl (inb_in (by decide)) dL_law_507 ?_
    refine lv_topi (fun w_37 ew_37 => ?_)
    obtain rfl : w_37 = nn 1 := ew_37.trans (congrArg nn (show ((1 : Int32).toNatClampNeg) = 1 by decide))
    refine lv_topi (fun w_38 ew_38 => ?_)
    obtain rfl : w_38 = nI n := ew_38.trans hN.2.1
    refine lv_if_le (tgt := 516) hx hb dL_law_508 (by decide) (fun c_39 => ?_) (fun c_39 => ?_)
    · refine lv_aload hx hb dL_law_516 (lv_at hl 10 rfl) ?_
      refine lv_iload hx hb dL_law_518 (lv_at hl 14 rfl) ?_
      refine lv_iconst (v := 5) hx hb dL_law_520 (by decide) ?_
      refine lv_irem hx hb dL_law_521 (by decide) ?_
      refine lv_topi (fun w_40 ew_40 => ?_)
      obtain rfl : w_40 = nI (y % 5) := ew_40.trans (nI_md (a := y) (b := 5) (by omega) (by omega))
      refine va_iald hx hb hG.1 hP 4 0 rfl rfl (inb_in (inb_n (show y % 5 < 12 by omega) (by decide))) dL_law_522 ?_
      refine lv_topi (fun w_41 ew_41 => ?_)
      obtain rfl : w_41 = qq (y % 5) := ew_41.trans (congrArg qq (ncl (show y % 5 < 2147483648 by omega)))
      refine lv_icmp_ne (tgt := 530) hx hb dL_law_523 (by decide) (fun c_42 => ?_) (fun c_42 => ?_)
      · exact absurd (Eq.refl (qq (y % 5))) c_42
      · refine lv_iconst (v := 1) hx hb dL_law_526 (by decide) ?_
        refine lv_goto (tgt := 531) hx hb dL_law_527 (by decide) ?_
        refine lv_istore (lv' := [(13, .int 1), (0, .ref b), (1, .ref o0), (2, .ref (ar 0)), (3, .ref (ar 1)), (4, .ref (ar 2)), (5, .ref (ar 5)), (6, .ref (ar 6)), (7, .ref (ar 7)), (8, .ref (ar 3)), (9, .ref (ar 8)), (10, .ref (ar 4)), (11, .long dr), (14, .int (nI tn)), (17, .int (nI y))]) hx hb dL_law_531 hl (by decide) rfl (fun ls hl => ?_)
        refine lv_aload hx hb dL_law_533 (lv_at hl 11 rfl) ?_
        refine lv_iload hx hb dL_law_535 (lv_at hl 14 rfl) ?_
        refine lv_iconst (v := 5) hx hb dL_law_537 (by decide) ?_
        refine lv_irem hx hb dL_law_538 (by decide) ?_
        refine lv_topi (fun w_43 ew_43 => ?_)
        obtain rfl : w_43 = nI (y % 5) := ew_43.trans (nI_md (a := y) (b := 5) (by omega) (by omega))
        refine lv_aload hx hb dL_law_539 (lv_at hl 9 rfl) ?_
        refine lv_iconst (v := 1) hx hb dL_law_541 (by decide) ?_
        refine va_iald hx hb hG.1 hP 3 0 rfl rfl (inb_in (by decide)) dL_law_542 ?_
        refine lv_topi (fun w_44 ew_44 => ?_)
        obtain rfl : w_44 = nn 1 := ew_44.trans (congrArg nn (show ((1 : Int32).toNatClampNeg) = 1 by decide))
        refine lv_topi (fun w_45 ew_45 => ?_)
        obtain rfl : w_45 = nI n := ew_45.trans hN.2.1
        refine lv_if_le (tgt := 556) hx hb dL_law_543 (by decide) (fun c_46 => ?_) (fun c_46 => ?_)
        · refine lv_iload hx hb dL_law_556 (lv_at hl 14 rfl) ?_
          refine lv_iconst (v := 5) hx hb dL_law_558 (by decide) ?_
          refine lv_idiv hx hb dL_law_559 (by decide) ?_
          refine lv_topi (fun w_47 ew_47 => ?_)
          obtain rfl : w_47 = nI (y / 5) := ew_47.trans (nI_dv (a := y) (b := 5) (by omega) (by omega))
          refine lv_bipush (v := 10) hx hb dL_law_560 (by decide) ?_
          refine lv_irem hx hb dL_law_562 (by decide) ?_
          refine lv_topi (fun w_48 ew_48 => ?_)
          obtain rfl : w_48 = nI ((y / 5) % 10) := ew_48.trans (nI_md (a := y / 5) (b := 10) (by omega) (by omega))
          refine qz_ist hx hb hG.1 hap qz_eA lz_eK hP hPK hS 4 0 rfl rfl (inb_in (inb_n (show y % 5 < 12 by omega) (by decide))) dL_law_563 (fun H locs hP hPK hS => ?_)
          rw [show (nI (y % 5)).toNatClampNeg = y % 5 from ncl (by omega)] at hP
          have hP : va_P D vwCl (qz_A Y ar v h ev nn (upd qq (y % 5) (nI ((y / 5) % 10))) li bb t uu) H := hP
          have hD : va_D (fun q => s.heap.size ≤ q) (qz_A Y ar v h ev nn (upd qq (y % 5) (nI ((y / 5) % 10))) li bb t uu) := qz_apD hap qz_eA
          refine lv_goto (tgt := 1522) hx hb dL_law_564 (by decide) ?_
          exact W.widen (by omega) (by omega) (go _ _ _ _ _ _ _ _ _ _ _ _ _ _ _ _ _ _ _ _ H locs ls hT I' hP hPK hS (lv_sub hl [1, 2, 3, 4, 5, 6, 7, 8, 9, 10, 11, 12, 0, 13] rfl))
        · exact absurd ((nle0 (by omega)).mpr hn0) c_46
    · exact absurd ((nle0 (by omega)).mpr hn0) c_39
  · refine lv_aload_n hx hb dL_law_487 rfl (lv_at hl 1 rfl) ?_
    refine lv_bipush (v := 7) hx hb dL_law_488 (by decide) ?_
    refine lv_iload hx hb dL_law_490 (lv_at hl 14 rfl) ?_
    refine lv_iconst (v := 5) hx hb dL_law_492 (by decide) ?_
    refine lv_irem hx hb dL_law_493 (by decide) ?_
    refine lv_topi (fun w_49 ew_49 => ?_)
    obtain rfl : w_49 = nI (y % 5) := ew_49.trans (nI_md (a := y) (b := 5) (by omega) (by omega))
    refine lv_iload hx hb dL_law_494 (lv_at hl 14 rfl) ?_
    refine lv_iconst (v := 5) hx hb dL_law_496 (by decide) ?_
    refine lv_idiv hx hb dL_law_497 (by decide) ?_
    refine lv_topi (fun w_50 ew_50 => ?_)
    obtain rfl : w_50 = nI (y / 5) := ew_50.trans (nI_dv (a := y) (b := 5) (by omega) (by omega))
    refine lv_bipush (v := 10) hx hb dL_law_498 (by decide) ?_
    refine lv_irem hx hb dL_law_500 (by decide) ?_
    refine lv_topi (fun w_51 ew_51 => ?_)
    obtain rfl : w_51 = nI ((y / 5) % 10) := ew_51.trans (nI_md (a := y / 5) (b := 10) (by omega) (by omega))
    refine lz_callL (l := l) (pc := 501) (n := 4) (W0 := lz_K Y o0 ast ald ahi act acd st ld hi ct cd) (Wr := qz_A Y ar v h ev nn qq li bb t uu) (As := [.ref o0, .int 7, .int (nI (y % 5)), .int (nI ((y / 5) % 10))]) (rest := []) C0 hG hB hNC hap.app.2.1 lz_eK qz_eA hap.swap (ct_does_setRank_ex92 l D Y o0 ast st ald ld ahi hi act ct acd cd (nI (y % 5)) (nI ((y / 5) % 10)) (tv_rank1 (a := y % 5) (w := y / 5 % 10) I hn0 (by omega) (by omega)) hl0) gL_law_L_does rfl rfl rfl (by decide +kernel) ⟨Nat.le_of_ble_eq_true rfl, Nat.le_of_ble_eq_true rfl⟩ rfl hl.1 rfl (Nat.le_of_ble_eq_true rfl) dL_law_501 ⟨qz_f1 (k := 3) (show cells + 2000 ≤ 600130 by omega) (by decide), qz_f2 (k := 18) (show slots + 12000 ≤ 7301080 by omega) (by decide)⟩ hPK hP hS (fun H locs hPK hP hS => ?_)
    have hPK : va_P D vwCl (lz_K Y o0 ast ald ahi act acd st ld hi ct cd) H := hPK
    have hP : va_P D vwCl (qz_A Y ar v h ev nn qq li bb t uu) H := hP
    have hD : va_D (fun q => s.heap.size ≤ q) (qz_A Y ar v h ev nn qq li bb t uu) := qz_apD hap qz_eA
    change W _ _ _ _ _ _ _ _ _ _ _ _ _ _ _ (F0 m 504 _ (.int (-13) :: []))
    refine lv_aload hx hb dL_law_504 (lv_at hl 8 rfl) ?_
    refine lv_iconst (v := 1) hx hb dL_law_506 (by decide) ?_
    refine va_iald hx hb hG.1 hP 3 0 rfl rfl (inb_in (by decide)) dL_law_507 ?_
    refine lv_topi (fun w_52 ew_52 => ?_)
    obtain rfl : w_52 = nn 1 := ew_52.trans (congrArg nn (show ((1 : Int32).toNatClampNeg) = 1 by decide))
    refine lv_topi (fun w_53 ew_53 => ?_)
    obtain rfl : w_53 = nI n := ew_53.trans hN.2.1
    refine lv_if_le (tgt := 516) hx hb dL_law_508 (by decide) (fun c_54 => ?_) (fun c_54 => ?_)
    · exact absurd c_54 (fun h9 => hn0 ((nle0 (by omega)).mp h9))
    · refine lv_bipush (v := (-13)) hx hb dL_law_511 (by decide) ?_
      refine lv_goto (tgt := 523) hx hb dL_law_513 (by decide) ?_
      refine lv_icmp_ne (tgt := 530) hx hb dL_law_523 (by decide) (fun c_55 => ?_) (fun c_55 => ?_)
      · exact absurd c_55 (by decide)
      · refine lv_iconst (v := 1) hx hb dL_law_526 (by decide) ?_
        refine lv_goto (tgt := 531) hx hb dL_law_527 (by decide) ?_
        refine lv_istore (lv' := [(13, .int 1), (0, .ref b), (1, .ref o0), (2, .ref (ar 0)), (3, .ref (ar 1)), (4, .ref (ar 2)), (5, .ref (ar 5)), (6, .ref (ar 6)), (7, .ref (ar 7)), (8, .ref (ar 3)), (9, .ref (ar 8)), (10, .ref (ar 4)), (11, .long dr), (14, .int (nI tn)), (17, .int (nI y))]) hx hb dL_law_531 hl (by decide) rfl (fun ls hl => ?_)
        refine lv_aload hx hb dL_law_533 (lv_at hl 11 rfl) ?_
        refine lv_iload hx hb dL_law_535 (lv_at hl 14 rfl) ?_
        refine lv_iconst (v := 5) hx hb dL_law_537 (by decide) ?_
        refine lv_irem hx hb dL_law_538 (by decide) ?_
        refine lv_topi (fun w_56 ew_56 => ?_)
        obtain rfl : w_56 = nI (y % 5) := ew_56.trans (nI_md (a := y) (b := 5) (by omega) (by omega))
        refine lv_aload hx hb dL_law_539 (lv_at hl 9 rfl) ?_
        refine lv_iconst (v := 1) hx hb dL_law_541 (by decide) ?_
        refine va_iald hx hb hG.1 hP 3 0 rfl rfl (inb_in (by decide)) dL_law_542 ?_
        refine lv_topi (fun w_57 ew_57 => ?_)
        obtain rfl : w_57 = nn 1 := ew_57.trans (congrArg nn (show ((1 : Int32).toNatClampNeg) = 1 by decide))
        refine lv_topi (fun w_58 ew_58 => ?_)
        obtain rfl : w_58 = nI n := ew_58.trans hN.2.1
        refine lv_if_le (tgt := 556) hx hb dL_law_543 (by decide) (fun c_59 => ?_) (fun c_59 => ?_)
        · exact absurd c_59 (fun h9 => hn0 ((nle0 (by omega)).mp h9))
        · refine lv_aload hx hb dL_law_546 (lv_at hl 11 rfl) ?_
          refine lv_iload hx hb dL_law_548 (lv_at hl 14 rfl) ?_
          refine lv_iconst (v := 5) hx hb dL_law_550 (by decide) ?_
          refine lv_irem hx hb dL_law_551 (by decide) ?_
          refine lv_topi (fun w_60 ew_60 => ?_)
          obtain rfl : w_60 = nI (y % 5) := ew_60.trans (nI_md (a := y) (b := 5) (by omega) (by omega))
          refine va_iald hx hb hG.1 hP 4 0 rfl rfl (inb_in (inb_n (show y % 5 < 12 by omega) (by decide))) dL_law_552 ?_
          refine lv_topi (fun w_61 ew_61 => ?_)
          obtain rfl : w_61 = qq (y % 5) := ew_61.trans (congrArg qq (ncl (show y % 5 < 2147483648 by omega)))
          refine lv_goto (tgt := 563) hx hb dL_law_553 (by decide) ?_
          refine qz_ist hx hb hG.1 hap qz_eA lz_eK hP hPK hS 4 0 rfl rfl (inb_in (inb_n (show y % 5 < 12 by omega) (by decide))) dL_law_563 (fun H locs hP hPK hS => ?_)
          rw [show (nI (y % 5)).toNatClampNeg = y % 5 from ncl (by omega)] at hP
          rw [upd_self] at hP
          have hP : va_P D vwCl (qz_A Y ar v h ev nn qq li bb t uu) H := hP
          have hD : va_D (fun q => s.heap.size ≤ q) (qz_A Y ar v h ev nn qq li bb t uu) := qz_apD hap qz_eA
          refine lv_goto (tgt := 1522) hx hb dL_law_564 (by decide) ?_
          exact W.widen (by omega) (by omega) (go _ _ _ _ _ _ _ _ _ _ _ _ _ _ _ _ _ _ _ _ H locs ls hT I hP hPK hS (lv_sub hl [1, 2, 3, 4, 5, 6, 7, 8, 9, 10, 11, 12, 0, 13] rfl))

set_option maxHeartbeats 4000000 in
set_option maxRecDepth 100000 in
theorem qz_B4 (X : qz_X p l s m meth c b L xs D Y o0 ast ald ahi act acd ar) (hc : cells + 4000 ≤ 600130) (hsl : slots + 24000 ≤ 7301080) (I : IV n bt d U st ld hi ct cd u v h ev nn qq li bb t uu dr) (hP : va_P D vwCl (qz_A Y ar v h ev nn qq li bb t uu) H) (hPK : va_P D vwCl (lz_K Y o0 ast ald ahi act acd st ld hi ct cd) H) (hS : va_S (fun q => s.heap.size ≤ q) s.heap H locs) (go : qz_go p l e s m below meth c b D Y o0 ast ald ahi act acd ar Q 1522 tn (fun n => tn + 1 ≤ 6 → n = 0) (cells + 10) (slots + 60)) (hT : tn + 1 ≤ 6 → n = 0) (hl : lv_has ls 23 [(0, .ref b), (1, .ref o0), (2, .ref (ar 0)), (3, .ref (ar 1)), (4, .ref (ar 2)), (5, .ref (ar 5)), (6, .ref (ar 6)), (7, .ref (ar 7)), (8, .ref (ar 3)), (9, .ref (ar 8)), (10, .ref (ar 4)), (11, .long dr), (13, .int 1), (14, .int (nI tn)), (17, .int (nI y))]) : W p l e room_1 s m #[Value.ref b] below meth c H locs (cells) (slots) Q (F0 m 573 ls []) := by
  obtain ⟨C0, hl0, hG, hB, hNC, hap⟩ := id X
  obtain ⟨hx, hb, hr, hml, hown, htb, hX, hbl, hlocks, hgv⟩ := id C0
  have hown : s.vm.findClass RL = some m.cls := hown
  have hts : ∀ w ∈ wsL_law, w.before #[Value.ref b] s = true := fun w h => htb w (wsL_law_in w h)
  have hD : va_D (fun q => s.heap.size ≤ q) (qz_A Y ar v h ev nn qq li bb t uu) := qz_apD hap qz_eA
  have hN := I.2.2.2.2.2.2.1
  have hn40 := I.2.2.2.2.2.2.2.1
  have hb10 := I.1.1.2.1
  by_cases hbt : bt = 10
  · have I' : IV n bt d U st ld hi ct cd u v h ev (upd nn 0 (nI (bt + 0))) qq li bb t uu dr := tv_nn I ⟨pk_us, (pk_un (by decide)).trans hN.2.1, (pk_un (by decide)).trans hN.2.2⟩
    refine lv_aload_n hx hb dL_law_573 rfl (lv_at hl 1 rfl) ?_
    refine lv_iconst (v := 0) hx hb dL_law_574 (by decide) ?_
    refine lv_iconst (v := 0) hx hb dL_law_575 (by decide) ?_
    refine lv_iconst (v := 0) hx hb dL_law_576 (by decide) ?_
    refine lz_callL (l := l) (pc := 577) (n := 4) (W0 := lz_K Y o0 ast ald ahi act acd st ld hi ct cd) (Wr := qz_A Y ar v h ev nn qq li bb t uu) (As := [.ref o0, .int 0, .int 0, .int 0]) (rest := []) C0 hG hB hNC hap.app.2.1 lz_eK qz_eA hap.swap (ct_does_beginBatch_ex92 l D Y o0 ast st ald ld ahi hi act ct acd cd (0 : Int32) (0 : Int32) (tv_batch1 I hbt) hl0) gL_law_L_does rfl rfl rfl (by decide +kernel) ⟨Nat.le_of_ble_eq_true rfl, Nat.le_of_ble_eq_true rfl⟩ rfl hl.1 rfl (Nat.le_of_ble_eq_true rfl) dL_law_577 ⟨qz_f1 (k := 1) (show cells + 2000 ≤ 600130 by omega) (by decide), qz_f2 (k := 6) (show slots + 12000 ≤ 7301080 by omega) (by decide)⟩ hPK hP hS (fun H locs hPK hP hS => ?_)
    have hPK : va_P D vwCl (lz_K Y o0 ast ald ahi act acd st ld hi ct cd) H := hPK
    have hP : va_P D vwCl (qz_A Y ar v h ev nn qq li bb t uu) H := hP
    have hD : va_D (fun q => s.heap.size ≤ q) (qz_A Y ar v h ev nn qq li bb t uu) := qz_apD hap qz_eA
    change W _ _ _ _ _ _ _ _ _ _ _ _ _ _ _ (F0 m 580 _ (.int (-13) :: []))
    refine lv_aload hx hb dL_law_580 (lv_at hl 8 rfl) ?_
    refine lv_iconst (v := 0) hx hb dL_law_582 (by decide) ?_
    refine va_iald hx hb hG.1 hP 3 0 rfl rfl (inb_in (by decide)) dL_law_583 ?_
    refine lv_topi (fun w_62 ew_62 => ?_)
    obtain rfl : w_62 = nn 0 := ew_62.trans (congrArg nn (show ((0 : Int32).toNatClampNeg) = 0 by decide))
    refine lv_topi (fun w_63 ew_63 => ?_)
    obtain rfl : w_63 = nI bt := ew_63.trans hN.1
    refine lv_bipush (v := 10) hx hb dL_law_584 (by decide) ?_
    refine lv_icmp_ne (tgt := 594) hx hb dL_law_586 (by decide) (fun c_64 => ?_) (fun c_64 => ?_)
    · exact absurd (show nI bt = 10 from congrArg nI hbt) c_64
    · refine lv_bipush (v := (-13)) hx hb dL_law_589 (by decide) ?_
      refine lv_goto (tgt := 598) hx hb dL_law_591 (by decide) ?_
      refine lv_icmp_ne (tgt := 605) hx hb dL_law_598 (by decide) (fun c_65 => ?_) (fun c_65 => ?_)
      · exact absurd c_65 (by decide)
      · refine lv_iconst (v := 1) hx hb dL_law_601 (by decide) ?_
        refine lv_goto (tgt := 606) hx hb dL_law_602 (by decide) ?_
        refine lv_istore (lv' := [(13, .int 1), (0, .ref b), (1, .ref o0), (2, .ref (ar 0)), (3, .ref (ar 1)), (4, .ref (ar 2)), (5, .ref (ar 5)), (6, .ref (ar 6)), (7, .ref (ar 7)), (8, .ref (ar 3)), (9, .ref (ar 8)), (10, .ref (ar 4)), (11, .long dr), (14, .int (nI tn)), (17, .int (nI y))]) hx hb dL_law_606 hl (by decide) rfl (fun ls hl => ?_)
        refine lv_aload hx hb dL_law_608 (lv_at hl 9 rfl) ?_
        refine lv_iconst (v := 0) hx hb dL_law_610 (by decide) ?_
        refine lv_dup2_11 hx hb dL_law_611 rfl rfl ?_
        refine va_iald hx hb hG.1 hP 3 0 rfl rfl (inb_in (by decide)) dL_law_612 ?_
        refine lv_topi (fun w_66 ew_66 => ?_)
        obtain rfl : w_66 = nn 0 := ew_66.trans (congrArg nn (show ((0 : Int32).toNatClampNeg) = 0 by decide))
        refine lv_topi (fun w_67 ew_67 => ?_)
        obtain rfl : w_67 = nI bt := ew_67.trans hN.1
        refine lv_aload hx hb dL_law_613 (lv_at hl 9 rfl) ?_
        refine lv_iconst (v := 0) hx hb dL_law_615 (by decide) ?_
        refine va_iald hx hb hG.1 hP 3 0 rfl rfl (inb_in (by decide)) dL_law_616 ?_
        refine lv_topi (fun w_68 ew_68 => ?_)
        obtain rfl : w_68 = nn 0 := ew_68.trans (congrArg nn (show ((0 : Int32).toNatClampNeg) = 0 by decide))
        refine lv_topi (fun w_69 ew_69 => ?_)
        obtain rfl : w_69 = nI bt := ew_69.trans hN.1
        refine lv_bipush (v := 10) hx hb dL_law_617 (by decide) ?_
        refine lv_icmp_ne (tgt := 626) hx hb dL_law_619 (by decide) (fun c_70 => ?_) (fun c_70 => ?_)
        · exact absurd (show nI bt = 10 from congrArg nI hbt) c_70
        · refine lv_iconst (v := 0) hx hb dL_law_622 (by decide) ?_
          refine lv_goto (tgt := 627) hx hb dL_law_623 (by decide) ?_
          refine lv_iadd hx hb dL_law_627 ?_
          refine lv_topi (fun w_71 ew_71 => ?_)
          obtain rfl : w_71 = nI (bt + 0) := ew_71.trans (nI_add bt 0)
          refine qz_ist hx hb hG.1 hap qz_eA lz_eK hP hPK hS 3 0 rfl rfl (inb_in (by decide)) dL_law_628 (fun H locs hP hPK hS => ?_)
          rw [show ((0 : Int32).toNatClampNeg) = 0 by decide] at hP
          have hP : va_P D vwCl (qz_A Y ar v h ev (upd nn 0 (nI (bt + 0))) qq li bb t uu) H := hP
          have hD : va_D (fun q => s.heap.size ≤ q) (qz_A Y ar v h ev (upd nn 0 (nI (bt + 0))) qq li bb t uu) := qz_apD hap qz_eA
          refine lv_goto (tgt := 1522) hx hb dL_law_629 (by decide) ?_
          exact W.widen (by omega) (by omega) (go _ _ _ _ _ _ _ _ _ _ _ _ _ _ _ _ _ _ _ _ H locs ls hT I' hP hPK hS (lv_sub hl [1, 2, 3, 4, 5, 6, 7, 8, 9, 10, 11, 12, 0, 13] rfl))
  · obtain ⟨z, u', hE, hz, hI⟩ := tv_batch I hbt
    have I' := hI (upd nn 0 (nI (bt + 1))) ⟨pk_us, (pk_un (by decide)).trans hN.2.1, (pk_un (by decide)).trans hN.2.2⟩
    refine lv_aload_n hx hb dL_law_573 rfl (lv_at hl 1 rfl) ?_
    refine lv_iconst (v := 0) hx hb dL_law_574 (by decide) ?_
    refine lv_iconst (v := 0) hx hb dL_law_575 (by decide) ?_
    refine lv_iconst (v := 0) hx hb dL_law_576 (by decide) ?_
    refine lz_callL (l := l) (pc := 577) (n := 4) (W0 := lz_K Y o0 ast ald ahi act acd st ld hi ct cd) (Wr := qz_A Y ar v h ev nn qq li bb t uu) (As := [.ref o0, .int 0, .int 0, .int 0]) (rest := []) C0 hG hB hNC hap.app.2.1 lz_eK qz_eA hap.swap (ct_does_beginBatch_ok l D Y o0 ast st ald ld ahi hi act ct acd cd (0 : Int32) (0 : Int32) z hE hl0) gL_law_L_does rfl rfl rfl (by decide +kernel) ⟨Nat.le_of_ble_eq_true rfl, Nat.le_of_ble_eq_true rfl⟩ rfl hl.1 rfl (Nat.le_of_ble_eq_true rfl) dL_law_577 ⟨qz_f1 (k := 1) (show cells + 2000 ≤ 600130 by omega) (by decide), qz_f2 (k := 6) (show slots + 12000 ≤ 7301080 by omega) (by decide)⟩ hPK hP hS (fun H locs hPK hP hS => ?_)
    have hPK : va_P D vwCl (lz_K Y o0 ast ald ahi act acd st z.1 hi ct cd) H := hPK
    have hP : va_P D vwCl (qz_A Y ar v h ev nn qq li bb t uu) H := hP
    have hD : va_D (fun q => s.heap.size ≤ q) (qz_A Y ar v h ev nn qq li bb t uu) := qz_apD hap qz_eA
    change W _ _ _ _ _ _ _ _ _ _ _ _ _ _ _ (F0 m 580 _ (.int z.2 :: []))
    refine lv_topi (fun w_72 ew_72 => ?_)
    obtain rfl : w_72 = nI bt := ew_72.trans hz
    refine lv_aload hx hb dL_law_580 (lv_at hl 8 rfl) ?_
    refine lv_iconst (v := 0) hx hb dL_law_582 (by decide) ?_
    refine va_iald hx hb hG.1 hP 3 0 rfl rfl (inb_in (by decide)) dL_law_583 ?_
    refine lv_topi (fun w_73 ew_73 => ?_)
    obtain rfl : w_73 = nn 0 := ew_73.trans (congrArg nn (show ((0 : Int32).toNatClampNeg) = 0 by decide))
    refine lv_topi (fun w_74 ew_74 => ?_)
    obtain rfl : w_74 = nI bt := ew_74.trans hN.1
    refine lv_bipush (v := 10) hx hb dL_law_584 (by decide) ?_
    refine lv_icmp_ne (tgt := 594) hx hb dL_law_586 (by decide) (fun c_75 => ?_) (fun c_75 => ?_)
    · refine lv_aload hx hb dL_law_594 (lv_at hl 8 rfl) ?_
      refine lv_iconst (v := 0) hx hb dL_law_596 (by decide) ?_
      refine va_iald hx hb hG.1 hP 3 0 rfl rfl (inb_in (by decide)) dL_law_597 ?_
      refine lv_topi (fun w_76 ew_76 => ?_)
      obtain rfl : w_76 = nn 0 := ew_76.trans (congrArg nn (show ((0 : Int32).toNatClampNeg) = 0 by decide))
      refine lv_topi (fun w_77 ew_77 => ?_)
      obtain rfl : w_77 = nI bt := ew_77.trans hN.1
      refine lv_icmp_ne (tgt := 605) hx hb dL_law_598 (by decide) (fun c_78 => ?_) (fun c_78 => ?_)
      · exact absurd (Eq.refl (nI bt)) c_78
      · refine lv_iconst (v := 1) hx hb dL_law_601 (by decide) ?_
        refine lv_goto (tgt := 606) hx hb dL_law_602 (by decide) ?_
        refine lv_istore (lv' := [(13, .int 1), (0, .ref b), (1, .ref o0), (2, .ref (ar 0)), (3, .ref (ar 1)), (4, .ref (ar 2)), (5, .ref (ar 5)), (6, .ref (ar 6)), (7, .ref (ar 7)), (8, .ref (ar 3)), (9, .ref (ar 8)), (10, .ref (ar 4)), (11, .long dr), (14, .int (nI tn)), (17, .int (nI y))]) hx hb dL_law_606 hl (by decide) rfl (fun ls hl => ?_)
        refine lv_aload hx hb dL_law_608 (lv_at hl 9 rfl) ?_
        refine lv_iconst (v := 0) hx hb dL_law_610 (by decide) ?_
        refine lv_dup2_11 hx hb dL_law_611 rfl rfl ?_
        refine va_iald hx hb hG.1 hP 3 0 rfl rfl (inb_in (by decide)) dL_law_612 ?_
        refine lv_topi (fun w_79 ew_79 => ?_)
        obtain rfl : w_79 = nn 0 := ew_79.trans (congrArg nn (show ((0 : Int32).toNatClampNeg) = 0 by decide))
        refine lv_topi (fun w_80 ew_80 => ?_)
        obtain rfl : w_80 = nI bt := ew_80.trans hN.1
        refine lv_aload hx hb dL_law_613 (lv_at hl 9 rfl) ?_
        refine lv_iconst (v := 0) hx hb dL_law_615 (by decide) ?_
        refine va_iald hx hb hG.1 hP 3 0 rfl rfl (inb_in (by decide)) dL_law_616 ?_
        refine lv_topi (fun w_81 ew_81 => ?_)
        obtain rfl : w_81 = nn 0 := ew_81.trans (congrArg nn (show ((0 : Int32).toNatClampNeg) = 0 by decide))
        refine lv_topi (fun w_82 ew_82 => ?_)
        obtain rfl : w_82 = nI bt := ew_82.trans hN.1
        refine lv_bipush (v := 10) hx hb dL_law_617 (by decide) ?_
        refine lv_icmp_ne (tgt := 626) hx hb dL_law_619 (by decide) (fun c_83 => ?_) (fun c_83 => ?_)
        · refine lv_iconst (v := 1) hx hb dL_law_626 (by decide) ?_
          refine lv_iadd hx hb dL_law_627 ?_
          refine lv_topi (fun w_84 ew_84 => ?_)
          obtain rfl : w_84 = nI (bt + 1) := ew_84.trans (nI_add bt 1)
          refine qz_ist hx hb hG.1 hap qz_eA lz_eK hP hPK hS 3 0 rfl rfl (inb_in (by decide)) dL_law_628 (fun H locs hP hPK hS => ?_)
          rw [show ((0 : Int32).toNatClampNeg) = 0 by decide] at hP
          have hP : va_P D vwCl (qz_A Y ar v h ev (upd nn 0 (nI (bt + 1))) qq li bb t uu) H := hP
          have hD : va_D (fun q => s.heap.size ≤ q) (qz_A Y ar v h ev (upd nn 0 (nI (bt + 1))) qq li bb t uu) := qz_apD hap qz_eA
          refine lv_goto (tgt := 1522) hx hb dL_law_629 (by decide) ?_
          exact W.widen (by omega) (by omega) (go _ _ _ _ _ _ _ _ _ _ _ _ _ _ _ _ _ _ _ _ H locs ls hT I' hP hPK hS (lv_sub hl [1, 2, 3, 4, 5, 6, 7, 8, 9, 10, 11, 12, 0, 13] rfl))
        · exact absurd c_83 (fun h9 => hbt ((nI_eq (b := 10) (by omega) (by decide)).mp h9))
    · exact absurd c_75 (fun h9 => hbt ((nI_eq (b := 10) (by omega) (by decide)).mp h9))
end LAW
