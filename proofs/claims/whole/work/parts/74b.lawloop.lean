/-! THE LAW'S LOOP -/
set_option maxHeartbeats 4000000 in
set_option maxRecDepth 100000 in
theorem lz_loop {p : Program} {l : Launch} {e : Env} {s : State} {m : MethodId} {below : List Frame} {meth : Method} {c : Code} {D : va_G} {Y : cq_Y} {b L : Nat} {xs : Nat → Int32} {o0 bo : Nat} {ast ald ahi act acd am : Nat → Nat} (X : lz_X p l s m meth c b L xs D Y o0 ast ald ahi act acd bo am) (hL : L ≤ 2048) : ∀ (n j : Nat), L + 4 ≤ 4 * (j + n) → 4 * j ≤ L → lz_go p l e s m below meth c b D Y o0 ast ald ahi act acd bo am 23 (nI (4 * j)) (80 + 4 * j) (7185 + 24 * j) := by
  intro n
  induction n with
  | zero =>
    intro j h1 h2
    exact absurd h1 (by omega)
  | succ n ih =>
    intro j h1 h2
    obtain ⟨C0, -⟩ := id X
    obtain ⟨hx, hb, hr, hml, hown, hts, hX, hbl, hlocks, hgv⟩ := C0
    intro n' bb d st ld hi ct cd u fo H locs ls R hPC hPM hS hl
    refine lv_iload hx hb dL_law_23 (lv_at hl 4 rfl) ?_
    refine lv_aload_n hx hb dL_law_25 rfl (lv_at hl 0 rfl) ?_
    refine va_slen hx hb hX hbl (Nat.not_le.mpr hbl) hS dL_law_26 ?_
    refine lv_iconst (v := 4) hx hb dL_law_27 (by decide) ?_
    refine lv_isub hx hb dL_law_28 ?_
    refine lv_icmp_gt (tgt := 1362) hx hb dL_law_29 (by decide) (fun hgt => ?_) (fun hgt => ?_)
    · refine lv_iconst (v := 1) hx hb dL_law_1362 (by decide) ?_
      refine va_forget (fun q hq => hS.2.2 q hq) ?_
      refine W.widen (k := 601024) (n := 7293034) (by omega) (by omega) ?_
      exact lw_ret hx hb hr hlocks dL_law_1363
    · have h4 : 4 * j + 4 ≤ L := lz_cmp (by omega) hL hgt
      have K : lz_go p l e s m below meth c b D Y o0 ast ald ahi act acd bo am 1356 (nI (4 * j)) (80 + 4 * j + 4) (7185 + 24 * j + 24) := by
        have ih' := ih (j + 1) (by omega) (by omega)
        rw [show 80 + 4 * (j + 1) = 80 + 4 * j + 4 by omega, show 7185 + 24 * (j + 1) = 7185 + 24 * j + 24 by omega] at ih'
        intro n' bb d st ld hi ct cd u fo H locs ls R hPC hPM hS hl
        have ei : nI (4 * j) + Int32.ofInt 4 = nI (4 * (j + 1)) := by
          have e1 : nI (4 * j) + nI 4 = nI (4 * j + 4) := nI_add _ _
          exact e1
        refine lv_iinc (v := nI (4 * (j + 1))) (lv' := [(4, .int (nI (4 * (j + 1)))), (0, .ref b), (1, .ref o0), (2, .ref (am 0)), (3, .ref bo)]) hx hb dL_law_1356 hl (k := 4) rfl ei (by decide) rfl (fun ls hl => ?_)
        refine lv_goto (tgt := 23) hx hb dL_law_1359 (by decide) ?_
        exact ih' n' bb d st ld hi ct cd u fo H locs ls R hPC hPM hS (lv_sub hl [1, 2, 3, 4, 0] rfl)
      have g1 : vp_in (nI (4 * j) + 1) L := by
        have e1 : nI (4 * j) + nI 1 = nI (4 * j + 1) := nI_add _ _
        have e2 : nI (4 * j) + 1 = nI (4 * j + 1) := e1
        rw [e2]; exact vp_in_nI (by omega) (by omega)
      have g2 : vp_in (nI (4 * j) + 2) L := by
        have e1 : nI (4 * j) + nI 2 = nI (4 * j + 2) := nI_add _ _
        have e2 : nI (4 * j) + 2 = nI (4 * j + 2) := e1
        rw [e2]; exact vp_in_nI (by omega) (by omega)
      have g3 : vp_in (nI (4 * j) + 3) L := by
        have e1 : nI (4 * j) + nI 3 = nI (4 * j + 3) := nI_add _ _
        have e2 : nI (4 * j) + 3 = nI (4 * j + 3) := e1
        rw [e2]; exact vp_in_nI (by omega) (by omega)
      have hc : 80 + 4 * j + 4 ≤ 601024 := by omega
      have hs : 7185 + 24 * j + 24 ≤ 7293034 := by omega
      refine lv_aload_n hx hb dL_law_32 rfl (lv_at hl 0 rfl) ?_
      refine lv_iload hx hb dL_law_33 (lv_at hl 4 rfl) ?_
      refine va_sld hx hb hX hbl (Nat.not_le.mpr hbl) hS (vp_in_nI (by omega) (by omega)) dL_law_35 ?_
      refine lv_bipush (v := 31) hx hb dL_law_36 (by decide) ?_
      refine lv_iand hx hb dL_law_38 ?_
      obtain ⟨k, hk, ek⟩ := lz_and31 (xs (nI (4 * j)).toNatClampNeg)
      rw [ek]
      rcases (show k = 0 ∨ k = 1 ∨ k = 2 ∨ k = 3 ∨ k = 4 ∨ k = 5 ∨ k = 6 ∨ k = 7 ∨ k = 8 ∨ k = 9 ∨ k = 10 ∨ k = 11 ∨ k = 12 ∨ k = 13 ∨ k = 14 ∨ k = 15 ∨ k = 16 ∨ k = 17 ∨ k = 18 ∨ k = 19 ∨ k = 20 ∨ k = 21 ∨ k = 22 ∨ 23 ≤ k by omega) with rfl | rfl | rfl | rfl | rfl | rfl | rfl | rfl | rfl | rfl | rfl | rfl | rfl | rfl | rfl | rfl | rfl | rfl | rfl | rfl | rfl | rfl | rfl | hk9
      · exact lv_tableIn (off := 105) (tgt := 144) hx hb dL_law_39 (by decide +kernel) (by decide +kernel) (by decide +kernel) (by decide) (lz_c_setRank X g1 g2 g3 hc hs K n' bb d st ld hi ct cd u fo H locs ls R hPC hPM hS hl)
      · exact lv_tableIn (off := 173) (tgt := 212) hx hb dL_law_39 (by decide +kernel) (by decide +kernel) (by decide +kernel) (by decide) (lz_c_setRule X g1 g2 g3 hc hs K n' bb d st ld hi ct cd u fo H locs ls R hPC hPM hS hl)
      · exact lv_tableIn (off := 241) (tgt := 280) hx hb dL_law_39 (by decide +kernel) (by decide +kernel) (by decide +kernel) (by decide) (lz_c_setOrder X g1 g2 g3 hc hs K n' bb d st ld hi ct cd u fo H locs ls R hPC hPM hS hl)
      · exact lv_tableIn (off := 301) (tgt := 340) hx hb dL_law_39 (by decide +kernel) (by decide +kernel) (by decide +kernel) (by decide) (lz_c_beginBatch X g1 g2 g3 hc hs K n' bb d st ld hi ct cd u fo H locs ls R hPC hPM hS hl)
      · exact lv_tableIn (off := 345) (tgt := 384) hx hb dL_law_39 (by decide +kernel) (by decide +kernel) (by decide +kernel) (by decide) (lz_c_key X g1 g2 g3 hc hs K n' bb d st ld hi ct cd u fo H locs ls R hPC hPM hS hl)
      · exact lv_tableIn (off := 413) (tgt := 452) hx hb dL_law_39 (by decide +kernel) (by decide +kernel) (by decide +kernel) (by decide) (lz_c_field X g1 g2 g3 hc hs K n' bb d st ld hi ct cd u fo H locs ls R hPC hPM hS hl)
      · exact lv_tableIn (off := 481) (tgt := 520) hx hb dL_law_39 (by decide +kernel) (by decide +kernel) (by decide +kernel) (by decide) (lz_c_load X g1 g2 g3 hc hs K n' bb d st ld hi ct cd u fo H locs ls R hPC hPM hS hl)
      · exact lv_tableIn (off := 537) (tgt := 576) hx hb dL_law_39 (by decide +kernel) (by decide +kernel) (by decide +kernel) (by decide) (lz_c_protect X g1 g2 g3 hc hs K n' bb d st ld hi ct cd u fo H locs ls R hPC hPM hS hl)
      · exact lv_tableIn (off := 640) (tgt := 679) hx hb dL_law_39 (by decide +kernel) (by decide +kernel) (by decide +kernel) (by decide) (lz_c_hold X g1 g2 g3 hc hs K n' bb d st ld hi ct cd u fo H locs ls R hPC hPM hS hl)
      · exact lv_tableIn (off := 696) (tgt := 735) hx hb dL_law_39 (by decide +kernel) (by decide +kernel) (by decide +kernel) (by decide) (lz_c_merge X g1 g2 g3 hc hs K n' bb d st ld hi ct cd u fo H locs ls R hPC hPM hS hl)
      · exact lv_tableIn (off := 764) (tgt := 803) hx hb dL_law_39 (by decide +kernel) (by decide +kernel) (by decide +kernel) (by decide) (lz_c_undo X g1 g2 g3 hc hs K n' bb d st ld hi ct cd u fo H locs ls R hPC hPM hS hl)
      · exact lv_tableIn (off := 848) (tgt := 887) hx hb dL_law_39 (by decide +kernel) (by decide +kernel) (by decide +kernel) (by decide) (lz_c_batches X g1 g2 g3 hc hs K n' bb d st ld hi ct cd u fo H locs ls R hPC hPM hS hl)
      · exact lv_tableIn (off := 861) (tgt := 900) hx hb dL_law_39 (by decide +kernel) (by decide +kernel) (by decide +kernel) (by decide) (lz_c_loads X g1 g2 g3 hc hs K n' bb d st ld hi ct cd u fo H locs ls R hPC hPM hS hl)
      · exact lv_tableIn (off := 874) (tgt := 913) hx hb dL_law_39 (by decide +kernel) (by decide +kernel) (by decide +kernel) (by decide) (lz_c_records X g1 g2 g3 hc hs K n' bb d st ld hi ct cd u fo H locs ls R hPC hPM hS hl)
      · exact lv_tableIn (off := 887) (tgt := 926) hx hb dL_law_39 (by decide +kernel) (by decide +kernel) (by decide +kernel) (by decide) (lz_c_isUndone X g1 g2 g3 hc hs K n' bb d st ld hi ct cd u fo H locs ls R hPC hPM hS hl)
      · exact lv_tableIn (off := 950) (tgt := 989) hx hb dL_law_39 (by decide +kernel) (by decide +kernel) (by decide +kernel) (by decide) (lz_c_isThere X g1 g2 g3 hc hs K n' bb d st ld hi ct cd u fo H locs ls R hPC hPM hS hl)
      · exact lv_tableIn (off := 975) (tgt := 1014) hx hb dL_law_39 (by decide +kernel) (by decide +kernel) (by decide +kernel) (by decide) (lz_c_hit X g1 g2 g3 hc hs K n' bb d st ld hi ct cd u fo H locs ls R hPC hPM hS hl)
      · exact lv_tableIn (off := 1031) (tgt := 1070) hx hb dL_law_39 (by decide +kernel) (by decide +kernel) (by decide +kernel) (by decide) (lz_c_keyOf X g1 g2 g3 hc hs K n' bb d st ld hi ct cd u fo H locs ls R hPC hPM hS hl)
      · exact lv_tableIn (off := 1099) (tgt := 1138) hx hb dL_law_39 (by decide +kernel) (by decide +kernel) (by decide +kernel) (by decide) (lz_c_fieldOf X g1 g2 g3 hc hs K n' bb d st ld hi ct cd u fo H locs ls R hPC hPM hS hl)
      · exact lv_tableIn (off := 1167) (tgt := 1206) hx hb dL_law_39 (by decide +kernel) (by decide +kernel) (by decide +kernel) (by decide) (lz_c_sourceOf X g1 g2 g3 hc hs K n' bb d st ld hi ct cd u fo H locs ls R hPC hPM hS hl)
      · exact lv_tableIn (off := 1235) (tgt := 1274) hx hb dL_law_39 (by decide +kernel) (by decide +kernel) (by decide +kernel) (by decide) (lz_c_holdings X g1 g2 g3 hc hs K n' bb d st ld hi ct cd u fo H locs ls R hPC hPM hS hl)
      · exact lv_tableIn (off := 1291) (tgt := 1330) hx hb dL_law_39 (by decide +kernel) (by decide +kernel) (by decide +kernel) (by decide) (lz_c_digest X g1 g2 g3 hc hs K n' bb d st ld hi ct cd u fo H locs ls R hPC hPM hS hl)
      · exact lv_tableIn (off := 1304) (tgt := 1343) hx hb dL_law_39 (by decide +kernel) (by decide +kernel) (by decide +kernel) (by decide) (lz_c_digestAnew X g1 g2 g3 hc hs K n' bb d st ld hi ct cd u fo H locs ls R hPC hPM hS hl)
      · refine lv_tableOut (tgt := 1356) hx hb dL_law_39 (Or.inr ?_) (by decide) ?_
        · rw [nI_toInt (by omega)]; omega
        · exact W.widen (k := 80 + 4 * j + 4) (n := 7185 + 24 * j + 24) (by omega) (by omega) (K n' bb d st ld hi ct cd u fo H locs ls R hPC hPM hS hl)
