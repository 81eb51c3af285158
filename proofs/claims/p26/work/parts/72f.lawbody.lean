section LAW
variable {p : Program} {l : Launch} {e : Env} {s : State} {m : MethodId} {below : List Frame} {meth : Method} {c : Code} {H : Heap} {locs : List Loc} {cells slots : Nat} {Q : State → Prop} {ls : Array Slot} {D : va_G} {Y : cq_Y} {b L : Nat} {xs : Nat → Int32} {o0 : Nat} {ast ald ahi act acd ar : Nat → Nat}
variable {n bt d U tn K y r : Nat} {st : SetS} {ld : LodS} {hi : HisS} {ct cd : CatS} {u : MdlS} {v li : FL} {h ev nn qq bb t uu : FI} {dr : Int64}
set_option maxHeartbeats 4000000 in
set_option maxRecDepth 100000 in
theorem qz_B9 (X : qz_X p l s m meth c b L xs D Y o0 ast ald ahi act acd ar) (hc : cells + 4000 ≤ 600130) (hsl : slots + 24000 ≤ 7301080) (I : IV n bt d U st ld hi ct cd u v h ev nn qq li bb t uu dr) (hP : va_P D vwCl (qz_A Y ar v h ev nn qq li bb t uu) H) (hPK : va_P D vwCl (lz_K Y o0 ast ald ahi act acd st ld hi ct cd) H) (hS : va_S (fun q => s.heap.size ≤ q) s.heap H locs)  (hy : y < 2147483648) (hrr : r < 40) (kk : ∀ (o a : Nat) (ls : Array Slot), o < 40 → ((a = 1 ∧ ix (v r) = 1 ∧ ix (v o) = 1) ∨ (a = 0 ∧ ¬ (ix (v r) = 1 ∧ ix (v o) = 1))) → lv_has ls 23 [(0, .ref b), (1, .ref o0), (2, .ref (ar 0)), (3, .ref (ar 1)), (4, .ref (ar 2)), (5, .ref (ar 5)), (6, .ref (ar 6)), (7, .ref (ar 7)), (8, .ref (ar 3)), (9, .ref (ar 8)), (10, .ref (ar 4)), (11, .long dr), (13, .int 1), (14, .int (nI tn)), (17, .int (nI y)), (18, .int (nI r)), (19, .int (nI o)), (20, .int (nI a))] → W p l e room_1 s m #[Value.ref b] below meth c H locs (cells) (slots) Q (F0 m 1264 ls [])) (hl : lv_has ls 23 [(0, .ref b), (1, .ref o0), (2, .ref (ar 0)), (3, .ref (ar 1)), (4, .ref (ar 2)), (5, .ref (ar 5)), (6, .ref (ar 6)), (7, .ref (ar 7)), (8, .ref (ar 3)), (9, .ref (ar 8)), (10, .ref (ar 4)), (11, .long dr), (13, .int 1), (14, .int (nI tn)), (17, .int (nI y)), (18, .int (nI r))]) : W p l e room_1 s m #[Value.ref b] below meth c H locs (cells) (slots) Q (F0 m 1214 ls []) := by
  obtain ⟨C0, hl0, hG, hB, hNC, hap⟩ := id X
  obtain ⟨hx, hb, hr, hml, hown, htb, hX, hbl, hlocks, hgv⟩ := id C0
  have hown : s.vm.findClass RL = some m.cls := hown
  have hts : ∀ w ∈ wsL_law, w.before #[Value.ref b] s = true := fun w h => htb w (wsL_law_in w h)
  have hD : va_D (fun q => s.heap.size ≤ q) (qz_A Y ar v h ev nn qq li bb t uu) := qz_apD hap qz_eA
  have hN := I.2.2.2.2.2.2.1
  have hn40 := I.2.2.2.2.2.2.2.1
  have hb10 := I.1.1.2.1
  by_cases hn0 : n = 0
  · by_cases h1 : ix (v r) = 1
    · by_cases h2 : ix (v 0) = 1
      · refine lv_aload hx hb dL_law_1214 (lv_at hl 8 rfl) ?_
        refine lv_iconst (v := 1) hx hb dL_law_1216 (by decide) ?_
        refine va_iald hx hb hG.1 hP 3 0 rfl rfl (inb_in (by decide)) dL_law_1217 ?_
        refine lv_topi (fun w_286 ew_286 => ?_)
        obtain rfl : w_286 = nn 1 := ew_286.trans (congrArg nn (show ((1 : Int32).toNatClampNeg) = 1 by decide))
        refine lv_topi (fun w_287 ew_287 => ?_)
        obtain rfl : w_287 = nI n := ew_287.trans hN.2.1
        refine lv_if_ne (tgt := 1225) hx hb dL_law_1218 (by decide) (fun c_288 => ?_) (fun c_288 => ?_)
        · exact absurd ((n0 (by omega)).mpr hn0) c_288
        · refine lv_iconst (v := 0) hx hb dL_law_1221 (by decide) ?_
          refine lv_goto (tgt := 1235) hx hb dL_law_1222 (by decide) ?_
          refine lv_topi (fun w_289 ew_289 => ?_)
          obtain rfl : w_289 = nI 0 := ew_289.trans (show (0 : Int32) = nI 0 from rfl)
          refine lv_istore (lv' := [(19, .int (nI 0)), (0, .ref b), (1, .ref o0), (2, .ref (ar 0)), (3, .ref (ar 1)), (4, .ref (ar 2)), (5, .ref (ar 5)), (6, .ref (ar 6)), (7, .ref (ar 7)), (8, .ref (ar 3)), (9, .ref (ar 8)), (10, .ref (ar 4)), (11, .long dr), (13, .int 1), (14, .int (nI tn)), (17, .int (nI y)), (18, .int (nI r))]) hx hb dL_law_1235 hl (by decide) rfl (fun ls hl => ?_)
          refine lv_aload_n hx hb dL_law_1237 rfl (lv_at hl 3 rfl) ?_
          refine lv_iload hx hb dL_law_1238 (lv_at hl 16 rfl) ?_
          refine va_lald hx hb hG.1 hP 0 2 rfl rfl (inb_in (inb_n (show r < 40 by omega) (by decide))) dL_law_1240 ?_
          refine lv_topl (fun w_290 ew_290 => ?_)
          obtain rfl : w_290 = v r := ew_290.trans (congrArg v (ncl (show r < 2147483648 by omega)))
          refine cq_RS (R := room_1) (args := #[Value.ref b]) (y := yL_isIn) (bytes := cL_isIn) (cc := code) (maxL := 2) (nL := 23) (n := 1) (index := 15) (ret := (some .boolean)) (ws := wsL_isIn) (rm := cq_rm 0 0) (Ts := wsL_law) (own := RL) (D := D) (Y := Y) (W0 := ([] : va_W)) (wl := qz_A Y ar v h ev nn qq li bb t uu) (v := some (.int (m_L_isIn (v r)))) (st0 := [.long (v r)]) (As := [.long (v r)]) (rest := []) ⟨hx, hb, hml, hown, hts⟩ (ct_L_isIn l D Y  (v r)) (va_cwS 1 hts gL_law_L_isIn rfl rfl rfl (by decide +kernel) ⟨Nat.le_of_ble_eq_true rfl, Nat.le_of_ble_eq_true rfl⟩) hG hP hD [] rfl (by decide +kernel) rfl hl.1 rfl (Nat.le_of_ble_eq_true rfl) dL_law_1241 ⟨qz_f1 (k := 0) (show cells + 2000 ≤ 600130 by omega) (by decide), qz_f2 (k := 0) (show slots + 12000 ≤ 7301080 by omega) (by decide)⟩ ?_
          change W _ _ _ _ _ _ _ _ _ _ _ _ _ _ _ (F0 m 1244 _ (.int (m_L_isIn (v r)) :: []))
          refine lv_topi (fun w_291 ew_291 => ?_)
          obtain rfl : w_291 = 1 := ew_291.trans (L_isIn.trans (by rw [h1]; rfl))
          refine lv_if_eq (tgt := 1261) hx hb dL_law_1244 (by decide) (fun c_292 => ?_) (fun c_292 => ?_)
          · exact absurd c_292 (by decide)
          · refine lv_aload_n hx hb dL_law_1247 rfl (lv_at hl 3 rfl) ?_
            refine lv_iload hx hb dL_law_1248 (lv_at hl 0 rfl) ?_
            refine va_lald hx hb hG.1 hP 0 2 rfl rfl (inb_in (inb_n (show 0 < 40 by omega) (by decide))) dL_law_1250 ?_
            refine lv_topl (fun w_293 ew_293 => ?_)
            obtain rfl : w_293 = v 0 := ew_293.trans (congrArg v (ncl (show 0 < 2147483648 by omega)))
            refine cq_RS (R := room_1) (args := #[Value.ref b]) (y := yL_isIn) (bytes := cL_isIn) (cc := code) (maxL := 2) (nL := 23) (n := 1) (index := 15) (ret := (some .boolean)) (ws := wsL_isIn) (rm := cq_rm 0 0) (Ts := wsL_law) (own := RL) (D := D) (Y := Y) (W0 := ([] : va_W)) (wl := qz_A Y ar v h ev nn qq li bb t uu) (v := some (.int (m_L_isIn (v 0)))) (st0 := [.long (v 0)]) (As := [.long (v 0)]) (rest := []) ⟨hx, hb, hml, hown, hts⟩ (ct_L_isIn l D Y  (v 0)) (va_cwS 1 hts gL_law_L_isIn rfl rfl rfl (by decide +kernel) ⟨Nat.le_of_ble_eq_true rfl, Nat.le_of_ble_eq_true rfl⟩) hG hP hD [] rfl (by decide +kernel) rfl hl.1 rfl (Nat.le_of_ble_eq_true rfl) dL_law_1251 ⟨qz_f1 (k := 0) (show cells + 2000 ≤ 600130 by omega) (by decide), qz_f2 (k := 0) (show slots + 12000 ≤ 7301080 by omega) (by decide)⟩ ?_
            change W _ _ _ _ _ _ _ _ _ _ _ _ _ _ _ (F0 m 1254 _ (.int (m_L_isIn (v 0)) :: []))
            refine lv_topi (fun w_294 ew_294 => ?_)
            obtain rfl : w_294 = 1 := ew_294.trans (L_isIn.trans (by rw [h2]; rfl))
            refine lv_if_eq (tgt := 1261) hx hb dL_law_1254 (by decide) (fun c_295 => ?_) (fun c_295 => ?_)
            · exact absurd c_295 (by decide)
            · refine lv_iconst (v := 1) hx hb dL_law_1257 (by decide) ?_
              refine lv_goto (tgt := 1262) hx hb dL_law_1258 (by decide) ?_
              refine lv_topi (fun w_296 ew_296 => ?_)
              obtain rfl : w_296 = nI 1 := ew_296.trans (show (1 : Int32) = nI 1 from rfl)
              refine lv_istore (lv' := [(20, .int (nI 1)), (19, .int (nI 0)), (0, .ref b), (1, .ref o0), (2, .ref (ar 0)), (3, .ref (ar 1)), (4, .ref (ar 2)), (5, .ref (ar 5)), (6, .ref (ar 6)), (7, .ref (ar 7)), (8, .ref (ar 3)), (9, .ref (ar 8)), (10, .ref (ar 4)), (11, .long dr), (13, .int 1), (14, .int (nI tn)), (17, .int (nI y)), (18, .int (nI r))]) hx hb dL_law_1262 hl (by decide) rfl (fun ls hl => ?_)
              exact kk 0 1 ls (by decide) (Or.inl ⟨rfl, h1, h2⟩) (lv_sub hl [2, 3, 4, 5, 6, 7, 8, 9, 10, 11, 12, 13, 14, 15, 16, 17, 1, 0] rfl)
      · refine lv_aload hx hb dL_law_1214 (lv_at hl 8 rfl) ?_
        refine lv_iconst (v := 1) hx hb dL_law_1216 (by decide) ?_
        refine va_iald hx hb hG.1 hP 3 0 rfl rfl (inb_in (by decide)) dL_law_1217 ?_
        refine lv_topi (fun w_297 ew_297 => ?_)
        obtain rfl : w_297 = nn 1 := ew_297.trans (congrArg nn (show ((1 : Int32).toNatClampNeg) = 1 by decide))
        refine lv_topi (fun w_298 ew_298 => ?_)
        obtain rfl : w_298 = nI n := ew_298.trans hN.2.1
        refine lv_if_ne (tgt := 1225) hx hb dL_law_1218 (by decide) (fun c_299 => ?_) (fun c_299 => ?_)
        · exact absurd ((n0 (by omega)).mpr hn0) c_299
        · refine lv_iconst (v := 0) hx hb dL_law_1221 (by decide) ?_
          refine lv_goto (tgt := 1235) hx hb dL_law_1222 (by decide) ?_
          refine lv_topi (fun w_300 ew_300 => ?_)
          obtain rfl : w_300 = nI 0 := ew_300.trans (show (0 : Int32) = nI 0 from rfl)
          refine lv_istore (lv' := [(19, .int (nI 0)), (0, .ref b), (1, .ref o0), (2, .ref (ar 0)), (3, .ref (ar 1)), (4, .ref (ar 2)), (5, .ref (ar 5)), (6, .ref (ar 6)), (7, .ref (ar 7)), (8, .ref (ar 3)), (9, .ref (ar 8)), (10, .ref (ar 4)), (11, .long dr), (13, .int 1), (14, .int (nI tn)), (17, .int (nI y)), (18, .int (nI r))]) hx hb dL_law_1235 hl (by decide) rfl (fun ls hl => ?_)
          refine lv_aload_n hx hb dL_law_1237 rfl (lv_at hl 3 rfl) ?_
          refine lv_iload hx hb dL_law_1238 (lv_at hl 16 rfl) ?_
          refine va_lald hx hb hG.1 hP 0 2 rfl rfl (inb_in (inb_n (show r < 40 by omega) (by decide))) dL_law_1240 ?_
          refine lv_topl (fun w_301 ew_301 => ?_)
          obtain rfl : w_301 = v r := ew_301.trans (congrArg v (ncl (show r < 2147483648 by omega)))
          refine cq_RS (R := room_1) (args := #[Value.ref b]) (y := yL_isIn) (bytes := cL_isIn) (cc := code) (maxL := 2) (nL := 23) (n := 1) (index := 15) (ret := (some .boolean)) (ws := wsL_isIn) (rm := cq_rm 0 0) (Ts := wsL_law) (own := RL) (D := D) (Y := Y) (W0 := ([] : va_W)) (wl := qz_A Y ar v h ev nn qq li bb t uu) (v := some (.int (m_L_isIn (v r)))) (st0 := [.long (v r)]) (As := [.long (v r)]) (rest := []) ⟨hx, hb, hml, hown, hts⟩ (ct_L_isIn l D Y  (v r)) (va_cwS 1 hts gL_law_L_isIn rfl rfl rfl (by decide +kernel) ⟨Nat.le_of_ble_eq_true rfl, Nat.le_of_ble_eq_true rfl⟩) hG hP hD [] rfl (by decide +kernel) rfl hl.1 rfl (Nat.le_of_ble_eq_true rfl) dL_law_1241 ⟨qz_f1 (k := 0) (show cells + 2000 ≤ 600130 by omega) (by decide), qz_f2 (k := 0) (show slots + 12000 ≤ 7301080 by omega) (by decide)⟩ ?_
          change W _ _ _ _ _ _ _ _ _ _ _ _ _ _ _ (F0 m 1244 _ (.int (m_L_isIn (v r)) :: []))
          refine lv_topi (fun w_302 ew_302 => ?_)
          obtain rfl : w_302 = 1 := ew_302.trans (L_isIn.trans (by rw [h1]; rfl))
          refine lv_if_eq (tgt := 1261) hx hb dL_law_1244 (by decide) (fun c_303 => ?_) (fun c_303 => ?_)
          · exact absurd c_303 (by decide)
          · refine lv_aload_n hx hb dL_law_1247 rfl (lv_at hl 3 rfl) ?_
            refine lv_iload hx hb dL_law_1248 (lv_at hl 0 rfl) ?_
            refine va_lald hx hb hG.1 hP 0 2 rfl rfl (inb_in (inb_n (show 0 < 40 by omega) (by decide))) dL_law_1250 ?_
            refine lv_topl (fun w_304 ew_304 => ?_)
            obtain rfl : w_304 = v 0 := ew_304.trans (congrArg v (ncl (show 0 < 2147483648 by omega)))
            refine cq_RS (R := room_1) (args := #[Value.ref b]) (y := yL_isIn) (bytes := cL_isIn) (cc := code) (maxL := 2) (nL := 23) (n := 1) (index := 15) (ret := (some .boolean)) (ws := wsL_isIn) (rm := cq_rm 0 0) (Ts := wsL_law) (own := RL) (D := D) (Y := Y) (W0 := ([] : va_W)) (wl := qz_A Y ar v h ev nn qq li bb t uu) (v := some (.int (m_L_isIn (v 0)))) (st0 := [.long (v 0)]) (As := [.long (v 0)]) (rest := []) ⟨hx, hb, hml, hown, hts⟩ (ct_L_isIn l D Y  (v 0)) (va_cwS 1 hts gL_law_L_isIn rfl rfl rfl (by decide +kernel) ⟨Nat.le_of_ble_eq_true rfl, Nat.le_of_ble_eq_true rfl⟩) hG hP hD [] rfl (by decide +kernel) rfl hl.1 rfl (Nat.le_of_ble_eq_true rfl) dL_law_1251 ⟨qz_f1 (k := 0) (show cells + 2000 ≤ 600130 by omega) (by decide), qz_f2 (k := 0) (show slots + 12000 ≤ 7301080 by omega) (by decide)⟩ ?_
            change W _ _ _ _ _ _ _ _ _ _ _ _ _ _ _ (F0 m 1254 _ (.int (m_L_isIn (v 0)) :: []))
            refine lv_topi (fun w_305 ew_305 => ?_)
            obtain rfl : w_305 = 0 := ew_305.trans (L_isIn.trans (by rw [show ix (v 0) = 0 by have := ix_lt (x := v 0); omega]; rfl))
            refine lv_if_eq (tgt := 1261) hx hb dL_law_1254 (by decide) (fun c_306 => ?_) (fun c_306 => ?_)
            · refine lv_iconst (v := 0) hx hb dL_law_1261 (by decide) ?_
              refine lv_topi (fun w_307 ew_307 => ?_)
              obtain rfl : w_307 = nI 0 := ew_307.trans (show (0 : Int32) = nI 0 from rfl)
              refine lv_istore (lv' := [(20, .int (nI 0)), (19, .int (nI 0)), (0, .ref b), (1, .ref o0), (2, .ref (ar 0)), (3, .ref (ar 1)), (4, .ref (ar 2)), (5, .ref (ar 5)), (6, .ref (ar 6)), (7, .ref (ar 7)), (8, .ref (ar 3)), (9, .ref (ar 8)), (10, .ref (ar 4)), (11, .long dr), (13, .int 1), (14, .int (nI tn)), (17, .int (nI y)), (18, .int (nI r))]) hx hb dL_law_1262 hl (by decide) rfl (fun ls hl => ?_)
              exact kk 0 0 ls (by decide) (Or.inr ⟨rfl, fun h9 => h2 h9.2⟩) (lv_sub hl [2, 3, 4, 5, 6, 7, 8, 9, 10, 11, 12, 13, 14, 15, 16, 17, 1, 0] rfl)
            · exact absurd c_306 (by decide)
    · refine lv_aload hx hb dL_law_1214 (lv_at hl 8 rfl) ?_
      refine lv_iconst (v := 1) hx hb dL_law_1216 (by decide) ?_
      refine va_iald hx hb hG.1 hP 3 0 rfl rfl (inb_in (by decide)) dL_law_1217 ?_
      refine lv_topi (fun w_308 ew_308 => ?_)
      obtain rfl : w_308 = nn 1 := ew_308.trans (congrArg nn (show ((1 : Int32).toNatClampNeg) = 1 by decide))
      refine lv_topi (fun w_309 ew_309 => ?_)
      obtain rfl : w_309 = nI n := ew_309.trans hN.2.1
      refine lv_if_ne (tgt := 1225) hx hb dL_law_1218 (by decide) (fun c_310 => ?_) (fun c_310 => ?_)
      · exact absurd ((n0 (by omega)).mpr hn0) c_310
      · refine lv_iconst (v := 0) hx hb dL_law_1221 (by decide) ?_
        refine lv_goto (tgt := 1235) hx hb dL_law_1222 (by decide) ?_
        refine lv_topi (fun w_311 ew_311 => ?_)
        obtain rfl : w_311 = nI 0 := ew_311.trans (show (0 : Int32) = nI 0 from rfl)
        refine lv_istore (lv' := [(19, .int (nI 0)), (0, .ref b), (1, .ref o0), (2, .ref (ar 0)), (3, .ref (ar 1)), (4, .ref (ar 2)), (5, .ref (ar 5)), (6, .ref (ar 6)), (7, .ref (ar 7)), (8, .ref (ar 3)), (9, .ref (ar 8)), (10, .ref (ar 4)), (11, .long dr), (13, .int 1), (14, .int (nI tn)), (17, .int (nI y)), (18, .int (nI r))]) hx hb dL_law_1235 hl (by decide) rfl (fun ls hl => ?_)
        refine lv_aload_n hx hb dL_law_1237 rfl (lv_at hl 3 rfl) ?_
        refine lv_iload hx hb dL_law_1238 (lv_at hl 16 rfl) ?_
        refine va_lald hx hb hG.1 hP 0 2 rfl rfl (inb_in (inb_n (show r < 40 by omega) (by decide))) dL_law_1240 ?_
        refine lv_topl (fun w_312 ew_312 => ?_)
        obtain rfl : w_312 = v r := ew_312.trans (congrArg v (ncl (show r < 2147483648 by omega)))
        refine cq_RS (R := room_1) (args := #[Value.ref b]) (y := yL_isIn) (bytes := cL_isIn) (cc := code) (maxL := 2) (nL := 23) (n := 1) (index := 15) (ret := (some .boolean)) (ws := wsL_isIn) (rm := cq_rm 0 0) (Ts := wsL_law) (own := RL) (D := D) (Y := Y) (W0 := ([] : va_W)) (wl := qz_A Y ar v h ev nn qq li bb t uu) (v := some (.int (m_L_isIn (v r)))) (st0 := [.long (v r)]) (As := [.long (v r)]) (rest := []) ⟨hx, hb, hml, hown, hts⟩ (ct_L_isIn l D Y  (v r)) (va_cwS 1 hts gL_law_L_isIn rfl rfl rfl (by decide +kernel) ⟨Nat.le_of_ble_eq_true rfl, Nat.le_of_ble_eq_true rfl⟩) hG hP hD [] rfl (by decide +kernel) rfl hl.1 rfl (Nat.le_of_ble_eq_true rfl) dL_law_1241 ⟨qz_f1 (k := 0) (show cells + 2000 ≤ 600130 by omega) (by decide), qz_f2 (k := 0) (show slots + 12000 ≤ 7301080 by omega) (by decide)⟩ ?_
        change W _ _ _ _ _ _ _ _ _ _ _ _ _ _ _ (F0 m 1244 _ (.int (m_L_isIn (v r)) :: []))
        refine lv_topi (fun w_313 ew_313 => ?_)
        obtain rfl : w_313 = 0 := ew_313.trans (L_isIn.trans (by rw [show ix (v r) = 0 by have := ix_lt (x := v r); omega]; rfl))
        refine lv_if_eq (tgt := 1261) hx hb dL_law_1244 (by decide) (fun c_314 => ?_) (fun c_314 => ?_)
        · refine lv_iconst (v := 0) hx hb dL_law_1261 (by decide) ?_
          refine lv_topi (fun w_315 ew_315 => ?_)
          obtain rfl : w_315 = nI 0 := ew_315.trans (show (0 : Int32) = nI 0 from rfl)
          refine lv_istore (lv' := [(20, .int (nI 0)), (19, .int (nI 0)), (0, .ref b), (1, .ref o0), (2, .ref (ar 0)), (3, .ref (ar 1)), (4, .ref (ar 2)), (5, .ref (ar 5)), (6, .ref (ar 6)), (7, .ref (ar 7)), (8, .ref (ar 3)), (9, .ref (ar 8)), (10, .ref (ar 4)), (11, .long dr), (13, .int 1), (14, .int (nI tn)), (17, .int (nI y)), (18, .int (nI r))]) hx hb dL_law_1262 hl (by decide) rfl (fun ls hl => ?_)
          exact kk 0 0 ls (by decide) (Or.inr ⟨rfl, fun h9 => h1 h9.1⟩) (lv_sub hl [2, 3, 4, 5, 6, 7, 8, 9, 10, 11, 12, 13, 14, 15, 16, 17, 1, 0] rfl)
        · exact absurd c_314 (by decide)
  · by_cases h1 : ix (v r) = 1
    · by_cases h2 : ix (v ((y / 40) % n)) = 1
      · have hmn := Nat.mod_lt (y / 40) (show n > 0 by omega)
        refine lv_aload hx hb dL_law_1214 (lv_at hl 8 rfl) ?_
        refine lv_iconst (v := 1) hx hb dL_law_1216 (by decide) ?_
        refine va_iald hx hb hG.1 hP 3 0 rfl rfl (inb_in (by decide)) dL_law_1217 ?_
        refine lv_topi (fun w_316 ew_316 => ?_)
        obtain rfl : w_316 = nn 1 := ew_316.trans (congrArg nn (show ((1 : Int32).toNatClampNeg) = 1 by decide))
        refine lv_topi (fun w_317 ew_317 => ?_)
        obtain rfl : w_317 = nI n := ew_317.trans hN.2.1
        refine lv_if_ne (tgt := 1225) hx hb dL_law_1218 (by decide) (fun c_318 => ?_) (fun c_318 => ?_)
        · refine lv_iload hx hb dL_law_1225 (lv_at hl 14 rfl) ?_
          refine lv_bipush (v := 40) hx hb dL_law_1227 (by decide) ?_
          refine lv_idiv hx hb dL_law_1229 (by decide) ?_
          refine lv_topi (fun w_319 ew_319 => ?_)
          obtain rfl : w_319 = nI (y / 40) := ew_319.trans (nI_dv (a := y) (b := 40) (by omega) (by omega))
          refine lv_aload hx hb dL_law_1230 (lv_at hl 8 rfl) ?_
          refine lv_iconst (v := 1) hx hb dL_law_1232 (by decide) ?_
          refine va_iald hx hb hG.1 hP 3 0 rfl rfl (inb_in (by decide)) dL_law_1233 ?_
          refine lv_topi (fun w_320 ew_320 => ?_)
          obtain rfl : w_320 = nn 1 := ew_320.trans (congrArg nn (show ((1 : Int32).toNatClampNeg) = 1 by decide))
          refine lv_topi (fun w_321 ew_321 => ?_)
          obtain rfl : w_321 = nI n := ew_321.trans hN.2.1
          refine lv_irem hx hb dL_law_1234 (fun h9 => hn0 ((n0 (by omega)).mp h9)) ?_
          refine lv_topi (fun w_322 ew_322 => ?_)
          obtain rfl : w_322 = nI ((y / 40) % n) := ew_322.trans (nI_md (a := y / 40) (b := n) (by omega) (by omega))
          refine lv_istore (lv' := [(19, .int (nI ((y / 40) % n))), (0, .ref b), (1, .ref o0), (2, .ref (ar 0)), (3, .ref (ar 1)), (4, .ref (ar 2)), (5, .ref (ar 5)), (6, .ref (ar 6)), (7, .ref (ar 7)), (8, .ref (ar 3)), (9, .ref (ar 8)), (10, .ref (ar 4)), (11, .long dr), (13, .int 1), (14, .int (nI tn)), (17, .int (nI y)), (18, .int (nI r))]) hx hb dL_law_1235 hl (by decide) rfl (fun ls hl => ?_)
          refine lv_aload_n hx hb dL_law_1237 rfl (lv_at hl 3 rfl) ?_
          refine lv_iload hx hb dL_law_1238 (lv_at hl 16 rfl) ?_
          refine va_lald hx hb hG.1 hP 0 2 rfl rfl (inb_in (inb_n (show r < 40 by omega) (by decide))) dL_law_1240 ?_
          refine lv_topl (fun w_323 ew_323 => ?_)
          obtain rfl : w_323 = v r := ew_323.trans (congrArg v (ncl (show r < 2147483648 by omega)))
          refine cq_RS (R := room_1) (args := #[Value.ref b]) (y := yL_isIn) (bytes := cL_isIn) (cc := code) (maxL := 2) (nL := 23) (n := 1) (index := 15) (ret := (some .boolean)) (ws := wsL_isIn) (rm := cq_rm 0 0) (Ts := wsL_law) (own := RL) (D := D) (Y := Y) (W0 := ([] : va_W)) (wl := qz_A Y ar v h ev nn qq li bb t uu) (v := some (.int (m_L_isIn (v r)))) (st0 := [.long (v r)]) (As := [.long (v r)]) (rest := []) ⟨hx, hb, hml, hown, hts⟩ (ct_L_isIn l D Y  (v r)) (va_cwS 1 hts gL_law_L_isIn rfl rfl rfl (by decide +kernel) ⟨Nat.le_of_ble_eq_true rfl, Nat.le_of_ble_eq_true rfl⟩) hG hP hD [] rfl (by decide +kernel) rfl hl.1 rfl (Nat.le_of_ble_eq_true rfl) dL_law_1241 ⟨qz_f1 (k := 0) (show cells + 2000 ≤ 600130 by omega) (by decide), qz_f2 (k := 0) (show slots + 12000 ≤ 7301080 by omega) (by decide)⟩ ?_
          change W _ _ _ _ _ _ _ _ _ _ _ _ _ _ _ (F0 m 1244 _ (.int (m_L_isIn (v r)) :: []))
          refine lv_topi (fun w_324 ew_324 => ?_)
          obtain rfl : w_324 = 1 := ew_324.trans (L_isIn.trans (by rw [h1]; rfl))
          refine lv_if_eq (tgt := 1261) hx hb dL_law_1244 (by decide) (fun c_325 => ?_) (fun c_325 => ?_)
          · exact absurd c_325 (by decide)
          · refine lv_aload_n hx hb dL_law_1247 rfl (lv_at hl 3 rfl) ?_
            refine lv_iload hx hb dL_law_1248 (lv_at hl 0 rfl) ?_
            refine va_lald hx hb hG.1 hP 0 2 rfl rfl (inb_in (inb_n (show (y / 40) % n < 40 by omega) (by decide))) dL_law_1250 ?_
            refine lv_topl (fun w_326 ew_326 => ?_)
            obtain rfl : w_326 = v ((y / 40) % n) := ew_326.trans (congrArg v (ncl (show (y / 40) % n < 2147483648 by omega)))
            refine cq_RS (R := room_1) (args := #[Value.ref b]) (y := yL_isIn) (bytes := cL_isIn) (cc := code) (maxL := 2) (nL := 23) (n := 1) (index := 15) (ret := (some .boolean)) (ws := wsL_isIn) (rm := cq_rm 0 0) (Ts := wsL_law) (own := RL) (D := D) (Y := Y) (W0 := ([] : va_W)) (wl := qz_A Y ar v h ev nn qq li bb t uu) (v := some (.int (m_L_isIn (v ((y / 40) % n))))) (st0 := [.long (v ((y / 40) % n))]) (As := [.long (v ((y / 40) % n))]) (rest := []) ⟨hx, hb, hml, hown, hts⟩ (ct_L_isIn l D Y  (v ((y / 40) % n))) (va_cwS 1 hts gL_law_L_isIn rfl rfl rfl (by decide +kernel) ⟨Nat.le_of_ble_eq_true rfl, Nat.le_of_ble_eq_true rfl⟩) hG hP hD [] rfl (by decide +kernel) rfl hl.1 rfl (Nat.le_of_ble_eq_true rfl) dL_law_1251 ⟨qz_f1 (k := 0) (show cells + 2000 ≤ 600130 by omega) (by decide), qz_f2 (k := 0) (show slots + 12000 ≤ 7301080 by omega) (by decide)⟩ ?_
            change W _ _ _ _ _ _ _ _ _ _ _ _ _ _ _ (F0 m 1254 _ (.int (m_L_isIn (v ((y / 40) % n))) :: []))
            refine lv_topi (fun w_327 ew_327 => ?_)
            obtain rfl : w_327 = 1 := ew_327.trans (L_isIn.trans (by rw [h2]; rfl))
            refine lv_if_eq (tgt := 1261) hx hb dL_law_1254 (by decide) (fun c_328 => ?_) (fun c_328 => ?_)
            · exact absurd c_328 (by decide)
            · refine lv_iconst (v := 1) hx hb dL_law_1257 (by decide) ?_
              refine lv_goto (tgt := 1262) hx hb dL_law_1258 (by decide) ?_
              refine lv_topi (fun w_329 ew_329 => ?_)
              obtain rfl : w_329 = nI 1 := ew_329.trans (show (1 : Int32) = nI 1 from rfl)
              refine lv_istore (lv' := [(20, .int (nI 1)), (19, .int (nI ((y / 40) % n))), (0, .ref b), (1, .ref o0), (2, .ref (ar 0)), (3, .ref (ar 1)), (4, .ref (ar 2)), (5, .ref (ar 5)), (6, .ref (ar 6)), (7, .ref (ar 7)), (8, .ref (ar 3)), (9, .ref (ar 8)), (10, .ref (ar 4)), (11, .long dr), (13, .int 1), (14, .int (nI tn)), (17, .int (nI y)), (18, .int (nI r))]) hx hb dL_law_1262 hl (by decide) rfl (fun ls hl => ?_)
              exact kk ((y / 40) % n) 1 ls (by have := Nat.mod_lt (y / 40) (show n > 0 by omega); omega) (Or.inl ⟨rfl, h1, h2⟩) (lv_sub hl [2, 3, 4, 5, 6, 7, 8, 9, 10, 11, 12, 13, 14, 15, 16, 17, 1, 0] rfl)
        · exact absurd c_318 (fun h9 => hn0 ((n0 (by omega)).mp h9))
      · have hmn := Nat.mod_lt (y / 40) (show n > 0 by omega)
        refine lv_aload hx hb dL_law_1214 (lv_at hl 8 rfl) ?_
        refine lv_iconst (v := 1) hx hb dL_law_1216 (by decide) ?_
        refine va_iald hx hb hG.1 hP 3 0 rfl rfl (inb_in (by decide)) dL_law_1217 ?_
        refine lv_topi (fun w_330 ew_330 => ?_)
        obtain rfl : w_330 = nn 1 := ew_330.trans (congrArg nn (show ((1 : Int32).toNatClampNeg) = 1 by decide))
        refine lv_topi (fun w_331 ew_331 => ?_)
        obtain rfl : w_331 = nI n := ew_331.trans hN.2.1
        refine lv_if_ne (tgt := 1225) hx hb dL_law_1218 (by decide) (fun c_332 => ?_) (fun c_332 => ?_)
        · refine lv_iload hx hb dL_law_1225 (lv_at hl 14 rfl) ?_
          refine lv_bipush (v := 40) hx hb dL_law_1227 (by decide) ?_
          refine lv_idiv hx hb dL_law_1229 (by decide) ?_
          refine lv_topi (fun w_333 ew_333 => ?_)
          obtain rfl : w_333 = nI (y / 40) := ew_333.trans (nI_dv (a := y) (b := 40) (by omega) (by omega))
          refine lv_aload hx hb dL_law_1230 (lv_at hl 8 rfl) ?_
          refine lv_iconst (v := 1) hx hb dL_law_1232 (by decide) ?_
          refine va_iald hx hb hG.1 hP 3 0 rfl rfl (inb_in (by decide)) dL_law_1233 ?_
          refine lv_topi (fun w_334 ew_334 => ?_)
          obtain rfl : w_334 = nn 1 := ew_334.trans (congrArg nn (show ((1 : Int32).toNatClampNeg) = 1 by decide))
          refine lv_topi (fun w_335 ew_335 => ?_)
          obtain rfl : w_335 = nI n := ew_335.trans hN.2.1
          refine lv_irem hx hb dL_law_1234 (fun h9 => hn0 ((n0 (by omega)).mp h9)) ?_
          refine lv_topi (fun w_336 ew_336 => ?_)
          obtain rfl : w_336 = nI ((y / 40) % n) := ew_336.trans (nI_md (a := y / 40) (b := n) (by omega) (by omega))
          refine lv_istore (lv' := [(19, .int (nI ((y / 40) % n))), (0, .ref b), (1, .ref o0), (2, .ref (ar 0)), (3, .ref (ar 1)), (4, .ref (ar 2)), (5, .ref (ar 5)), (6, .ref (ar 6)), (7, .ref (ar 7)), (8, .ref (ar 3)), (9, .ref (ar 8)), (10, .ref (ar 4)), (11, .long dr), (13, .int 1), (14, .int (nI tn)), (17, .int (nI y)), (18, .int (nI r))]) hx hb dL_law_1235 hl (by decide) rfl (fun ls hl => ?_)
          refine lv_aload_n hx hb dL_law_1237 rfl (lv_at hl 3 rfl) ?_
          refine lv_iload hx hb dL_law_1238 (lv_at hl 16 rfl) ?_
          refine va_lald hx hb hG.1 hP 0 2 rfl rfl (inb_in (inb_n (show r < 40 by omega) (by decide))) dL_law_1240 ?_
          refine lv_topl (fun w_337 ew_337 => ?_)
          obtain rfl : w_337 = v r := ew_337.trans (congrArg v (ncl (show r < 2147483648 by omega)))
          refine cq_RS (R := room_1) (args := #[Value.ref b]) (y := yL_isIn) (bytes := cL_isIn) (cc := code) (maxL := 2) (nL := 23) (n := 1) (index := 15) (ret := (some .boolean)) (ws := wsL_isIn) (rm := cq_rm 0 0) (Ts := wsL_law) (own := RL) (D := D) (Y := Y) (W0 := ([] : va_W)) (wl := qz_A Y ar v h ev nn qq li bb t uu) (v := some (.int (m_L_isIn (v r)))) (st0 := [.long (v r)]) (As := [.long (v r)]) (rest := []) ⟨hx, hb, hml, hown, hts⟩ (ct_L_isIn l D Y  (v r)) (va_cwS 1 hts gL_law_L_isIn rfl rfl rfl (by decide +kernel) ⟨Nat.le_of_ble_eq_true rfl, Nat.le_of_ble_eq_true rfl⟩) hG hP hD [] rfl (by decide +kernel) rfl hl.1 rfl (Nat.le_of_ble_eq_true rfl) dL_law_1241 ⟨qz_f1 (k := 0) (show cells + 2000 ≤ 600130 by omega) (by decide), qz_f2 (k := 0) (show slots + 12000 ≤ 7301080 by omega) (by decide)⟩ ?_
          change W _ _ _ _ _ _ _ _ _ _ _ _ _ _ _ (F0 m 1244 _ (.int (m_L_isIn (v r)) :: []))
          refine lv_topi (fun w_338 ew_338 => ?_)
          obtain rfl : w_338 = 1 := ew_338.trans (L_isIn.trans (by rw [h1]; rfl))
          refine lv_if_eq (tgt := 1261) hx hb dL_law_1244 (by decide) (fun c_339 => ?_) (fun c_339 => ?_)
          · exact absurd c_339 (by decide)
          · refine lv_aload_n hx hb dL_law_1247 rfl (lv_at hl 3 rfl) ?_
            refine lv_iload hx hb dL_law_1248 (lv_at hl 0 rfl) ?_
            refine va_lald hx hb hG.1 hP 0 2 rfl rfl (inb_in (inb_n (show (y / 40) % n < 40 by omega) (by decide))) dL_law_1250 ?_
            refine lv_topl (fun w_340 ew_340 => ?_)
            obtain rfl : w_340 = v ((y / 40) % n) := ew_340.trans (congrArg v (ncl (show (y / 40) % n < 2147483648 by omega)))
            refine cq_RS (R := room_1) (args := #[Value.ref b]) (y := yL_isIn) (bytes := cL_isIn) (cc := code) (maxL := 2) (nL := 23) (n := 1) (index := 15) (ret := (some .boolean)) (ws := wsL_isIn) (rm := cq_rm 0 0) (Ts := wsL_law) (own := RL) (D := D) (Y := Y) (W0 := ([] : va_W)) (wl := qz_A Y ar v h ev nn qq li bb t uu) (v := some (.int (m_L_isIn (v ((y / 40) % n))))) (st0 := [.long (v ((y / 40) % n))]) (As := [.long (v ((y / 40) % n))]) (rest := []) ⟨hx, hb, hml, hown, hts⟩ (ct_L_isIn l D Y  (v ((y / 40) % n))) (va_cwS 1 hts gL_law_L_isIn rfl rfl rfl (by decide +kernel) ⟨Nat.le_of_ble_eq_true rfl, Nat.le_of_ble_eq_true rfl⟩) hG hP hD [] rfl (by decide +kernel) rfl hl.1 rfl (Nat.le_of_ble_eq_true rfl) dL_law_1251 ⟨qz_f1 (k := 0) (show cells + 2000 ≤ 600130 by omega) (by decide), qz_f2 (k := 0) (show slots + 12000 ≤ 7301080 by omega) (by decide)⟩ ?_
            change W _ _ _ _ _ _ _ _ _ _ _ _ _ _ _ (F0 m 1254 _ (.int (m_L_isIn (v ((y / 40) % n))) :: []))
            refine lv_topi (fun w_341 ew_341 => ?_)
            obtain rfl : w_341 = 0 := ew_341.trans (L_isIn.trans (by rw [show ix (v ((y / 40) % n)) = 0 by have := ix_lt (x := v ((y / 40) % n)); omega]; rfl))
            refine lv_if_eq (tgt := 1261) hx hb dL_law_1254 (by decide) (fun c_342 => ?_) (fun c_342 => ?_)
            · refine lv_iconst (v := 0) hx hb dL_law_1261 (by decide) ?_
              refine lv_topi (fun w_343 ew_343 => ?_)
              obtain rfl : w_343 = nI 0 := ew_343.trans (show (0 : Int32) = nI 0 from rfl)
              refine lv_istore (lv' := [(20, .int (nI 0)), (19, .int (nI ((y / 40) % n))), (0, .ref b), (1, .ref o0), (2, .ref (ar 0)), (3, .ref (ar 1)), (4, .ref (ar 2)), (5, .ref (ar 5)), (6, .ref (ar 6)), (7, .ref (ar 7)), (8, .ref (ar 3)), (9, .ref (ar 8)), (10, .ref (ar 4)), (11, .long dr), (13, .int 1), (14, .int (nI tn)), (17, .int (nI y)), (18, .int (nI r))]) hx hb dL_law_1262 hl (by decide) rfl (fun ls hl => ?_)
              exact kk ((y / 40) % n) 0 ls (by have := Nat.mod_lt (y / 40) (show n > 0 by omega); omega) (Or.inr ⟨rfl, fun h9 => h2 h9.2⟩) (lv_sub hl [2, 3, 4, 5, 6, 7, 8, 9, 10, 11, 12, 13, 14, 15, 16, 17, 1, 0] rfl)
            · exact absurd c_342 (by decide)
        · exact absurd c_332 (fun h9 => hn0 ((n0 (by omega)).mp h9))
    · have hmn := Nat.mod_lt (y / 40) (show n > 0 by omega)
      refine lv_aload hx hb dL_law_1214 (lv_at hl 8 rfl) ?_
      refine lv_iconst (v := 1) hx hb dL_law_1216 (by decide) ?_
      refine va_iald hx hb hG.1 hP 3 0 rfl rfl (inb_in (by decide)) dL_law_1217 ?_
      refine lv_topi (fun w_344 ew_344 => ?_)
      obtain rfl : w_344 = nn 1 := ew_344.trans (congrArg nn (show ((1 : Int32).toNatClampNeg) = 1 by decide))
      refine lv_topi (fun w_345 ew_345 => ?_)
      obtain rfl : w_345 = nI n := ew_345.trans hN.2.1
      refine lv_if_ne (tgt := 1225) hx hb dL_law_1218 (by decide) (fun c_346 => ?_) (fun c_346 => ?_)
      · refine lv_iload hx hb dL_law_1225 (lv_at hl 14 rfl) ?_
        refine lv_bipush (v := 40) hx hb dL_law_1227 (by decide) ?_
        refine lv_idiv hx hb dL_law_1229 (by decide) ?_
        refine lv_topi (fun w_347 ew_347 => ?_)
        obtain rfl : w_347 = nI (y / 40) := ew_347.trans (nI_dv (a := y) (b := 40) (by omega) (by omega))
        refine lv_aload hx hb dL_law_1230 (lv_at hl 8 rfl) ?_
        refine lv_iconst (v := 1) hx hb dL_law_1232 (by decide) ?_
        refine va_iald hx hb hG.1 hP 3 0 rfl rfl (inb_in (by decide)) dL_law_1233 ?_
        refine lv_topi (fun w_348 ew_348 => ?_)
        obtain rfl : w_348 = nn 1 := ew_348.trans (congrArg nn (show ((1 : Int32).toNatClampNeg) = 1 by decide))
        refine lv_topi (fun w_349 ew_349 => ?_)
        obtain rfl : w_349 = nI n := ew_349.trans hN.2.1
        refine lv_irem hx hb dL_law_1234 (fun h9 => hn0 ((n0 (by omega)).mp h9)) ?_
        refine lv_topi (fun w_350 ew_350 => ?_)
        obtain rfl : w_350 = nI ((y / 40) % n) := ew_350.trans (nI_md (a := y / 40) (b := n) (by omega) (by omega))
        refine lv_istore (lv' := [(19, .int (nI ((y / 40) % n))), (0, .ref b), (1, .ref o0), (2, .ref (ar 0)), (3, .ref (ar 1)), (4, .ref (ar 2)), (5, .ref (ar 5)), (6, .ref (ar 6)), (7, .ref (ar 7)), (8, .ref (ar 3)), (9, .ref (ar 8)), (10, .ref (ar 4)), (11, .long dr), (13, .int 1), (14, .int (nI tn)), (17, .int (nI y)), (18, .int (nI r))]) hx hb dL_law_1235 hl (by decide) rfl (fun ls hl => ?_)
        refine lv_aload_n hx hb dL_law_1237 rfl (lv_at hl 3 rfl) ?_
        refine lv_iload hx hb dL_law_1238 (lv_at hl 16 rfl) ?_
        refine va_lald hx hb hG.1 hP 0 2 rfl rfl (inb_in (inb_n (show r < 40 by omega) (by decide))) dL_law_1240 ?_
        refine lv_topl (fun w_351 ew_351 => ?_)
        obtain rfl : w_351 = v r := ew_351.trans (congrArg v (ncl (show r < 2147483648 by omega)))
        refine cq_RS (R := room_1) (args := #[Value.ref b]) (y := yL_isIn) (bytes := cL_isIn) (cc := code) (maxL := 2) (nL := 23) (n := 1) (index := 15) (ret := (some .boolean)) (ws := wsL_isIn) (rm := cq_rm 0 0) (Ts := wsL_law) (own := RL) (D := D) (Y := Y) (W0 := ([] : va_W)) (wl := qz_A Y ar v h ev nn qq li bb t uu) (v := some (.int (m_L_isIn (v r)))) (st0 := [.long (v r)]) (As := [.long (v r)]) (rest := []) ⟨hx, hb, hml, hown, hts⟩ (ct_L_isIn l D Y  (v r)) (va_cwS 1 hts gL_law_L_isIn rfl rfl rfl (by decide +kernel) ⟨Nat.le_of_ble_eq_true rfl, Nat.le_of_ble_eq_true rfl⟩) hG hP hD [] rfl (by decide +kernel) rfl hl.1 rfl (Nat.le_of_ble_eq_true rfl) dL_law_1241 ⟨qz_f1 (k := 0) (show cells + 2000 ≤ 600130 by omega) (by decide), qz_f2 (k := 0) (show slots + 12000 ≤ 7301080 by omega) (by decide)⟩ ?_
        change W _ _ _ _ _ _ _ _ _ _ _ _ _ _ _ (F0 m 1244 _ (.int (m_L_isIn (v r)) :: []))
        refine lv_topi (fun w_352 ew_352 => ?_)
        obtain rfl : w_352 = 0 := ew_352.trans (L_isIn.trans (by rw [show ix (v r) = 0 by have := ix_lt (x := v r); omega]; rfl))
        refine lv_if_eq (tgt := 1261) hx hb dL_law_1244 (by decide) (fun c_353 => ?_) (fun c_353 => ?_)
        · refine lv_iconst (v := 0) hx hb dL_law_1261 (by decide) ?_
          refine lv_topi (fun w_354 ew_354 => ?_)
          obtain rfl : w_354 = nI 0 := ew_354.trans (show (0 : Int32) = nI 0 from rfl)
          refine lv_istore (lv' := [(20, .int (nI 0)), (19, .int (nI ((y / 40) % n))), (0, .ref b), (1, .ref o0), (2, .ref (ar 0)), (3, .ref (ar 1)), (4, .ref (ar 2)), (5, .ref (ar 5)), (6, .ref (ar 6)), (7, .ref (ar 7)), (8, .ref (ar 3)), (9, .ref (ar 8)), (10, .ref (ar 4)), (11, .long dr), (13, .int 1), (14, .int (nI tn)), (17, .int (nI y)), (18, .int (nI r))]) hx hb dL_law_1262 hl (by decide) rfl (fun ls hl => ?_)
          exact kk ((y / 40) % n) 0 ls (by have := Nat.mod_lt (y / 40) (show n > 0 by omega); omega) (Or.inr ⟨rfl, fun h9 => h1 h9.1⟩) (lv_sub hl [2, 3, 4, 5, 6, 7, 8, 9, 10, 11, 12, 13, 14, 15, 16, 17, 1, 0] rfl)
        · exact absurd c_353 (by decide)
      · exact absurd c_346 (fun h9 => hn0 ((n0 (by omega)).mp h9))

set_option maxHeartbeats 4000000 in
set_option maxRecDepth 100000 in
theorem qz_B9m (X : qz_X p l s m meth c b L xs D Y o0 ast ald ahi act acd ar) (hc : cells + 4000 ≤ 600130) (hsl : slots + 24000 ≤ 7301080) (I : IV n bt d U st ld hi ct cd u v h ev nn qq li bb t uu dr) (hP : va_P D vwCl (qz_A Y ar v h ev nn qq li bb t uu) H) (hPK : va_P D vwCl (lz_K Y o0 ast ald ahi act acd st ld hi ct cd) H) (hS : va_S (fun q => s.heap.size ≤ q) s.heap H locs) (go : qz_go p l e s m below meth c b D Y o0 ast ald ahi act acd ar Q 1522 tn (fun n => tn + 1 ≤ 6 → n = 0) (cells + 10) (slots + 60)) {o a : Nat} (hT : tn + 1 ≤ 6 → n = 0) (hd : d < 64) (hrr : r < 40) (ho : o < 40) (hao : (a = 1 ∧ ix (v r) = 1 ∧ ix (v o) = 1) ∨ (a = 0 ∧ ¬ (ix (v r) = 1 ∧ ix (v o) = 1))) (hl : lv_has ls 23 [(0, .ref b), (1, .ref o0), (2, .ref (ar 0)), (3, .ref (ar 1)), (4, .ref (ar 2)), (5, .ref (ar 5)), (6, .ref (ar 6)), (7, .ref (ar 7)), (8, .ref (ar 3)), (9, .ref (ar 8)), (10, .ref (ar 4)), (11, .long dr), (13, .int 1), (14, .int (nI tn)), (18, .int (nI r)), (19, .int (nI o)), (20, .int (nI a))]) : W p l e room_1 s m #[Value.ref b] below meth c H locs (cells) (slots) Q (F0 m 1264 ls []) := by
  obtain ⟨C0, hl0, hG, hB, hNC, hap⟩ := id X
  obtain ⟨hx, hb, hr, hml, hown, htb, hX, hbl, hlocks, hgv⟩ := id C0
  have hown : s.vm.findClass RL = some m.cls := hown
  have hts : ∀ w ∈ wsL_law, w.before #[Value.ref b] s = true := fun w h => htb w (wsL_law_in w h)
  have hD : va_D (fun q => s.heap.size ≤ q) (qz_A Y ar v h ev nn qq li bb t uu) := qz_apD hap qz_eA
  have hN := I.2.2.2.2.2.2.1
  have hn40 := I.2.2.2.2.2.2.2.1
  have hb10 := I.1.1.2.1
  rcases hao with ⟨rfl, h1, h2⟩ | ⟨rfl, ha⟩
  · by_cases hro : r = o
    · subst hro
      refine lv_iload hx hb dL_law_1264 (lv_at hl 16 rfl) ?_
      refine lv_topi (fun w_364 ew_364 => ?_)
      obtain rfl : w_364 = 1 := ew_364.trans (show nI 1 = 1 from rfl)
      refine lv_if_eq (tgt := 1307) hx hb dL_law_1266 (by decide) (fun c_365 => ?_) (fun c_365 => ?_)
      · exact absurd c_365 (by decide)
      · refine lv_iload hx hb dL_law_1269 (lv_at hl 14 rfl) ?_
        refine lv_iload hx hb dL_law_1271 (lv_at hl 15 rfl) ?_
        refine lv_icmp_eq (tgt := 1307) hx hb dL_law_1273 (by decide) (fun c_366 => ?_) (fun c_366 => ?_)
        · refine lv_aload_n hx hb dL_law_1307 rfl (lv_at hl 1 rfl) ?_
          refine lv_iconst (v := 5) hx hb dL_law_1308 (by decide) ?_
          refine lv_iload hx hb dL_law_1309 (lv_at hl 14 rfl) ?_
          refine lv_iload hx hb dL_law_1311 (lv_at hl 15 rfl) ?_
          refine lz_callL (l := l) (pc := 1313) (n := 4) (W0 := lz_K Y o0 ast ald ahi act acd st ld hi ct cd) (Wr := qz_A Y ar v h ev nn qq li bb t uu) (As := [.ref o0, .int 5, .int (nI r), .int (nI r)]) (rest := []) C0 hG hB hNC hap.app.2.1 lz_eK qz_eA hap.swap (ct_does_merge_ex90 l D Y o0 ast st ald ld ahi hi act ct acd cd (nI r) (nI r) (tv_merge2 I hrr h1) hl0) gL_law_L_does rfl rfl rfl (by decide +kernel) ⟨Nat.le_of_ble_eq_true rfl, Nat.le_of_ble_eq_true rfl⟩ rfl hl.1 rfl (Nat.le_of_ble_eq_true rfl) dL_law_1313 ⟨qz_f1 (k := 3) (show cells + 2000 ≤ 600130 by omega) (by decide), qz_f2 (k := 18) (show slots + 12000 ≤ 7301080 by omega) (by decide)⟩ hPK hP hS (fun H locs hPK hP hS => ?_)
          have hPK : va_P D vwCl (lz_K Y o0 ast ald ahi act acd st ld hi ct cd) H := hPK
          have hP : va_P D vwCl (qz_A Y ar v h ev nn qq li bb t uu) H := hP
          have hD : va_D (fun q => s.heap.size ≤ q) (qz_A Y ar v h ev nn qq li bb t uu) := qz_apD hap qz_eA
          change W _ _ _ _ _ _ _ _ _ _ _ _ _ _ _ (F0 m 1316 _ (.int (-12) :: []))
          refine lv_iload hx hb dL_law_1316 (lv_at hl 16 rfl) ?_
          refine lv_topi (fun w_367 ew_367 => ?_)
          obtain rfl : w_367 = 1 := ew_367.trans (show nI 1 = 1 from rfl)
          refine lv_if_ne (tgt := 1326) hx hb dL_law_1318 (by decide) (fun c_368 => ?_) (fun c_368 => ?_)
          · refine lv_iload hx hb dL_law_1326 (lv_at hl 14 rfl) ?_
            refine lv_iload hx hb dL_law_1328 (lv_at hl 15 rfl) ?_
            refine lv_icmp_ne (tgt := 1338) hx hb dL_law_1330 (by decide) (fun c_369 => ?_) (fun c_369 => ?_)
            · exact absurd (Eq.refl (nI r)) c_369
            · refine lv_bipush (v := (-12)) hx hb dL_law_1333 (by decide) ?_
              refine lv_goto (tgt := 1342) hx hb dL_law_1335 (by decide) ?_
              refine lv_icmp_ne (tgt := 1349) hx hb dL_law_1342 (by decide) (fun c_370 => ?_) (fun c_370 => ?_)
              · exact absurd c_370 (by decide)
              · refine lv_iconst (v := 1) hx hb dL_law_1345 (by decide) ?_
                refine lv_goto (tgt := 1350) hx hb dL_law_1346 (by decide) ?_
                refine lv_istore (lv' := [(13, .int 1), (0, .ref b), (1, .ref o0), (2, .ref (ar 0)), (3, .ref (ar 1)), (4, .ref (ar 2)), (5, .ref (ar 5)), (6, .ref (ar 6)), (7, .ref (ar 7)), (8, .ref (ar 3)), (9, .ref (ar 8)), (10, .ref (ar 4)), (11, .long dr), (14, .int (nI tn)), (18, .int (nI r)), (19, .int (nI r)), (20, .int (nI 1))]) hx hb dL_law_1350 hl (by decide) rfl (fun ls hl => ?_)
                refine lv_goto (tgt := 1522) hx hb dL_law_1352 (by decide) ?_
                exact W.widen (by omega) (by omega) (go _ _ _ _ _ _ _ _ _ _ _ _ _ _ _ _ _ _ _ _ H locs ls hT I hP hPK hS (lv_sub hl [1, 2, 3, 4, 5, 6, 7, 8, 9, 10, 11, 12, 0, 13] rfl))
          · exact absurd c_368 (by decide)
        · exact absurd (Eq.refl (nI r)) c_366
    · obtain ⟨nn1, hA, hN1⟩ := adds_eq (ev := ev) (K := 4) (o := r) (q := o) hN hd
      obtain ⟨v', h', t', hM, z, u', hE, hz, I'⟩ := tv_merge (r := r) (o := o) I hd hrr ho h1 h2 hro nn1 hN1
      refine lv_iload hx hb dL_law_1264 (lv_at hl 16 rfl) ?_
      refine lv_topi (fun w_355 ew_355 => ?_)
      obtain rfl : w_355 = 1 := ew_355.trans (show nI 1 = 1 from rfl)
      refine lv_if_eq (tgt := 1307) hx hb dL_law_1266 (by decide) (fun c_356 => ?_) (fun c_356 => ?_)
      · exact absurd c_356 (by decide)
      · refine lv_iload hx hb dL_law_1269 (lv_at hl 14 rfl) ?_
        refine lv_iload hx hb dL_law_1271 (lv_at hl 15 rfl) ?_
        refine lv_icmp_eq (tgt := 1307) hx hb dL_law_1273 (by decide) (fun c_357 => ?_) (fun c_357 => ?_)
        · exact absurd c_357 (fun h9 => hro ((nI_eq (by omega) (by omega)).mp h9))
        · refine lv_aload hx hb dL_law_1276 (lv_at hl 4 rfl) ?_
          refine lv_aload hx hb dL_law_1278 (lv_at hl 8 rfl) ?_
          refine lv_iconst (v := 4) hx hb dL_law_1280 (by decide) ?_
          refine lv_iload hx hb dL_law_1281 (lv_at hl 14 rfl) ?_
          refine lv_iload hx hb dL_law_1283 (lv_at hl 15 rfl) ?_
          refine qz_WS (R := room_1) (args := #[Value.ref b]) (y := yL_adds) (bytes := cL_adds) (cc := code) (maxL := 5) (nL := 23) (n := 5) (index := 153) (pc := 1285) (ret := none) (ws := wsL_adds) (rm := cq_rm 0 0) (Ts := wsL_law) (own := RL) (D := D) (Y := Y) (W0 := [(ar 2, .inl (Y.1, 64, .inl ev)), (ar 3, .inl (Y.1, 4, .inl nn))]) (W1 := [(ar 2, .inl (Y.1, 64, .inl (upd ev d (nI (4 + 8 * r + 1024 * o))))), (ar 3, .inl (Y.1, 4, .inl nn1))]) (wl := qz_A Y ar v h ev nn qq li bb t uu) (Wr := lz_K Y o0 ast ald ahi act acd st ld hi ct cd) (v := none) (As := [.ref (ar 2), .ref (ar 3), .int 4, .int (nI r), .int (nI o)]) (rest := []) (A := fun q => s.heap.size ≤ q) (qz_A Y ar v h (upd ev d (nI (4 + 8 * r + 1024 * o))) nn1 qq li bb t uu) [2, 3] [0, 1, 4, 5, 6, 7, 8] ⟨hx, hb, hml, hown, hts⟩ (ct_L_adds l D Y (ar 2) ev (ar 3) nn (4 : Int32) (nI r) (nI o) (upd ev d (nI (4 + 8 * r + 1024 * o)), nn1) hA) (va_cwS 5 hts gL_law_L_adds rfl rfl rfl (by decide +kernel) ⟨Nat.le_of_ble_eq_true rfl, Nat.le_of_ble_eq_true rfl⟩) hG hap qz_eA lz_eK hP hPK hS rfl (by decide +kernel) ⟨rfl, ⟨[(ar 0, .inl (Y.2.2, 40, .inr (.inl v))), (ar 1, .inl (Y.1, 40, .inl h)), (ar 4, .inl (Y.1, 12, .inl qq)), (ar 5, .inl (Y.2.2, 40, .inr (.inl li))), (ar 6, .inl (Y.1, 40, .inl bb)), (ar 7, .inl (Y.1, 40, .inl t)), (ar 8, .inl (Y.1, 1, .inl uu))], rfl, rfl⟩, 9, rfl, by decide +kernel⟩ rfl rfl hl.1 rfl (Nat.le_of_ble_eq_true rfl) dL_law_1285 ⟨qz_f1 (k := 0) (show cells + 2000 ≤ 600130 by omega) (by decide), qz_f2 (k := 0) (show slots + 12000 ≤ 7301080 by omega) (by decide)⟩ (fun H locs hP hPK hS => ?_)
          have hP : va_P D vwCl (qz_A Y ar v h (upd ev d (nI (4 + 8 * r + 1024 * o))) nn1 qq li bb t uu) H := hP
          have hD : va_D (fun q => s.heap.size ≤ q) (qz_A Y ar v h (upd ev d (nI (4 + 8 * r + 1024 * o))) nn1 qq li bb t uu) := qz_apD hap qz_eA
          change W _ _ _ _ _ _ _ _ _ _ _ _ _ _ _ (F0 m 1288 _ [])
          refine lv_aload_n hx hb dL_law_1288 rfl (lv_at hl 2 rfl) ?_
          refine lv_aload_n hx hb dL_law_1289 rfl (lv_at hl 3 rfl) ?_
          refine lv_aload hx hb dL_law_1290 (lv_at hl 4 rfl) ?_
          refine lv_aload hx hb dL_law_1292 (lv_at hl 8 rfl) ?_
          refine lv_aload hx hb dL_law_1294 (lv_at hl 10 rfl) ?_
          refine lv_aload hx hb dL_law_1296 (lv_at hl 5 rfl) ?_
          refine lv_aload hx hb dL_law_1298 (lv_at hl 6 rfl) ?_
          refine lv_aload hx hb dL_law_1300 (lv_at hl 7 rfl) ?_
          refine lv_aload hx hb dL_law_1302 (lv_at hl 9 rfl) ?_
          refine qz_WS (R := room_1) (args := #[Value.ref b]) (y := yL_makes) (bytes := cL_makes) (cc := code) (maxL := 13) (nL := 23) (n := 9) (index := 157) (pc := 1304) (ret := none) (ws := wsL_makes) (rm := cq_rm 3 85) (Ts := wsL_law) (own := RL) (D := D) (Y := Y) (W0 := [(ar 0, .inl (Y.2.2, 40, .inr (.inl v))), (ar 1, .inl (Y.1, 40, .inl h)), (ar 2, .inl (Y.1, 64, .inl (upd ev d (nI (4 + 8 * r + 1024 * o))))), (ar 3, .inl (Y.1, 4, .inl nn1)), (ar 4, .inl (Y.1, 12, .inl qq)), (ar 5, .inl (Y.2.2, 40, .inr (.inl li))), (ar 6, .inl (Y.1, 40, .inl bb)), (ar 7, .inl (Y.1, 40, .inl t)), (ar 8, .inl (Y.1, 1, .inl uu))]) (W1 := [(ar 0, .inl (Y.2.2, 40, .inr (.inl v'))), (ar 1, .inl (Y.1, 40, .inl h')), (ar 2, .inl (Y.1, 64, .inl (upd ev d (nI (4 + 8 * r + 1024 * o))))), (ar 3, .inl (Y.1, 4, .inl nn1)), (ar 4, .inl (Y.1, 12, .inl qq)), (ar 5, .inl (Y.2.2, 40, .inr (.inl li))), (ar 6, .inl (Y.1, 40, .inl bb)), (ar 7, .inl (Y.1, 40, .inl t')), (ar 8, .inl (Y.1, 1, .inl uu))]) (wl := qz_A Y ar v h (upd ev d (nI (4 + 8 * r + 1024 * o))) nn1 qq li bb t uu) (Wr := lz_K Y o0 ast ald ahi act acd st ld hi ct cd) (v := none) (As := [.ref (ar 0), .ref (ar 1), .ref (ar 2), .ref (ar 3), .ref (ar 4), .ref (ar 5), .ref (ar 6), .ref (ar 7), .ref (ar 8)]) (rest := []) (A := fun q => s.heap.size ≤ q) (qz_A Y ar v' h' (upd ev d (nI (4 + 8 * r + 1024 * o))) nn1 qq li bb t' uu) [0, 1, 2, 3, 4, 5, 6, 7, 8] [] ⟨hx, hb, hml, hown, hts⟩ (ct_L_makes l D Y (ar 0) v (ar 1) h (ar 2) (upd ev d (nI (4 + 8 * r + 1024 * o))) (ar 3) nn1 (ar 4) qq (ar 5) li (ar 6) bb (ar 7) t (ar 8) uu  (v', h', t') hM) (va_cwS 9 hts gL_law_L_makes rfl rfl rfl (by decide +kernel) ⟨Nat.le_of_ble_eq_true rfl, Nat.le_of_ble_eq_true rfl⟩) hG hap qz_eA lz_eK hP hPK hS rfl (by decide +kernel) ⟨rfl, ⟨[], rfl, rfl⟩, 9, rfl, by decide +kernel⟩ rfl rfl hl.1 rfl (Nat.le_of_ble_eq_true rfl) dL_law_1304 ⟨qz_f1 (k := 0) (show cells + 2000 ≤ 600130 by omega) (by decide), qz_f2 (k := 0) (show slots + 12000 ≤ 7301080 by omega) (by decide)⟩ (fun H locs hP hPK hS => ?_)
          have hP : va_P D vwCl (qz_A Y ar v' h' (upd ev d (nI (4 + 8 * r + 1024 * o))) nn1 qq li bb t' uu) H := hP
          have hD : va_D (fun q => s.heap.size ≤ q) (qz_A Y ar v' h' (upd ev d (nI (4 + 8 * r + 1024 * o))) nn1 qq li bb t' uu) := qz_apD hap qz_eA
          change W _ _ _ _ _ _ _ _ _ _ _ _ _ _ _ (F0 m 1307 _ [])
          refine lv_aload_n hx hb dL_law_1307 rfl (lv_at hl 1 rfl) ?_
          refine lv_iconst (v := 5) hx hb dL_law_1308 (by decide) ?_
          refine lv_iload hx hb dL_law_1309 (lv_at hl 14 rfl) ?_
          refine lv_iload hx hb dL_law_1311 (lv_at hl 15 rfl) ?_
          refine lz_callL (l := l) (pc := 1313) (n := 4) (W0 := lz_K Y o0 ast ald ahi act acd st ld hi ct cd) (Wr := qz_A Y ar v' h' (upd ev d (nI (4 + 8 * r + 1024 * o))) nn1 qq li bb t' uu) (As := [.ref o0, .int 5, .int (nI r), .int (nI o)]) (rest := []) C0 hG hB hNC hap.app.2.1 lz_eK qz_eA hap.swap (ct_does_merge_ok l D Y o0 ast st ald ld ahi hi act ct acd cd (nI r) (nI o) z hE hl0) gL_law_L_does rfl rfl rfl (by decide +kernel) ⟨Nat.le_of_ble_eq_true rfl, Nat.le_of_ble_eq_true rfl⟩ rfl hl.1 rfl (Nat.le_of_ble_eq_true rfl) dL_law_1313 ⟨qz_f1 (k := 3) (show cells + 2000 ≤ 600130 by omega) (by decide), qz_f2 (k := 18) (show slots + 12000 ≤ 7301080 by omega) (by decide)⟩ hPK hP hS (fun H locs hPK hP hS => ?_)
          have hPK : va_P D vwCl (lz_K Y o0 ast ald ahi act acd st ld z.1.1 z.1.2 cd) H := hPK
          have hP : va_P D vwCl (qz_A Y ar v' h' (upd ev d (nI (4 + 8 * r + 1024 * o))) nn1 qq li bb t' uu) H := hP
          have hD : va_D (fun q => s.heap.size ≤ q) (qz_A Y ar v' h' (upd ev d (nI (4 + 8 * r + 1024 * o))) nn1 qq li bb t' uu) := qz_apD hap qz_eA
          change W _ _ _ _ _ _ _ _ _ _ _ _ _ _ _ (F0 m 1316 _ (.int z.2 :: []))
          refine lv_topi (fun w_358 ew_358 => ?_)
          obtain rfl : w_358 = h' o := ew_358.trans hz
          refine lv_iload hx hb dL_law_1316 (lv_at hl 16 rfl) ?_
          refine lv_topi (fun w_359 ew_359 => ?_)
          obtain rfl : w_359 = 1 := ew_359.trans (show nI 1 = 1 from rfl)
          refine lv_if_ne (tgt := 1326) hx hb dL_law_1318 (by decide) (fun c_360 => ?_) (fun c_360 => ?_)
          · refine lv_iload hx hb dL_law_1326 (lv_at hl 14 rfl) ?_
            refine lv_iload hx hb dL_law_1328 (lv_at hl 15 rfl) ?_
            refine lv_icmp_ne (tgt := 1338) hx hb dL_law_1330 (by decide) (fun c_361 => ?_) (fun c_361 => ?_)
            · refine lv_aload_n hx hb dL_law_1338 rfl (lv_at hl 3 rfl) ?_
              refine lv_iload hx hb dL_law_1339 (lv_at hl 15 rfl) ?_
              refine va_iald hx hb hG.1 hP 1 0 rfl rfl (inb_in (inb_n (show o < 40 by omega) (by decide))) dL_law_1341 ?_
              refine lv_topi (fun w_362 ew_362 => ?_)
              obtain rfl : w_362 = h' o := ew_362.trans (congrArg h' (ncl (show o < 2147483648 by omega)))
              refine lv_icmp_ne (tgt := 1349) hx hb dL_law_1342 (by decide) (fun c_363 => ?_) (fun c_363 => ?_)
              · exact absurd (Eq.refl (h' o)) c_363
              · refine lv_iconst (v := 1) hx hb dL_law_1345 (by decide) ?_
                refine lv_goto (tgt := 1350) hx hb dL_law_1346 (by decide) ?_
                refine lv_istore (lv' := [(13, .int 1), (0, .ref b), (1, .ref o0), (2, .ref (ar 0)), (3, .ref (ar 1)), (4, .ref (ar 2)), (5, .ref (ar 5)), (6, .ref (ar 6)), (7, .ref (ar 7)), (8, .ref (ar 3)), (9, .ref (ar 8)), (10, .ref (ar 4)), (11, .long dr), (14, .int (nI tn)), (18, .int (nI r)), (19, .int (nI o)), (20, .int (nI 1))]) hx hb dL_law_1350 hl (by decide) rfl (fun ls hl => ?_)
                refine lv_goto (tgt := 1522) hx hb dL_law_1352 (by decide) ?_
                exact W.widen (by omega) (by omega) (go _ _ _ _ _ _ _ _ _ _ _ _ _ _ _ _ _ _ _ _ H locs ls hT I' hP hPK hS (lv_sub hl [1, 2, 3, 4, 5, 6, 7, 8, 9, 10, 11, 12, 0, 13] rfl))
            · exact absurd c_361 (fun h9 => hro ((nI_eq (by omega) (by omega)).mp h9))
          · exact absurd c_360 (by decide)
  · by_cases h1 : ix (v r) = 1
    · have h2 : ¬ ix (v o) = 1 := fun h9 => ha ⟨h1, h9⟩
      refine lv_iload hx hb dL_law_1264 (lv_at hl 16 rfl) ?_
      refine lv_topi (fun w_371 ew_371 => ?_)
      obtain rfl : w_371 = 0 := ew_371.trans (show nI 0 = 0 from rfl)
      refine lv_if_eq (tgt := 1307) hx hb dL_law_1266 (by decide) (fun c_372 => ?_) (fun c_372 => ?_)
      · refine lv_aload_n hx hb dL_law_1307 rfl (lv_at hl 1 rfl) ?_
        refine lv_iconst (v := 5) hx hb dL_law_1308 (by decide) ?_
        refine lv_iload hx hb dL_law_1309 (lv_at hl 14 rfl) ?_
        refine lv_iload hx hb dL_law_1311 (lv_at hl 15 rfl) ?_
        refine lz_callL (l := l) (pc := 1313) (n := 4) (W0 := lz_K Y o0 ast ald ahi act acd st ld hi ct cd) (Wr := qz_A Y ar v h ev nn qq li bb t uu) (As := [.ref o0, .int 5, .int (nI r), .int (nI o)]) (rest := []) C0 hG hB hNC hap.app.2.1 lz_eK qz_eA hap.swap (ct_does_merge_ex88 l D Y o0 ast st ald ld ahi hi act ct acd cd (nI r) (nI o) (tv_merge1 I hrr h1 ho h2) hl0) gL_law_L_does rfl rfl rfl (by decide +kernel) ⟨Nat.le_of_ble_eq_true rfl, Nat.le_of_ble_eq_true rfl⟩ rfl hl.1 rfl (Nat.le_of_ble_eq_true rfl) dL_law_1313 ⟨qz_f1 (k := 3) (show cells + 2000 ≤ 600130 by omega) (by decide), qz_f2 (k := 18) (show slots + 12000 ≤ 7301080 by omega) (by decide)⟩ hPK hP hS (fun H locs hPK hP hS => ?_)
        have hPK : va_P D vwCl (lz_K Y o0 ast ald ahi act acd st ld hi ct cd) H := hPK
        have hP : va_P D vwCl (qz_A Y ar v h ev nn qq li bb t uu) H := hP
        have hD : va_D (fun q => s.heap.size ≤ q) (qz_A Y ar v h ev nn qq li bb t uu) := qz_apD hap qz_eA
        change W _ _ _ _ _ _ _ _ _ _ _ _ _ _ _ (F0 m 1316 _ (.int (-11) :: []))
        refine lv_iload hx hb dL_law_1316 (lv_at hl 16 rfl) ?_
        refine lv_topi (fun w_373 ew_373 => ?_)
        obtain rfl : w_373 = 0 := ew_373.trans (show nI 0 = 0 from rfl)
        refine lv_if_ne (tgt := 1326) hx hb dL_law_1318 (by decide) (fun c_374 => ?_) (fun c_374 => ?_)
        · exact absurd c_374 (by decide)
        · refine lv_bipush (v := (-11)) hx hb dL_law_1321 (by decide) ?_
          refine lv_goto (tgt := 1342) hx hb dL_law_1323 (by decide) ?_
          refine lv_icmp_ne (tgt := 1349) hx hb dL_law_1342 (by decide) (fun c_375 => ?_) (fun c_375 => ?_)
          · exact absurd c_375 (by decide)
          · refine lv_iconst (v := 1) hx hb dL_law_1345 (by decide) ?_
            refine lv_goto (tgt := 1350) hx hb dL_law_1346 (by decide) ?_
            refine lv_istore (lv' := [(13, .int 1), (0, .ref b), (1, .ref o0), (2, .ref (ar 0)), (3, .ref (ar 1)), (4, .ref (ar 2)), (5, .ref (ar 5)), (6, .ref (ar 6)), (7, .ref (ar 7)), (8, .ref (ar 3)), (9, .ref (ar 8)), (10, .ref (ar 4)), (11, .long dr), (14, .int (nI tn)), (18, .int (nI r)), (19, .int (nI o)), (20, .int (nI 0))]) hx hb dL_law_1350 hl (by decide) rfl (fun ls hl => ?_)
            refine lv_goto (tgt := 1522) hx hb dL_law_1352 (by decide) ?_
            exact W.widen (by omega) (by omega) (go _ _ _ _ _ _ _ _ _ _ _ _ _ _ _ _ _ _ _ _ H locs ls hT I hP hPK hS (lv_sub hl [1, 2, 3, 4, 5, 6, 7, 8, 9, 10, 11, 12, 0, 13] rfl))
      · exact absurd c_372 (by decide)
    · refine lv_iload hx hb dL_law_1264 (lv_at hl 16 rfl) ?_
      refine lv_topi (fun w_376 ew_376 => ?_)
      obtain rfl : w_376 = 0 := ew_376.trans (show nI 0 = 0 from rfl)
      refine lv_if_eq (tgt := 1307) hx hb dL_law_1266 (by decide) (fun c_377 => ?_) (fun c_377 => ?_)
      · refine lv_aload_n hx hb dL_law_1307 rfl (lv_at hl 1 rfl) ?_
        refine lv_iconst (v := 5) hx hb dL_law_1308 (by decide) ?_
        refine lv_iload hx hb dL_law_1309 (lv_at hl 14 rfl) ?_
        refine lv_iload hx hb dL_law_1311 (lv_at hl 15 rfl) ?_
        refine lz_callL (l := l) (pc := 1313) (n := 4) (W0 := lz_K Y o0 ast ald ahi act acd st ld hi ct cd) (Wr := qz_A Y ar v h ev nn qq li bb t uu) (As := [.ref o0, .int 5, .int (nI r), .int (nI o)]) (rest := []) C0 hG hB hNC hap.app.2.1 lz_eK qz_eA hap.swap (ct_does_merge_ex88 l D Y o0 ast st ald ld ahi hi act ct acd cd (nI r) (nI o) (tv_merge0 I hrr h1) hl0) gL_law_L_does rfl rfl rfl (by decide +kernel) ⟨Nat.le_of_ble_eq_true rfl, Nat.le_of_ble_eq_true rfl⟩ rfl hl.1 rfl (Nat.le_of_ble_eq_true rfl) dL_law_1313 ⟨qz_f1 (k := 3) (show cells + 2000 ≤ 600130 by omega) (by decide), qz_f2 (k := 18) (show slots + 12000 ≤ 7301080 by omega) (by decide)⟩ hPK hP hS (fun H locs hPK hP hS => ?_)
        have hPK : va_P D vwCl (lz_K Y o0 ast ald ahi act acd st ld hi ct cd) H := hPK
        have hP : va_P D vwCl (qz_A Y ar v h ev nn qq li bb t uu) H := hP
        have hD : va_D (fun q => s.heap.size ≤ q) (qz_A Y ar v h ev nn qq li bb t uu) := qz_apD hap qz_eA
        change W _ _ _ _ _ _ _ _ _ _ _ _ _ _ _ (F0 m 1316 _ (.int (-11) :: []))
        refine lv_iload hx hb dL_law_1316 (lv_at hl 16 rfl) ?_
        refine lv_topi (fun w_378 ew_378 => ?_)
        obtain rfl : w_378 = 0 := ew_378.trans (show nI 0 = 0 from rfl)
        refine lv_if_ne (tgt := 1326) hx hb dL_law_1318 (by decide) (fun c_379 => ?_) (fun c_379 => ?_)
        · exact absurd c_379 (by decide)
        · refine lv_bipush (v := (-11)) hx hb dL_law_1321 (by decide) ?_
          refine lv_goto (tgt := 1342) hx hb dL_law_1323 (by decide) ?_
          refine lv_icmp_ne (tgt := 1349) hx hb dL_law_1342 (by decide) (fun c_380 => ?_) (fun c_380 => ?_)
          · exact absurd c_380 (by decide)
          · refine lv_iconst (v := 1) hx hb dL_law_1345 (by decide) ?_
            refine lv_goto (tgt := 1350) hx hb dL_law_1346 (by decide) ?_
            refine lv_istore (lv' := [(13, .int 1), (0, .ref b), (1, .ref o0), (2, .ref (ar 0)), (3, .ref (ar 1)), (4, .ref (ar 2)), (5, .ref (ar 5)), (6, .ref (ar 6)), (7, .ref (ar 7)), (8, .ref (ar 3)), (9, .ref (ar 8)), (10, .ref (ar 4)), (11, .long dr), (14, .int (nI tn)), (18, .int (nI r)), (19, .int (nI o)), (20, .int (nI 0))]) hx hb dL_law_1350 hl (by decide) rfl (fun ls hl => ?_)
            refine lv_goto (tgt := 1522) hx hb dL_law_1352 (by decide) ?_
            exact W.widen (by omega) (by omega) (go _ _ _ _ _ _ _ _ _ _ _ _ _ _ _ _ _ _ _ _ H locs ls hT I hP hPK hS (lv_sub hl [1, 2, 3, 4, 5, 6, 7, 8, 9, 10, 11, 12, 0, 13] rfl))
      · exact absurd c_377 (by decide)
end LAW
