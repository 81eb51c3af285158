section LAW
variable {p : Program} {l : Launch} {e : Env} {s : State} {m : MethodId} {below : List Frame} {meth : Method} {c : Code} {H : Heap} {locs : List Loc} {cells slots : Nat} {Q : State → Prop} {ls : Array Slot} {D : va_G} {Y : cq_Y} {b L : Nat} {xs : Nat → Int32} {o0 : Nat} {ast ald ahi act acd ar : Nat → Nat}
variable {n bt d U tn K y r : Nat} {st : SetS} {ld : LodS} {hi : HisS} {ct cd : CatS} {u : MdlS} {v li : FL} {h ev nn qq bb t uu : FI} {dr : Int64}
set_option maxHeartbeats 4000000 in
set_option maxRecDepth 100000 in
theorem qz_B8 (X : qz_X p l s m meth c b L xs D Y o0 ast ald ahi act acd ar) (hc : cells + 4000 ≤ 600130) (hsl : slots + 24000 ≤ 7301080) (I : IV n bt d U st ld hi ct cd u v h ev nn qq li bb t uu dr) (hP : va_P D vwCl (qz_A Y ar v h ev nn qq li bb t uu) H) (hPK : va_P D vwCl (lz_K Y o0 ast ald ahi act acd st ld hi ct cd) H) (hS : va_S (fun q => s.heap.size ≤ q) s.heap H locs)  (hy : y < 2147483648) (hrr : r < 40) (kk : ∀ (on : Nat) (ls : Array Slot), on < 2 → lv_has ls 23 [(0, .ref b), (1, .ref o0), (2, .ref (ar 0)), (3, .ref (ar 1)), (4, .ref (ar 2)), (5, .ref (ar 5)), (6, .ref (ar 6)), (7, .ref (ar 7)), (8, .ref (ar 3)), (9, .ref (ar 8)), (10, .ref (ar 4)), (11, .long dr), (13, .int 1), (14, .int (nI tn)), (16, .int (nI K)), (17, .int (nI y)), (18, .int (nI r)), (19, .int (nI ((y / 40) % 4))), (20, .int (nI on)), (21, .int (nI (ix (v r)))), (22, .int (nI (gx (v r) ((y / 40) % 4))))] → W p l e room_1 s m #[Value.ref b] below meth c H locs (cells) (slots) Q (F0 m 1056 ls [])) (hl : lv_has ls 23 [(0, .ref b), (1, .ref o0), (2, .ref (ar 0)), (3, .ref (ar 1)), (4, .ref (ar 2)), (5, .ref (ar 5)), (6, .ref (ar 6)), (7, .ref (ar 7)), (8, .ref (ar 3)), (9, .ref (ar 8)), (10, .ref (ar 4)), (11, .long dr), (13, .int 1), (14, .int (nI tn)), (16, .int (nI K)), (17, .int (nI y)), (18, .int (nI r))]) : W p l e room_1 s m #[Value.ref b] below meth c H locs (cells) (slots) Q (F0 m 1001 ls []) := by
  obtain ⟨C0, hl0, hG, hB, hNC, hap⟩ := id X
  obtain ⟨hx, hb, hr, hml, hown, htb, hX, hbl, hlocks, hgv⟩ := id C0
  have hown : s.vm.findClass RL = some m.cls := hown
  have hts : ∀ w ∈ wsL_law, w.before #[Value.ref b] s = true := fun w h => htb w (wsL_law_in w h)
  have hD : va_D (fun q => s.heap.size ≤ q) (qz_A Y ar v h ev nn qq li bb t uu) := qz_apD hap qz_eA
  have hN := I.2.2.2.2.2.2.1
  have hn40 := I.2.2.2.2.2.2.2.1
  have hb10 := I.1.1.2.1
  by_cases h1 : (y / 160) % 3 = 0
  · by_cases h2 : gx (v r) ((y / 40) % 4) = 0
    · refine lv_iload hx hb dL_law_1001 (lv_at hl 15 rfl) ?_
      refine lv_bipush (v := 40) hx hb dL_law_1003 (by decide) ?_
      refine lv_idiv hx hb dL_law_1005 (by decide) ?_
      refine lv_topi (fun w_166 ew_166 => ?_)
      obtain rfl : w_166 = nI (y / 40) := ew_166.trans (nI_dv (a := y) (b := 40) (by omega) (by omega))
      refine lv_iconst (v := 4) hx hb dL_law_1006 (by decide) ?_
      refine lv_irem hx hb dL_law_1007 (by decide) ?_
      refine lv_topi (fun w_167 ew_167 => ?_)
      obtain rfl : w_167 = nI ((y / 40) % 4) := ew_167.trans (nI_md (a := y / 40) (b := 4) (by omega) (by omega))
      refine lv_istore (lv' := [(19, .int (nI ((y / 40) % 4))), (0, .ref b), (1, .ref o0), (2, .ref (ar 0)), (3, .ref (ar 1)), (4, .ref (ar 2)), (5, .ref (ar 5)), (6, .ref (ar 6)), (7, .ref (ar 7)), (8, .ref (ar 3)), (9, .ref (ar 8)), (10, .ref (ar 4)), (11, .long dr), (13, .int 1), (14, .int (nI tn)), (16, .int (nI K)), (17, .int (nI y)), (18, .int (nI r))]) hx hb dL_law_1008 hl (by decide) rfl (fun ls hl => ?_)
      refine lv_iload hx hb dL_law_1010 (lv_at hl 16 rfl) ?_
      refine lv_sipush (v := 160) hx hb dL_law_1012 (by decide) ?_
      refine lv_idiv hx hb dL_law_1015 (by decide) ?_
      refine lv_topi (fun w_168 ew_168 => ?_)
      obtain rfl : w_168 = nI (y / 160) := ew_168.trans (nI_dv (a := y) (b := 160) (by omega) (by omega))
      refine lv_iconst (v := 3) hx hb dL_law_1016 (by decide) ?_
      refine lv_irem hx hb dL_law_1017 (by decide) ?_
      refine lv_topi (fun w_169 ew_169 => ?_)
      obtain rfl : w_169 = nI ((y / 160) % 3) := ew_169.trans (nI_md (a := y / 160) (b := 3) (by omega) (by omega))
      refine lv_if_le (tgt := 1025) hx hb dL_law_1018 (by decide) (fun c_170 => ?_) (fun c_170 => ?_)
      · refine lv_iconst (v := 0) hx hb dL_law_1025 (by decide) ?_
        refine lv_topi (fun w_171 ew_171 => ?_)
        obtain rfl : w_171 = nI 0 := ew_171.trans (show (0 : Int32) = nI 0 from rfl)
        refine lv_istore (lv' := [(20, .int (nI 0)), (19, .int (nI ((y / 40) % 4))), (0, .ref b), (1, .ref o0), (2, .ref (ar 0)), (3, .ref (ar 1)), (4, .ref (ar 2)), (5, .ref (ar 5)), (6, .ref (ar 6)), (7, .ref (ar 7)), (8, .ref (ar 3)), (9, .ref (ar 8)), (10, .ref (ar 4)), (11, .long dr), (13, .int 1), (14, .int (nI tn)), (16, .int (nI K)), (17, .int (nI y)), (18, .int (nI r))]) hx hb dL_law_1026 hl (by decide) rfl (fun ls hl => ?_)
        refine lv_aload_n hx hb dL_law_1028 rfl (lv_at hl 4 rfl) ?_
        refine lv_iload hx hb dL_law_1029 (lv_at hl 18 rfl) ?_
        refine va_lald hx hb hG.1 hP 0 2 rfl rfl (inb_in (inb_n (show r < 40 by omega) (by decide))) dL_law_1031 ?_
        refine lv_topl (fun w_172 ew_172 => ?_)
        obtain rfl : w_172 = v r := ew_172.trans (congrArg v (ncl (show r < 2147483648 by omega)))
        refine cq_RS (R := room_1) (args := #[Value.ref b]) (y := yL_isIn) (bytes := cL_isIn) (cc := code) (maxL := 2) (nL := 23) (n := 1) (index := 15) (ret := (some .boolean)) (ws := wsL_isIn) (rm := cq_rm 0 0) (Ts := wsL_law) (own := RL) (D := D) (Y := Y) (W0 := ([] : va_W)) (wl := qz_A Y ar v h ev nn qq li bb t uu) (v := some (.int (m_L_isIn (v r)))) (st0 := [.long (v r)]) (As := [.long (v r)]) (rest := []) ⟨hx, hb, hml, hown, hts⟩ (ct_L_isIn l D Y  (v r)) (va_cwS 1 hts gL_law_L_isIn rfl rfl rfl (by decide +kernel) ⟨Nat.le_of_ble_eq_true rfl, Nat.le_of_ble_eq_true rfl⟩) hG hP hD [] rfl (by decide +kernel) rfl hl.1 rfl (Nat.le_of_ble_eq_true rfl) dL_law_1032 ⟨qz_f1 (k := 0) (show cells + 2000 ≤ 600130 by omega) (by decide), qz_f2 (k := 0) (show slots + 12000 ≤ 7301080 by omega) (by decide)⟩ ?_
        change W _ _ _ _ _ _ _ _ _ _ _ _ _ _ _ (F0 m 1035 _ (.int (m_L_isIn (v r)) :: []))
        refine lv_topi (fun w_173 ew_173 => ?_)
        obtain rfl : w_173 = nI (ix (v r)) := ew_173.trans L_isIn
        refine lv_istore (lv' := [(21, .int (nI (ix (v r)))), (20, .int (nI 0)), (19, .int (nI ((y / 40) % 4))), (0, .ref b), (1, .ref o0), (2, .ref (ar 0)), (3, .ref (ar 1)), (4, .ref (ar 2)), (5, .ref (ar 5)), (6, .ref (ar 6)), (7, .ref (ar 7)), (8, .ref (ar 3)), (9, .ref (ar 8)), (10, .ref (ar 4)), (11, .long dr), (13, .int 1), (14, .int (nI tn)), (16, .int (nI K)), (17, .int (nI y)), (18, .int (nI r))]) hx hb dL_law_1035 hl (by decide) rfl (fun ls hl => ?_)
        refine lv_aload_n hx hb dL_law_1037 rfl (lv_at hl 5 rfl) ?_
        refine lv_iload hx hb dL_law_1038 (lv_at hl 19 rfl) ?_
        refine va_lald hx hb hG.1 hP 0 2 rfl rfl (inb_in (inb_n (show r < 40 by omega) (by decide))) dL_law_1040 ?_
        refine lv_topl (fun w_174 ew_174 => ?_)
        obtain rfl : w_174 = v r := ew_174.trans (congrArg v (ncl (show r < 2147483648 by omega)))
        refine lv_iload hx hb dL_law_1041 (lv_at hl 2 rfl) ?_
        refine cq_RS (R := room_1) (args := #[Value.ref b]) (y := yL_isKept) (bytes := cL_isKept) (cc := code) (maxL := 3) (nL := 23) (n := 2) (index := 41) (ret := (some .boolean)) (ws := wsL_isKept) (rm := cq_rm 0 0) (Ts := wsL_law) (own := RL) (D := D) (Y := Y) (W0 := ([] : va_W)) (wl := qz_A Y ar v h ev nn qq li bb t uu) (v := some (.int (m_L_isKept (v r) (nI ((y / 40) % 4))))) (st0 := [.int (nI ((y / 40) % 4)), .long (v r)]) (As := [.long (v r), .int (nI ((y / 40) % 4))]) (rest := []) ⟨hx, hb, hml, hown, hts⟩ (ct_L_isKept l D Y  (v r) (nI ((y / 40) % 4))) (va_cwS 2 hts gL_law_L_isKept rfl rfl rfl (by decide +kernel) ⟨Nat.le_of_ble_eq_true rfl, Nat.le_of_ble_eq_true rfl⟩) hG hP hD [] rfl (by decide +kernel) rfl hl.1 rfl (Nat.le_of_ble_eq_true rfl) dL_law_1043 ⟨qz_f1 (k := 0) (show cells + 2000 ≤ 600130 by omega) (by decide), qz_f2 (k := 0) (show slots + 12000 ≤ 7301080 by omega) (by decide)⟩ ?_
        change W _ _ _ _ _ _ _ _ _ _ _ _ _ _ _ (F0 m 1046 _ (.int (m_L_isKept (v r) (nI ((y / 40) % 4))) :: []))
        refine lv_topi (fun w_175 ew_175 => ?_)
        obtain rfl : w_175 = nI (gx (v r) ((y / 40) % 4)) := ew_175.trans (L_isKept (by omega))
        refine lv_if_eq (tgt := 1053) hx hb dL_law_1046 (by decide) (fun c_176 => ?_) (fun c_176 => ?_)
        · refine lv_iconst (v := 0) hx hb dL_law_1053 (by decide) ?_
          refine lv_topi (fun w_177 ew_177 => ?_)
          obtain rfl : w_177 = nI (gx (v r) ((y / 40) % 4)) := ew_177.trans (show (0 : Int32) = nI (gx (v r) ((y / 40) % 4)) by rw [h2]; rfl)
          refine lv_istore (lv' := [(22, .int (nI (gx (v r) ((y / 40) % 4)))), (21, .int (nI (ix (v r)))), (20, .int (nI 0)), (19, .int (nI ((y / 40) % 4))), (0, .ref b), (1, .ref o0), (2, .ref (ar 0)), (3, .ref (ar 1)), (4, .ref (ar 2)), (5, .ref (ar 5)), (6, .ref (ar 6)), (7, .ref (ar 7)), (8, .ref (ar 3)), (9, .ref (ar 8)), (10, .ref (ar 4)), (11, .long dr), (13, .int 1), (14, .int (nI tn)), (16, .int (nI K)), (17, .int (nI y)), (18, .int (nI r))]) hx hb dL_law_1054 hl (by decide) rfl (fun ls hl => ?_)
          exact kk 0 ls (by decide) (lv_sub hl [4, 5, 6, 7, 8, 9, 10, 11, 12, 13, 14, 15, 16, 17, 18, 19, 20, 3, 2, 1, 0] rfl)
        · exact absurd ((n0 (by have := gx_lt (x := v r) (k := ((y / 40) % 4)); omega)).mpr h2) c_176
      · exact absurd ((nle0 (by omega)).mpr h1) c_170
    · refine lv_iload hx hb dL_law_1001 (lv_at hl 15 rfl) ?_
      refine lv_bipush (v := 40) hx hb dL_law_1003 (by decide) ?_
      refine lv_idiv hx hb dL_law_1005 (by decide) ?_
      refine lv_topi (fun w_178 ew_178 => ?_)
      obtain rfl : w_178 = nI (y / 40) := ew_178.trans (nI_dv (a := y) (b := 40) (by omega) (by omega))
      refine lv_iconst (v := 4) hx hb dL_law_1006 (by decide) ?_
      refine lv_irem hx hb dL_law_1007 (by decide) ?_
      refine lv_topi (fun w_179 ew_179 => ?_)
      obtain rfl : w_179 = nI ((y / 40) % 4) := ew_179.trans (nI_md (a := y / 40) (b := 4) (by omega) (by omega))
      refine lv_istore (lv' := [(19, .int (nI ((y / 40) % 4))), (0, .ref b), (1, .ref o0), (2, .ref (ar 0)), (3, .ref (ar 1)), (4, .ref (ar 2)), (5, .ref (ar 5)), (6, .ref (ar 6)), (7, .ref (ar 7)), (8, .ref (ar 3)), (9, .ref (ar 8)), (10, .ref (ar 4)), (11, .long dr), (13, .int 1), (14, .int (nI tn)), (16, .int (nI K)), (17, .int (nI y)), (18, .int (nI r))]) hx hb dL_law_1008 hl (by decide) rfl (fun ls hl => ?_)
      refine lv_iload hx hb dL_law_1010 (lv_at hl 16 rfl) ?_
      refine lv_sipush (v := 160) hx hb dL_law_1012 (by decide) ?_
      refine lv_idiv hx hb dL_law_1015 (by decide) ?_
      refine lv_topi (fun w_180 ew_180 => ?_)
      obtain rfl : w_180 = nI (y / 160) := ew_180.trans (nI_dv (a := y) (b := 160) (by omega) (by omega))
      refine lv_iconst (v := 3) hx hb dL_law_1016 (by decide) ?_
      refine lv_irem hx hb dL_law_1017 (by decide) ?_
      refine lv_topi (fun w_181 ew_181 => ?_)
      obtain rfl : w_181 = nI ((y / 160) % 3) := ew_181.trans (nI_md (a := y / 160) (b := 3) (by omega) (by omega))
      refine lv_if_le (tgt := 1025) hx hb dL_law_1018 (by decide) (fun c_182 => ?_) (fun c_182 => ?_)
      · refine lv_iconst (v := 0) hx hb dL_law_1025 (by decide) ?_
        refine lv_topi (fun w_183 ew_183 => ?_)
        obtain rfl : w_183 = nI 0 := ew_183.trans (show (0 : Int32) = nI 0 from rfl)
        refine lv_istore (lv' := [(20, .int (nI 0)), (19, .int (nI ((y / 40) % 4))), (0, .ref b), (1, .ref o0), (2, .ref (ar 0)), (3, .ref (ar 1)), (4, .ref (ar 2)), (5, .ref (ar 5)), (6, .ref (ar 6)), (7, .ref (ar 7)), (8, .ref (ar 3)), (9, .ref (ar 8)), (10, .ref (ar 4)), (11, .long dr), (13, .int 1), (14, .int (nI tn)), (16, .int (nI K)), (17, .int (nI y)), (18, .int (nI r))]) hx hb dL_law_1026 hl (by decide) rfl (fun ls hl => ?_)
        refine lv_aload_n hx hb dL_law_1028 rfl (lv_at hl 4 rfl) ?_
        refine lv_iload hx hb dL_law_1029 (lv_at hl 18 rfl) ?_
        refine va_lald hx hb hG.1 hP 0 2 rfl rfl (inb_in (inb_n (show r < 40 by omega) (by decide))) dL_law_1031 ?_
        refine lv_topl (fun w_184 ew_184 => ?_)
        obtain rfl : w_184 = v r := ew_184.trans (congrArg v (ncl (show r < 2147483648 by omega)))
        refine cq_RS (R := room_1) (args := #[Value.ref b]) (y := yL_isIn) (bytes := cL_isIn) (cc := code) (maxL := 2) (nL := 23) (n := 1) (index := 15) (ret := (some .boolean)) (ws := wsL_isIn) (rm := cq_rm 0 0) (Ts := wsL_law) (own := RL) (D := D) (Y := Y) (W0 := ([] : va_W)) (wl := qz_A Y ar v h ev nn qq li bb t uu) (v := some (.int (m_L_isIn (v r)))) (st0 := [.long (v r)]) (As := [.long (v r)]) (rest := []) ⟨hx, hb, hml, hown, hts⟩ (ct_L_isIn l D Y  (v r)) (va_cwS 1 hts gL_law_L_isIn rfl rfl rfl (by decide +kernel) ⟨Nat.le_of_ble_eq_true rfl, Nat.le_of_ble_eq_true rfl⟩) hG hP hD [] rfl (by decide +kernel) rfl hl.1 rfl (Nat.le_of_ble_eq_true rfl) dL_law_1032 ⟨qz_f1 (k := 0) (show cells + 2000 ≤ 600130 by omega) (by decide), qz_f2 (k := 0) (show slots + 12000 ≤ 7301080 by omega) (by decide)⟩ ?_
        change W _ _ _ _ _ _ _ _ _ _ _ _ _ _ _ (F0 m 1035 _ (.int (m_L_isIn (v r)) :: []))
        refine lv_topi (fun w_185 ew_185 => ?_)
        obtain rfl : w_185 = nI (ix (v r)) := ew_185.trans L_isIn
        refine lv_istore (lv' := [(21, .int (nI (ix (v r)))), (20, .int (nI 0)), (19, .int (nI ((y / 40) % 4))), (0, .ref b), (1, .ref o0), (2, .ref (ar 0)), (3, .ref (ar 1)), (4, .ref (ar 2)), (5, .ref (ar 5)), (6, .ref (ar 6)), (7, .ref (ar 7)), (8, .ref (ar 3)), (9, .ref (ar 8)), (10, .ref (ar 4)), (11, .long dr), (13, .int 1), (14, .int (nI tn)), (16, .int (nI K)), (17, .int (nI y)), (18, .int (nI r))]) hx hb dL_law_1035 hl (by decide) rfl (fun ls hl => ?_)
        refine lv_aload_n hx hb dL_law_1037 rfl (lv_at hl 5 rfl) ?_
        refine lv_iload hx hb dL_law_1038 (lv_at hl 19 rfl) ?_
        refine va_lald hx hb hG.1 hP 0 2 rfl rfl (inb_in (inb_n (show r < 40 by omega) (by decide))) dL_law_1040 ?_
        refine lv_topl (fun w_186 ew_186 => ?_)
        obtain rfl : w_186 = v r := ew_186.trans (congrArg v (ncl (show r < 2147483648 by omega)))
        refine lv_iload hx hb dL_law_1041 (lv_at hl 2 rfl) ?_
        refine cq_RS (R := room_1) (args := #[Value.ref b]) (y := yL_isKept) (bytes := cL_isKept) (cc := code) (maxL := 3) (nL := 23) (n := 2) (index := 41) (ret := (some .boolean)) (ws := wsL_isKept) (rm := cq_rm 0 0) (Ts := wsL_law) (own := RL) (D := D) (Y := Y) (W0 := ([] : va_W)) (wl := qz_A Y ar v h ev nn qq li bb t uu) (v := some (.int (m_L_isKept (v r) (nI ((y / 40) % 4))))) (st0 := [.int (nI ((y / 40) % 4)), .long (v r)]) (As := [.long (v r), .int (nI ((y / 40) % 4))]) (rest := []) ⟨hx, hb, hml, hown, hts⟩ (ct_L_isKept l D Y  (v r) (nI ((y / 40) % 4))) (va_cwS 2 hts gL_law_L_isKept rfl rfl rfl (by decide +kernel) ⟨Nat.le_of_ble_eq_true rfl, Nat.le_of_ble_eq_true rfl⟩) hG hP hD [] rfl (by decide +kernel) rfl hl.1 rfl (Nat.le_of_ble_eq_true rfl) dL_law_1043 ⟨qz_f1 (k := 0) (show cells + 2000 ≤ 600130 by omega) (by decide), qz_f2 (k := 0) (show slots + 12000 ≤ 7301080 by omega) (by decide)⟩ ?_
        change W _ _ _ _ _ _ _ _ _ _ _ _ _ _ _ (F0 m 1046 _ (.int (m_L_isKept (v r) (nI ((y / 40) % 4))) :: []))
        refine lv_topi (fun w_187 ew_187 => ?_)
        obtain rfl : w_187 = nI (gx (v r) ((y / 40) % 4)) := ew_187.trans (L_isKept (by omega))
        refine lv_if_eq (tgt := 1053) hx hb dL_law_1046 (by decide) (fun c_188 => ?_) (fun c_188 => ?_)
        · exact absurd c_188 (fun h9 => h2 ((n0 (by have := gx_lt (x := v r) (k := ((y / 40) % 4)); omega)).mp h9))
        · refine lv_iconst (v := 1) hx hb dL_law_1049 (by decide) ?_
          refine lv_goto (tgt := 1054) hx hb dL_law_1050 (by decide) ?_
          refine lv_topi (fun w_189 ew_189 => ?_)
          obtain rfl : w_189 = nI (gx (v r) ((y / 40) % 4)) := ew_189.trans (show (1 : Int32) = nI (gx (v r) ((y / 40) % 4)) by rw [show gx (v r) ((y / 40) % 4) = 1 by have := gx_lt (x := v r) (k := ((y / 40) % 4)); omega]; rfl)
          refine lv_istore (lv' := [(22, .int (nI (gx (v r) ((y / 40) % 4)))), (21, .int (nI (ix (v r)))), (20, .int (nI 0)), (19, .int (nI ((y / 40) % 4))), (0, .ref b), (1, .ref o0), (2, .ref (ar 0)), (3, .ref (ar 1)), (4, .ref (ar 2)), (5, .ref (ar 5)), (6, .ref (ar 6)), (7, .ref (ar 7)), (8, .ref (ar 3)), (9, .ref (ar 8)), (10, .ref (ar 4)), (11, .long dr), (13, .int 1), (14, .int (nI tn)), (16, .int (nI K)), (17, .int (nI y)), (18, .int (nI r))]) hx hb dL_law_1054 hl (by decide) rfl (fun ls hl => ?_)
          exact kk 0 ls (by decide) (lv_sub hl [4, 5, 6, 7, 8, 9, 10, 11, 12, 13, 14, 15, 16, 17, 18, 19, 20, 3, 2, 1, 0] rfl)
      · exact absurd ((nle0 (by omega)).mpr h1) c_182
  · by_cases h2 : gx (v r) ((y / 40) % 4) = 0
    · refine lv_iload hx hb dL_law_1001 (lv_at hl 15 rfl) ?_
      refine lv_bipush (v := 40) hx hb dL_law_1003 (by decide) ?_
      refine lv_idiv hx hb dL_law_1005 (by decide) ?_
      refine lv_topi (fun w_190 ew_190 => ?_)
      obtain rfl : w_190 = nI (y / 40) := ew_190.trans (nI_dv (a := y) (b := 40) (by omega) (by omega))
      refine lv_iconst (v := 4) hx hb dL_law_1006 (by decide) ?_
      refine lv_irem hx hb dL_law_1007 (by decide) ?_
      refine lv_topi (fun w_191 ew_191 => ?_)
      obtain rfl : w_191 = nI ((y / 40) % 4) := ew_191.trans (nI_md (a := y / 40) (b := 4) (by omega) (by omega))
      refine lv_istore (lv' := [(19, .int (nI ((y / 40) % 4))), (0, .ref b), (1, .ref o0), (2, .ref (ar 0)), (3, .ref (ar 1)), (4, .ref (ar 2)), (5, .ref (ar 5)), (6, .ref (ar 6)), (7, .ref (ar 7)), (8, .ref (ar 3)), (9, .ref (ar 8)), (10, .ref (ar 4)), (11, .long dr), (13, .int 1), (14, .int (nI tn)), (16, .int (nI K)), (17, .int (nI y)), (18, .int (nI r))]) hx hb dL_law_1008 hl (by decide) rfl (fun ls hl => ?_)
      refine lv_iload hx hb dL_law_1010 (lv_at hl 16 rfl) ?_
      refine lv_sipush (v := 160) hx hb dL_law_1012 (by decide) ?_
      refine lv_idiv hx hb dL_law_1015 (by decide) ?_
      refine lv_topi (fun w_192 ew_192 => ?_)
      obtain rfl : w_192 = nI (y / 160) := ew_192.trans (nI_dv (a := y) (b := 160) (by omega) (by omega))
      refine lv_iconst (v := 3) hx hb dL_law_1016 (by decide) ?_
      refine lv_irem hx hb dL_law_1017 (by decide) ?_
      refine lv_topi (fun w_193 ew_193 => ?_)
      obtain rfl : w_193 = nI ((y / 160) % 3) := ew_193.trans (nI_md (a := y / 160) (b := 3) (by omega) (by omega))
      refine lv_if_le (tgt := 1025) hx hb dL_law_1018 (by decide) (fun c_194 => ?_) (fun c_194 => ?_)
      · exact absurd c_194 (fun h9 => h1 ((nle0 (by omega)).mp h9))
      · refine lv_iconst (v := 1) hx hb dL_law_1021 (by decide) ?_
        refine lv_goto (tgt := 1026) hx hb dL_law_1022 (by decide) ?_
        refine lv_topi (fun w_195 ew_195 => ?_)
        obtain rfl : w_195 = nI 1 := ew_195.trans (show (1 : Int32) = nI 1 from rfl)
        refine lv_istore (lv' := [(20, .int (nI 1)), (19, .int (nI ((y / 40) % 4))), (0, .ref b), (1, .ref o0), (2, .ref (ar 0)), (3, .ref (ar 1)), (4, .ref (ar 2)), (5, .ref (ar 5)), (6, .ref (ar 6)), (7, .ref (ar 7)), (8, .ref (ar 3)), (9, .ref (ar 8)), (10, .ref (ar 4)), (11, .long dr), (13, .int 1), (14, .int (nI tn)), (16, .int (nI K)), (17, .int (nI y)), (18, .int (nI r))]) hx hb dL_law_1026 hl (by decide) rfl (fun ls hl => ?_)
        refine lv_aload_n hx hb dL_law_1028 rfl (lv_at hl 4 rfl) ?_
        refine lv_iload hx hb dL_law_1029 (lv_at hl 18 rfl) ?_
        refine va_lald hx hb hG.1 hP 0 2 rfl rfl (inb_in (inb_n (show r < 40 by omega) (by decide))) dL_law_1031 ?_
        refine lv_topl (fun w_196 ew_196 => ?_)
        obtain rfl : w_196 = v r := ew_196.trans (congrArg v (ncl (show r < 2147483648 by omega)))
        refine cq_RS (R := room_1) (args := #[Value.ref b]) (y := yL_isIn) (bytes := cL_isIn) (cc := code) (maxL := 2) (nL := 23) (n := 1) (index := 15) (ret := (some .boolean)) (ws := wsL_isIn) (rm := cq_rm 0 0) (Ts := wsL_law) (own := RL) (D := D) (Y := Y) (W0 := ([] : va_W)) (wl := qz_A Y ar v h ev nn qq li bb t uu) (v := some (.int (m_L_isIn (v r)))) (st0 := [.long (v r)]) (As := [.long (v r)]) (rest := []) ⟨hx, hb, hml, hown, hts⟩ (ct_L_isIn l D Y  (v r)) (va_cwS 1 hts gL_law_L_isIn rfl rfl rfl (by decide +kernel) ⟨Nat.le_of_ble_eq_true rfl, Nat.le_of_ble_eq_true rfl⟩) hG hP hD [] rfl (by decide +kernel) rfl hl.1 rfl (Nat.le_of_ble_eq_true rfl) dL_law_1032 ⟨qz_f1 (k := 0) (show cells + 2000 ≤ 600130 by omega) (by decide), qz_f2 (k := 0) (show slots + 12000 ≤ 7301080 by omega) (by decide)⟩ ?_
        change W _ _ _ _ _ _ _ _ _ _ _ _ _ _ _ (F0 m 1035 _ (.int (m_L_isIn (v r)) :: []))
        refine lv_topi (fun w_197 ew_197 => ?_)
        obtain rfl : w_197 = nI (ix (v r)) := ew_197.trans L_isIn
        refine lv_istore (lv' := [(21, .int (nI (ix (v r)))), (20, .int (nI 1)), (19, .int (nI ((y / 40) % 4))), (0, .ref b), (1, .ref o0), (2, .ref (ar 0)), (3, .ref (ar 1)), (4, .ref (ar 2)), (5, .ref (ar 5)), (6, .ref (ar 6)), (7, .ref (ar 7)), (8, .ref (ar 3)), (9, .ref (ar 8)), (10, .ref (ar 4)), (11, .long dr), (13, .int 1), (14, .int (nI tn)), (16, .int (nI K)), (17, .int (nI y)), (18, .int (nI r))]) hx hb dL_law_1035 hl (by decide) rfl (fun ls hl => ?_)
        refine lv_aload_n hx hb dL_law_1037 rfl (lv_at hl 5 rfl) ?_
        refine lv_iload hx hb dL_law_1038 (lv_at hl 19 rfl) ?_
        refine va_lald hx hb hG.1 hP 0 2 rfl rfl (inb_in (inb_n (show r < 40 by omega) (by decide))) dL_law_1040 ?_
        refine lv_topl (fun w_198 ew_198 => ?_)
        obtain rfl : w_198 = v r := ew_198.trans (congrArg v (ncl (show r < 2147483648 by omega)))
        refine lv_iload hx hb dL_law_1041 (lv_at hl 2 rfl) ?_
        refine cq_RS (R := room_1) (args := #[Value.ref b]) (y := yL_isKept) (bytes := cL_isKept) (cc := code) (maxL := 3) (nL := 23) (n := 2) (index := 41) (ret := (some .boolean)) (ws := wsL_isKept) (rm := cq_rm 0 0) (Ts := wsL_law) (own := RL) (D := D) (Y := Y) (W0 := ([] : va_W)) (wl := qz_A Y ar v h ev nn qq li bb t uu) (v := some (.int (m_L_isKept (v r) (nI ((y / 40) % 4))))) (st0 := [.int (nI ((y / 40) % 4)), .long (v r)]) (As := [.long (v r), .int (nI ((y / 40) % 4))]) (rest := []) ⟨hx, hb, hml, hown, hts⟩ (ct_L_isKept l D Y  (v r) (nI ((y / 40) % 4))) (va_cwS 2 hts gL_law_L_isKept rfl rfl rfl (by decide +kernel) ⟨Nat.le_of_ble_eq_true rfl, Nat.le_of_ble_eq_true rfl⟩) hG hP hD [] rfl (by decide +kernel) rfl hl.1 rfl (Nat.le_of_ble_eq_true rfl) dL_law_1043 ⟨qz_f1 (k := 0) (show cells + 2000 ≤ 600130 by omega) (by decide), qz_f2 (k := 0) (show slots + 12000 ≤ 7301080 by omega) (by decide)⟩ ?_
        change W _ _ _ _ _ _ _ _ _ _ _ _ _ _ _ (F0 m 1046 _ (.int (m_L_isKept (v r) (nI ((y / 40) % 4))) :: []))
        refine lv_topi (fun w_199 ew_199 => ?_)
        obtain rfl : w_199 = nI (gx (v r) ((y / 40) % 4)) := ew_199.trans (L_isKept (by omega))
        refine lv_if_eq (tgt := 1053) hx hb dL_law_1046 (by decide) (fun c_200 => ?_) (fun c_200 => ?_)
        · refine lv_iconst (v := 0) hx hb dL_law_1053 (by decide) ?_
          refine lv_topi (fun w_201 ew_201 => ?_)
          obtain rfl : w_201 = nI (gx (v r) ((y / 40) % 4)) := ew_201.trans (show (0 : Int32) = nI (gx (v r) ((y / 40) % 4)) by rw [h2]; rfl)
          refine lv_istore (lv' := [(22, .int (nI (gx (v r) ((y / 40) % 4)))), (21, .int (nI (ix (v r)))), (20, .int (nI 1)), (19, .int (nI ((y / 40) % 4))), (0, .ref b), (1, .ref o0), (2, .ref (ar 0)), (3, .ref (ar 1)), (4, .ref (ar 2)), (5, .ref (ar 5)), (6, .ref (ar 6)), (7, .ref (ar 7)), (8, .ref (ar 3)), (9, .ref (ar 8)), (10, .ref (ar 4)), (11, .long dr), (13, .int 1), (14, .int (nI tn)), (16, .int (nI K)), (17, .int (nI y)), (18, .int (nI r))]) hx hb dL_law_1054 hl (by decide) rfl (fun ls hl => ?_)
          exact kk 1 ls (by decide) (lv_sub hl [4, 5, 6, 7, 8, 9, 10, 11, 12, 13, 14, 15, 16, 17, 18, 19, 20, 3, 2, 1, 0] rfl)
        · exact absurd ((n0 (by have := gx_lt (x := v r) (k := ((y / 40) % 4)); omega)).mpr h2) c_200
    · refine lv_iload hx hb dL_law_1001 (lv_at hl 15 rfl) ?_
      refine lv_bipush (v := 40) hx hb dL_law_1003 (by decide) ?_
      refine lv_idiv hx hb dL_law_1005 (by decide) ?_
      refine lv_topi (fun w_202 ew_202 => ?_)
      obtain rfl : w_202 = nI (y / 40) := ew_202.trans (nI_dv (a := y) (b := 40) (by omega) (by omega))
      refine lv_iconst (v := 4) hx hb dL_law_1006 (by decide) ?_
      refine lv_irem hx hb dL_law_1007 (by decide) ?_
      refine lv_topi (fun w_203 ew_203 => ?_)
      obtain rfl : w_203 = nI ((y / 40) % 4) := ew_203.trans (nI_md (a := y / 40) (b := 4) (by omega) (by omega))
      refine lv_istore (lv' := [(19, .int (nI ((y / 40) % 4))), (0, .ref b), (1, .ref o0), (2, .ref (ar 0)), (3, .ref (ar 1)), (4, .ref (ar 2)), (5, .ref (ar 5)), (6, .ref (ar 6)), (7, .ref (ar 7)), (8, .ref (ar 3)), (9, .ref (ar 8)), (10, .ref (ar 4)), (11, .long dr), (13, .int 1), (14, .int (nI tn)), (16, .int (nI K)), (17, .int (nI y)), (18, .int (nI r))]) hx hb dL_law_1008 hl (by decide) rfl (fun ls hl => ?_)
      refine lv_iload hx hb dL_law_1010 (lv_at hl 16 rfl) ?_
      refine lv_sipush (v := 160) hx hb dL_law_1012 (by decide) ?_
      refine lv_idiv hx hb dL_law_1015 (by decide) ?_
      refine lv_topi (fun w_204 ew_204 => ?_)
      obtain rfl : w_204 = nI (y / 160) := ew_204.trans (nI_dv (a := y) (b := 160) (by omega) (by omega))
      refine lv_iconst (v := 3) hx hb dL_law_1016 (by decide) ?_
      refine lv_irem hx hb dL_law_1017 (by decide) ?_
      refine lv_topi (fun w_205 ew_205 => ?_)
      obtain rfl : w_205 = nI ((y / 160) % 3) := ew_205.trans (nI_md (a := y / 160) (b := 3) (by omega) (by omega))
      refine lv_if_le (tgt := 1025) hx hb dL_law_1018 (by decide) (fun c_206 => ?_) (fun c_206 => ?_)
      · exact absurd c_206 (fun h9 => h1 ((nle0 (by omega)).mp h9))
      · refine lv_iconst (v := 1) hx hb dL_law_1021 (by decide) ?_
        refine lv_goto (tgt := 1026) hx hb dL_law_1022 (by decide) ?_
        refine lv_topi (fun w_207 ew_207 => ?_)
        obtain rfl : w_207 = nI 1 := ew_207.trans (show (1 : Int32) = nI 1 from rfl)
        refine lv_istore (lv' := [(20, .int (nI 1)), (19, .int (nI ((y / 40) % 4))), (0, .ref b), (1, .ref o0), (2, .ref (ar 0)), (3, .ref (ar 1)), (4, .ref (ar 2)), (5, .ref (ar 5)), (6, .ref (ar 6)), (7, .ref (ar 7)), (8, .ref (ar 3)), (9, .ref (ar 8)), (10, .ref (ar 4)), (11, .long dr), (13, .int 1), (14, .int (nI tn)), (16, .int (nI K)), (17, .int (nI y)), (18, .int (nI r))]) hx hb dL_law_1026 hl (by decide) rfl (fun ls hl => ?_)
        refine lv_aload_n hx hb dL_law_1028 rfl (lv_at hl 4 rfl) ?_
        refine lv_iload hx hb dL_law_1029 (lv_at hl 18 rfl) ?_
        refine va_lald hx hb hG.1 hP 0 2 rfl rfl (inb_in (inb_n (show r < 40 by omega) (by decide))) dL_law_1031 ?_
        refine lv_topl (fun w_208 ew_208 => ?_)
        obtain rfl : w_208 = v r := ew_208.trans (congrArg v (ncl (show r < 2147483648 by omega)))
        refine cq_RS (R := room_1) (args := #[Value.ref b]) (y := yL_isIn) (bytes := cL_isIn) (cc := code) (maxL := 2) (nL := 23) (n := 1) (index := 15) (ret := (some .boolean)) (ws := wsL_isIn) (rm := cq_rm 0 0) (Ts := wsL_law) (own := RL) (D := D) (Y := Y) (W0 := ([] : va_W)) (wl := qz_A Y ar v h ev nn qq li bb t uu) (v := some (.int (m_L_isIn (v r)))) (st0 := [.long (v r)]) (As := [.long (v r)]) (rest := []) ⟨hx, hb, hml, hown, hts⟩ (ct_L_isIn l D Y  (v r)) (va_cwS 1 hts gL_law_L_isIn rfl rfl rfl (by decide +kernel) ⟨Nat.le_of_ble_eq_true rfl, Nat.le_of_ble_eq_true rfl⟩) hG hP hD [] rfl (by decide +kernel) rfl hl.1 rfl (Nat.le_of_ble_eq_true rfl) dL_law_1032 ⟨qz_f1 (k := 0) (show cells + 2000 ≤ 600130 by omega) (by decide), qz_f2 (k := 0) (show slots + 12000 ≤ 7301080 by omega) (by decide)⟩ ?_
        change W _ _ _ _ _ _ _ _ _ _ _ _ _ _ _ (F0 m 1035 _ (.int (m_L_isIn (v r)) :: []))
        refine lv_topi (fun w_209 ew_209 => ?_)
        obtain rfl : w_209 = nI (ix (v r)) := ew_209.trans L_isIn
        refine lv_istore (lv' := [(21, .int (nI (ix (v r)))), (20, .int (nI 1)), (19, .int (nI ((y / 40) % 4))), (0, .ref b), (1, .ref o0), (2, .ref (ar 0)), (3, .ref (ar 1)), (4, .ref (ar 2)), (5, .ref (ar 5)), (6, .ref (ar 6)), (7, .ref (ar 7)), (8, .ref (ar 3)), (9, .ref (ar 8)), (10, .ref (ar 4)), (11, .long dr), (13, .int 1), (14, .int (nI tn)), (16, .int (nI K)), (17, .int (nI y)), (18, .int (nI r))]) hx hb dL_law_1035 hl (by decide) rfl (fun ls hl => ?_)
        refine lv_aload_n hx hb dL_law_1037 rfl (lv_at hl 5 rfl) ?_
        refine lv_iload hx hb dL_law_1038 (lv_at hl 19 rfl) ?_
        refine va_lald hx hb hG.1 hP 0 2 rfl rfl (inb_in (inb_n (show r < 40 by omega) (by decide))) dL_law_1040 ?_
        refine lv_topl (fun w_210 ew_210 => ?_)
        obtain rfl : w_210 = v r := ew_210.trans (congrArg v (ncl (show r < 2147483648 by omega)))
        refine lv_iload hx hb dL_law_1041 (lv_at hl 2 rfl) ?_
        refine cq_RS (R := room_1) (args := #[Value.ref b]) (y := yL_isKept) (bytes := cL_isKept) (cc := code) (maxL := 3) (nL := 23) (n := 2) (index := 41) (ret := (some .boolean)) (ws := wsL_isKept) (rm := cq_rm 0 0) (Ts := wsL_law) (own := RL) (D := D) (Y := Y) (W0 := ([] : va_W)) (wl := qz_A Y ar v h ev nn qq li bb t uu) (v := some (.int (m_L_isKept (v r) (nI ((y / 40) % 4))))) (st0 := [.int (nI ((y / 40) % 4)), .long (v r)]) (As := [.long (v r), .int (nI ((y / 40) % 4))]) (rest := []) ⟨hx, hb, hml, hown, hts⟩ (ct_L_isKept l D Y  (v r) (nI ((y / 40) % 4))) (va_cwS 2 hts gL_law_L_isKept rfl rfl rfl (by decide +kernel) ⟨Nat.le_of_ble_eq_true rfl, Nat.le_of_ble_eq_true rfl⟩) hG hP hD [] rfl (by decide +kernel) rfl hl.1 rfl (Nat.le_of_ble_eq_true rfl) dL_law_1043 ⟨qz_f1 (k := 0) (show cells + 2000 ≤ 600130 by omega) (by decide), qz_f2 (k := 0) (show slots + 12000 ≤ 7301080 by omega) (by decide)⟩ ?_
        change W _ _ _ _ _ _ _ _ _ _ _ _ _ _ _ (F0 m 1046 _ (.int (m_L_isKept (v r) (nI ((y / 40) % 4))) :: []))
        refine lv_topi (fun w_211 ew_211 => ?_)
        obtain rfl : w_211 = nI (gx (v r) ((y / 40) % 4)) := ew_211.trans (L_isKept (by omega))
        refine lv_if_eq (tgt := 1053) hx hb dL_law_1046 (by decide) (fun c_212 => ?_) (fun c_212 => ?_)
        · exact absurd c_212 (fun h9 => h2 ((n0 (by have := gx_lt (x := v r) (k := ((y / 40) % 4)); omega)).mp h9))
        · refine lv_iconst (v := 1) hx hb dL_law_1049 (by decide) ?_
          refine lv_goto (tgt := 1054) hx hb dL_law_1050 (by decide) ?_
          refine lv_topi (fun w_213 ew_213 => ?_)
          obtain rfl : w_213 = nI (gx (v r) ((y / 40) % 4)) := ew_213.trans (show (1 : Int32) = nI (gx (v r) ((y / 40) % 4)) by rw [show gx (v r) ((y / 40) % 4) = 1 by have := gx_lt (x := v r) (k := ((y / 40) % 4)); omega]; rfl)
          refine lv_istore (lv' := [(22, .int (nI (gx (v r) ((y / 40) % 4)))), (21, .int (nI (ix (v r)))), (20, .int (nI 1)), (19, .int (nI ((y / 40) % 4))), (0, .ref b), (1, .ref o0), (2, .ref (ar 0)), (3, .ref (ar 1)), (4, .ref (ar 2)), (5, .ref (ar 5)), (6, .ref (ar 6)), (7, .ref (ar 7)), (8, .ref (ar 3)), (9, .ref (ar 8)), (10, .ref (ar 4)), (11, .long dr), (13, .int 1), (14, .int (nI tn)), (16, .int (nI K)), (17, .int (nI y)), (18, .int (nI r))]) hx hb dL_law_1054 hl (by decide) rfl (fun ls hl => ?_)
          exact kk 1 ls (by decide) (lv_sub hl [4, 5, 6, 7, 8, 9, 10, 11, 12, 13, 14, 15, 16, 17, 18, 19, 20, 3, 2, 1, 0] rfl)

set_option maxHeartbeats 4000000 in
set_option maxRecDepth 100000 in
theorem qz_B8p (X : qz_X p l s m meth c b L xs D Y o0 ast ald ahi act acd ar) (hc : cells + 4000 ≤ 600130) (hsl : slots + 24000 ≤ 7301080) (I : IV n bt d U st ld hi ct cd u v h ev nn qq li bb t uu dr) (hP : va_P D vwCl (qz_A Y ar v h ev nn qq li bb t uu) H) (hPK : va_P D vwCl (lz_K Y o0 ast ald ahi act acd st ld hi ct cd) H) (hS : va_S (fun q => s.heap.size ≤ q) s.heap H locs) (go : qz_go p l e s m below meth c b D Y o0 ast ald ahi act acd ar Q 1522 tn (fun n => tn + 1 ≤ 6 → n = 0) (cells + 10) (slots + 60)) {f on : Nat} (hT : tn + 1 ≤ 6 → n = 0) (hd : d < 64) (hrr : r < 40) (hf : f < 4) (hon : on < 2) (hK : K = 18) (hK25 : K < 25) (hl : lv_has ls 23 [(0, .ref b), (1, .ref o0), (2, .ref (ar 0)), (3, .ref (ar 1)), (4, .ref (ar 2)), (5, .ref (ar 5)), (6, .ref (ar 6)), (7, .ref (ar 7)), (8, .ref (ar 3)), (9, .ref (ar 8)), (10, .ref (ar 4)), (11, .long dr), (13, .int 1), (14, .int (nI tn)), (16, .int (nI K)), (18, .int (nI r)), (19, .int (nI f)), (20, .int (nI on)), (21, .int (nI (ix (v r)))), (22, .int (nI (gx (v r) f)))]) : W p l e room_1 s m #[Value.ref b] below meth c H locs (cells) (slots) Q (F0 m 1056 ls []) := by
  obtain ⟨C0, hl0, hG, hB, hNC, hap⟩ := id X
  obtain ⟨hx, hb, hr, hml, hown, htb, hX, hbl, hlocks, hgv⟩ := id C0
  have hown : s.vm.findClass RL = some m.cls := hown
  have hts : ∀ w ∈ wsL_law, w.before #[Value.ref b] s = true := fun w h => htb w (wsL_law_in w h)
  have hD : va_D (fun q => s.heap.size ≤ q) (qz_A Y ar v h ev nn qq li bb t uu) := qz_apD hap qz_eA
  have hN := I.2.2.2.2.2.2.1
  have hn40 := I.2.2.2.2.2.2.2.1
  have hb10 := I.1.1.2.1
  rcases (show on = 0 ∨ on = 1 by omega) with rfl | rfl
  · by_cases h1 : ix (v r) = 1
    · obtain ⟨nn1, hA, hN1⟩ := adds_eq (ev := ev) (K := 2) (o := r) (q := f) hN hd
      obtain ⟨v', h', t', hM, z, u', hE, hz, I'⟩ := tv_prot (r := r) (f := f) (K := 2) (w := nI 0) I hd hrr hf h1 (Or.inr ⟨rfl, rfl⟩) nn1 hN1
      by_cases hg : gx (v r) f = 0
      · refine lv_iload hx hb dL_law_1056 (lv_at hl 18 rfl) ?_
        refine lv_topi (fun w_214 ew_214 => ?_)
        obtain rfl : w_214 = 1 := ew_214.trans (show nI (ix (v r)) = 1 by rw [h1]; rfl)
        refine lv_if_eq (tgt := 1123) hx hb dL_law_1058 (by decide) (fun c_215 => ?_) (fun c_215 => ?_)
        · exact absurd c_215 (by decide)
        · refine lv_aload hx hb dL_law_1061 (lv_at hl 4 rfl) ?_
          refine lv_aload hx hb dL_law_1063 (lv_at hl 8 rfl) ?_
          refine lv_iload hx hb dL_law_1065 (lv_at hl 14 rfl) ?_
          refine lv_bipush (v := 18) hx hb dL_law_1067 (by decide) ?_
          refine lv_icmp_ne (tgt := 1085) hx hb dL_law_1069 (by decide) (fun c_216 => ?_) (fun c_216 => ?_)
          · exact absurd (show nI K = 18 from congrArg nI hK) c_216
          · refine lv_iload hx hb dL_law_1072 (lv_at hl 17 rfl) ?_
            refine lv_topi (fun w_217 ew_217 => ?_)
            obtain rfl : w_217 = 0 := ew_217.trans (show nI 0 = 0 from rfl)
            refine lv_if_eq (tgt := 1081) hx hb dL_law_1074 (by decide) (fun c_218 => ?_) (fun c_218 => ?_)
            · refine lv_iconst (v := 2) hx hb dL_law_1081 (by decide) ?_
              refine lv_goto (tgt := 1086) hx hb dL_law_1082 (by decide) ?_
              refine lv_iload hx hb dL_law_1086 (lv_at hl 15 rfl) ?_
              refine lv_iload hx hb dL_law_1088 (lv_at hl 14 rfl) ?_
              refine lv_bipush (v := 18) hx hb dL_law_1090 (by decide) ?_
              refine lv_icmp_ne (tgt := 1100) hx hb dL_law_1092 (by decide) (fun c_219 => ?_) (fun c_219 => ?_)
              · exact absurd (show nI K = 18 from congrArg nI hK) c_219
              · refine lv_iload hx hb dL_law_1095 (lv_at hl 16 rfl) ?_
                refine lv_goto (tgt := 1101) hx hb dL_law_1097 (by decide) ?_
                refine qz_WS (R := room_1) (args := #[Value.ref b]) (y := yL_adds) (bytes := cL_adds) (cc := code) (maxL := 5) (nL := 23) (n := 5) (index := 153) (pc := 1101) (ret := none) (ws := wsL_adds) (rm := cq_rm 0 0) (Ts := wsL_law) (own := RL) (D := D) (Y := Y) (W0 := [(ar 2, .inl (Y.1, 64, .inl ev)), (ar 3, .inl (Y.1, 4, .inl nn))]) (W1 := [(ar 2, .inl (Y.1, 64, .inl (upd ev d (nI (2 + 8 * r + 1024 * f))))), (ar 3, .inl (Y.1, 4, .inl nn1))]) (wl := qz_A Y ar v h ev nn qq li bb t uu) (Wr := lz_K Y o0 ast ald ahi act acd st ld hi ct cd) (v := none) (As := [.ref (ar 2), .ref (ar 3), .int 2, .int (nI r), .int (nI f)]) (rest := []) (A := fun q => s.heap.size ≤ q) (qz_A Y ar v h (upd ev d (nI (2 + 8 * r + 1024 * f))) nn1 qq li bb t uu) [2, 3] [0, 1, 4, 5, 6, 7, 8] ⟨hx, hb, hml, hown, hts⟩ (ct_L_adds l D Y (ar 2) ev (ar 3) nn (2 : Int32) (nI r) (nI f) (upd ev d (nI (2 + 8 * r + 1024 * f)), nn1) hA) (va_cwS 5 hts gL_law_L_adds rfl rfl rfl (by decide +kernel) ⟨Nat.le_of_ble_eq_true rfl, Nat.le_of_ble_eq_true rfl⟩) hG hap qz_eA lz_eK hP hPK hS rfl (by decide +kernel) ⟨rfl, ⟨[(ar 0, .inl (Y.2.2, 40, .inr (.inl v))), (ar 1, .inl (Y.1, 40, .inl h)), (ar 4, .inl (Y.1, 12, .inl qq)), (ar 5, .inl (Y.2.2, 40, .inr (.inl li))), (ar 6, .inl (Y.1, 40, .inl bb)), (ar 7, .inl (Y.1, 40, .inl t)), (ar 8, .inl (Y.1, 1, .inl uu))], rfl, rfl⟩, 9, rfl, by decide +kernel⟩ rfl rfl hl.1 rfl (Nat.le_of_ble_eq_true rfl) dL_law_1101 ⟨qz_f1 (k := 0) (show cells + 2000 ≤ 600130 by omega) (by decide), qz_f2 (k := 0) (show slots + 12000 ≤ 7301080 by omega) (by decide)⟩ (fun H locs hP hPK hS => ?_)
                have hP : va_P D vwCl (qz_A Y ar v h (upd ev d (nI (2 + 8 * r + 1024 * f))) nn1 qq li bb t uu) H := hP
                have hD : va_D (fun q => s.heap.size ≤ q) (qz_A Y ar v h (upd ev d (nI (2 + 8 * r + 1024 * f))) nn1 qq li bb t uu) := qz_apD hap qz_eA
                change W _ _ _ _ _ _ _ _ _ _ _ _ _ _ _ (F0 m 1104 _ [])
                refine lv_aload_n hx hb dL_law_1104 rfl (lv_at hl 2 rfl) ?_
                refine lv_aload_n hx hb dL_law_1105 rfl (lv_at hl 3 rfl) ?_
                refine lv_aload hx hb dL_law_1106 (lv_at hl 4 rfl) ?_
                refine lv_aload hx hb dL_law_1108 (lv_at hl 8 rfl) ?_
                refine lv_aload hx hb dL_law_1110 (lv_at hl 10 rfl) ?_
                refine lv_aload hx hb dL_law_1112 (lv_at hl 5 rfl) ?_
                refine lv_aload hx hb dL_law_1114 (lv_at hl 6 rfl) ?_
                refine lv_aload hx hb dL_law_1116 (lv_at hl 7 rfl) ?_
                refine lv_aload hx hb dL_law_1118 (lv_at hl 9 rfl) ?_
                refine qz_WS (R := room_1) (args := #[Value.ref b]) (y := yL_makes) (bytes := cL_makes) (cc := code) (maxL := 13) (nL := 23) (n := 9) (index := 157) (pc := 1120) (ret := none) (ws := wsL_makes) (rm := cq_rm 3 85) (Ts := wsL_law) (own := RL) (D := D) (Y := Y) (W0 := [(ar 0, .inl (Y.2.2, 40, .inr (.inl v))), (ar 1, .inl (Y.1, 40, .inl h)), (ar 2, .inl (Y.1, 64, .inl (upd ev d (nI (2 + 8 * r + 1024 * f))))), (ar 3, .inl (Y.1, 4, .inl nn1)), (ar 4, .inl (Y.1, 12, .inl qq)), (ar 5, .inl (Y.2.2, 40, .inr (.inl li))), (ar 6, .inl (Y.1, 40, .inl bb)), (ar 7, .inl (Y.1, 40, .inl t)), (ar 8, .inl (Y.1, 1, .inl uu))]) (W1 := [(ar 0, .inl (Y.2.2, 40, .inr (.inl v'))), (ar 1, .inl (Y.1, 40, .inl h')), (ar 2, .inl (Y.1, 64, .inl (upd ev d (nI (2 + 8 * r + 1024 * f))))), (ar 3, .inl (Y.1, 4, .inl nn1)), (ar 4, .inl (Y.1, 12, .inl qq)), (ar 5, .inl (Y.2.2, 40, .inr (.inl li))), (ar 6, .inl (Y.1, 40, .inl bb)), (ar 7, .inl (Y.1, 40, .inl t')), (ar 8, .inl (Y.1, 1, .inl uu))]) (wl := qz_A Y ar v h (upd ev d (nI (2 + 8 * r + 1024 * f))) nn1 qq li bb t uu) (Wr := lz_K Y o0 ast ald ahi act acd st ld hi ct cd) (v := none) (As := [.ref (ar 0), .ref (ar 1), .ref (ar 2), .ref (ar 3), .ref (ar 4), .ref (ar 5), .ref (ar 6), .ref (ar 7), .ref (ar 8)]) (rest := []) (A := fun q => s.heap.size ≤ q) (qz_A Y ar v' h' (upd ev d (nI (2 + 8 * r + 1024 * f))) nn1 qq li bb t' uu) [0, 1, 2, 3, 4, 5, 6, 7, 8] [] ⟨hx, hb, hml, hown, hts⟩ (ct_L_makes l D Y (ar 0) v (ar 1) h (ar 2) (upd ev d (nI (2 + 8 * r + 1024 * f))) (ar 3) nn1 (ar 4) qq (ar 5) li (ar 6) bb (ar 7) t (ar 8) uu  (v', h', t') hM) (va_cwS 9 hts gL_law_L_makes rfl rfl rfl (by decide +kernel) ⟨Nat.le_of_ble_eq_true rfl, Nat.le_of_ble_eq_true rfl⟩) hG hap qz_eA lz_eK hP hPK hS rfl (by decide +kernel) ⟨rfl, ⟨[], rfl, rfl⟩, 9, rfl, by decide +kernel⟩ rfl rfl hl.1 rfl (Nat.le_of_ble_eq_true rfl) dL_law_1120 ⟨qz_f1 (k := 0) (show cells + 2000 ≤ 600130 by omega) (by decide), qz_f2 (k := 0) (show slots + 12000 ≤ 7301080 by omega) (by decide)⟩ (fun H locs hP hPK hS => ?_)
                have hP : va_P D vwCl (qz_A Y ar v' h' (upd ev d (nI (2 + 8 * r + 1024 * f))) nn1 qq li bb t' uu) H := hP
                have hD : va_D (fun q => s.heap.size ≤ q) (qz_A Y ar v' h' (upd ev d (nI (2 + 8 * r + 1024 * f))) nn1 qq li bb t' uu) := qz_apD hap qz_eA
                change W _ _ _ _ _ _ _ _ _ _ _ _ _ _ _ (F0 m 1123 _ [])
                refine lv_iload hx hb dL_law_1123 (lv_at hl 14 rfl) ?_
                refine lv_bipush (v := 18) hx hb dL_law_1125 (by decide) ?_
                refine lv_icmp_ne (tgt := 1163) hx hb dL_law_1127 (by decide) (fun c_220 => ?_) (fun c_220 => ?_)
                · exact absurd (show nI K = 18 from congrArg nI hK) c_220
                · refine lv_aload_n hx hb dL_law_1130 rfl (lv_at hl 1 rfl) ?_
                  refine lv_iload hx hb dL_law_1131 (lv_at hl 15 rfl) ?_
                  refine lv_iload hx hb dL_law_1133 (lv_at hl 16 rfl) ?_
                  refine lv_iload hx hb dL_law_1135 (lv_at hl 17 rfl) ?_
                  refine lz_callL (l := l) (pc := 1137) (n := 4) (W0 := lz_K Y o0 ast ald ahi act acd st ld hi ct cd) (Wr := qz_A Y ar v' h' (upd ev d (nI (2 + 8 * r + 1024 * f))) nn1 qq li bb t' uu) (As := [.ref o0, .int (nI r), .int (nI f), .int (nI 0)]) (rest := []) C0 hG hB hNC hap.app.2.1 lz_eK qz_eA hap.swap (ct_protects_ok0 l D Y o0 ast st ald ld ahi hi act ct acd cd (nI r) (nI f) (nI 0) z hE (hz.trans (by rw [hg]; rfl)) hl0) gL_law_L_protects rfl rfl rfl (by decide +kernel) ⟨Nat.le_of_ble_eq_true rfl, Nat.le_of_ble_eq_true rfl⟩ rfl hl.1 rfl (Nat.le_of_ble_eq_true rfl) dL_law_1137 ⟨qz_f1 (k := 3) (show cells + 2000 ≤ 600130 by omega) (by decide), qz_f2 (k := 18) (show slots + 12000 ≤ 7301080 by omega) (by decide)⟩ hPK hP hS (fun H locs hPK hP hS => ?_)
                  have hPK : va_P D vwCl (lz_K Y o0 ast ald ahi act acd st ld z.1.1 z.1.2 cd) H := hPK
                  have hP : va_P D vwCl (qz_A Y ar v' h' (upd ev d (nI (2 + 8 * r + 1024 * f))) nn1 qq li bb t' uu) H := hP
                  have hD : va_D (fun q => s.heap.size ≤ q) (qz_A Y ar v' h' (upd ev d (nI (2 + 8 * r + 1024 * f))) nn1 qq li bb t' uu) := qz_apD hap qz_eA
                  change W _ _ _ _ _ _ _ _ _ _ _ _ _ _ _ (F0 m 1140 _ (.int 0 :: []))
                  refine lv_iload hx hb dL_law_1140 (lv_at hl 18 rfl) ?_
                  refine lv_topi (fun w_221 ew_221 => ?_)
                  obtain rfl : w_221 = 1 := ew_221.trans (show nI (ix (v r)) = 1 by rw [h1]; rfl)
                  refine lv_if_eq (tgt := 1150) hx hb dL_law_1142 (by decide) (fun c_222 => ?_) (fun c_222 => ?_)
                  · exact absurd c_222 (by decide)
                  · refine lv_iload hx hb dL_law_1145 (lv_at hl 19 rfl) ?_
                    refine lv_goto (tgt := 1152) hx hb dL_law_1147 (by decide) ?_
                    refine lv_topi (fun w_223 ew_223 => ?_)
                    obtain rfl : w_223 = 0 := ew_223.trans (show nI (gx (v r) f) = 0 by rw [hg]; rfl)
                    refine lv_icmp_ne (tgt := 1159) hx hb dL_law_1152 (by decide) (fun c_224 => ?_) (fun c_224 => ?_)
                    · exact absurd c_224 (by decide)
                    · refine lv_iconst (v := 1) hx hb dL_law_1155 (by decide) ?_
                      refine lv_goto (tgt := 1193) hx hb dL_law_1156 (by decide) ?_
                      refine lv_istore (lv' := [(13, .int 1), (0, .ref b), (1, .ref o0), (2, .ref (ar 0)), (3, .ref (ar 1)), (4, .ref (ar 2)), (5, .ref (ar 5)), (6, .ref (ar 6)), (7, .ref (ar 7)), (8, .ref (ar 3)), (9, .ref (ar 8)), (10, .ref (ar 4)), (11, .long dr), (14, .int (nI tn)), (16, .int (nI K)), (18, .int (nI r)), (19, .int (nI f)), (20, .int (nI 0)), (21, .int (nI (ix (v r)))), (22, .int (nI (gx (v r) f)))]) hx hb dL_law_1193 hl (by decide) rfl (fun ls hl => ?_)
                      refine lv_goto (tgt := 1522) hx hb dL_law_1195 (by decide) ?_
                      exact W.widen (by omega) (by omega) (go _ _ _ _ _ _ _ _ _ _ _ _ _ _ _ _ _ _ _ _ H locs ls hT I' hP hPK hS (lv_sub hl [1, 2, 3, 4, 5, 6, 7, 8, 9, 10, 11, 12, 0, 13] rfl))
            · exact absurd c_218 (by decide)
      · refine lv_iload hx hb dL_law_1056 (lv_at hl 18 rfl) ?_
        refine lv_topi (fun w_225 ew_225 => ?_)
        obtain rfl : w_225 = 1 := ew_225.trans (show nI (ix (v r)) = 1 by rw [h1]; rfl)
        refine lv_if_eq (tgt := 1123) hx hb dL_law_1058 (by decide) (fun c_226 => ?_) (fun c_226 => ?_)
        · exact absurd c_226 (by decide)
        · refine lv_aload hx hb dL_law_1061 (lv_at hl 4 rfl) ?_
          refine lv_aload hx hb dL_law_1063 (lv_at hl 8 rfl) ?_
          refine lv_iload hx hb dL_law_1065 (lv_at hl 14 rfl) ?_
          refine lv_bipush (v := 18) hx hb dL_law_1067 (by decide) ?_
          refine lv_icmp_ne (tgt := 1085) hx hb dL_law_1069 (by decide) (fun c_227 => ?_) (fun c_227 => ?_)
          · exact absurd (show nI K = 18 from congrArg nI hK) c_227
          · refine lv_iload hx hb dL_law_1072 (lv_at hl 17 rfl) ?_
            refine lv_topi (fun w_228 ew_228 => ?_)
            obtain rfl : w_228 = 0 := ew_228.trans (show nI 0 = 0 from rfl)
            refine lv_if_eq (tgt := 1081) hx hb dL_law_1074 (by decide) (fun c_229 => ?_) (fun c_229 => ?_)
            · refine lv_iconst (v := 2) hx hb dL_law_1081 (by decide) ?_
              refine lv_goto (tgt := 1086) hx hb dL_law_1082 (by decide) ?_
              refine lv_iload hx hb dL_law_1086 (lv_at hl 15 rfl) ?_
              refine lv_iload hx hb dL_law_1088 (lv_at hl 14 rfl) ?_
              refine lv_bipush (v := 18) hx hb dL_law_1090 (by decide) ?_
              refine lv_icmp_ne (tgt := 1100) hx hb dL_law_1092 (by decide) (fun c_230 => ?_) (fun c_230 => ?_)
              · exact absurd (show nI K = 18 from congrArg nI hK) c_230
              · refine lv_iload hx hb dL_law_1095 (lv_at hl 16 rfl) ?_
                refine lv_goto (tgt := 1101) hx hb dL_law_1097 (by decide) ?_
                refine qz_WS (R := room_1) (args := #[Value.ref b]) (y := yL_adds) (bytes := cL_adds) (cc := code) (maxL := 5) (nL := 23) (n := 5) (index := 153) (pc := 1101) (ret := none) (ws := wsL_adds) (rm := cq_rm 0 0) (Ts := wsL_law) (own := RL) (D := D) (Y := Y) (W0 := [(ar 2, .inl (Y.1, 64, .inl ev)), (ar 3, .inl (Y.1, 4, .inl nn))]) (W1 := [(ar 2, .inl (Y.1, 64, .inl (upd ev d (nI (2 + 8 * r + 1024 * f))))), (ar 3, .inl (Y.1, 4, .inl nn1))]) (wl := qz_A Y ar v h ev nn qq li bb t uu) (Wr := lz_K Y o0 ast ald ahi act acd st ld hi ct cd) (v := none) (As := [.ref (ar 2), .ref (ar 3), .int 2, .int (nI r), .int (nI f)]) (rest := []) (A := fun q => s.heap.size ≤ q) (qz_A Y ar v h (upd ev d (nI (2 + 8 * r + 1024 * f))) nn1 qq li bb t uu) [2, 3] [0, 1, 4, 5, 6, 7, 8] ⟨hx, hb, hml, hown, hts⟩ (ct_L_adds l D Y (ar 2) ev (ar 3) nn (2 : Int32) (nI r) (nI f) (upd ev d (nI (2 + 8 * r + 1024 * f)), nn1) hA) (va_cwS 5 hts gL_law_L_adds rfl rfl rfl (by decide +kernel) ⟨Nat.le_of_ble_eq_true rfl, Nat.le_of_ble_eq_true rfl⟩) hG hap qz_eA lz_eK hP hPK hS rfl (by decide +kernel) ⟨rfl, ⟨[(ar 0, .inl (Y.2.2, 40, .inr (.inl v))), (ar 1, .inl (Y.1, 40, .inl h)), (ar 4, .inl (Y.1, 12, .inl qq)), (ar 5, .inl (Y.2.2, 40, .inr (.inl li))), (ar 6, .inl (Y.1, 40, .inl bb)), (ar 7, .inl (Y.1, 40, .inl t)), (ar 8, .inl (Y.1, 1, .inl uu))], rfl, rfl⟩, 9, rfl, by decide +kernel⟩ rfl rfl hl.1 rfl (Nat.le_of_ble_eq_true rfl) dL_law_1101 ⟨qz_f1 (k := 0) (show cells + 2000 ≤ 600130 by omega) (by decide), qz_f2 (k := 0) (show slots + 12000 ≤ 7301080 by omega) (by decide)⟩ (fun H locs hP hPK hS => ?_)
                have hP : va_P D vwCl (qz_A Y ar v h (upd ev d (nI (2 + 8 * r + 1024 * f))) nn1 qq li bb t uu) H := hP
                have hD : va_D (fun q => s.heap.size ≤ q) (qz_A Y ar v h (upd ev d (nI (2 + 8 * r + 1024 * f))) nn1 qq li bb t uu) := qz_apD hap qz_eA
                change W _ _ _ _ _ _ _ _ _ _ _ _ _ _ _ (F0 m 1104 _ [])
                refine lv_aload_n hx hb dL_law_1104 rfl (lv_at hl 2 rfl) ?_
                refine lv_aload_n hx hb dL_law_1105 rfl (lv_at hl 3 rfl) ?_
                refine lv_aload hx hb dL_law_1106 (lv_at hl 4 rfl) ?_
                refine lv_aload hx hb dL_law_1108 (lv_at hl 8 rfl) ?_
                refine lv_aload hx hb dL_law_1110 (lv_at hl 10 rfl) ?_
                refine lv_aload hx hb dL_law_1112 (lv_at hl 5 rfl) ?_
                refine lv_aload hx hb dL_law_1114 (lv_at hl 6 rfl) ?_
                refine lv_aload hx hb dL_law_1116 (lv_at hl 7 rfl) ?_
                refine lv_aload hx hb dL_law_1118 (lv_at hl 9 rfl) ?_
                refine qz_WS (R := room_1) (args := #[Value.ref b]) (y := yL_makes) (bytes := cL_makes) (cc := code) (maxL := 13) (nL := 23) (n := 9) (index := 157) (pc := 1120) (ret := none) (ws := wsL_makes) (rm := cq_rm 3 85) (Ts := wsL_law) (own := RL) (D := D) (Y := Y) (W0 := [(ar 0, .inl (Y.2.2, 40, .inr (.inl v))), (ar 1, .inl (Y.1, 40, .inl h)), (ar 2, .inl (Y.1, 64, .inl (upd ev d (nI (2 + 8 * r + 1024 * f))))), (ar 3, .inl (Y.1, 4, .inl nn1)), (ar 4, .inl (Y.1, 12, .inl qq)), (ar 5, .inl (Y.2.2, 40, .inr (.inl li))), (ar 6, .inl (Y.1, 40, .inl bb)), (ar 7, .inl (Y.1, 40, .inl t)), (ar 8, .inl (Y.1, 1, .inl uu))]) (W1 := [(ar 0, .inl (Y.2.2, 40, .inr (.inl v'))), (ar 1, .inl (Y.1, 40, .inl h')), (ar 2, .inl (Y.1, 64, .inl (upd ev d (nI (2 + 8 * r + 1024 * f))))), (ar 3, .inl (Y.1, 4, .inl nn1)), (ar 4, .inl (Y.1, 12, .inl qq)), (ar 5, .inl (Y.2.2, 40, .inr (.inl li))), (ar 6, .inl (Y.1, 40, .inl bb)), (ar 7, .inl (Y.1, 40, .inl t')), (ar 8, .inl (Y.1, 1, .inl uu))]) (wl := qz_A Y ar v h (upd ev d (nI (2 + 8 * r + 1024 * f))) nn1 qq li bb t uu) (Wr := lz_K Y o0 ast ald ahi act acd st ld hi ct cd) (v := none) (As := [.ref (ar 0), .ref (ar 1), .ref (ar 2), .ref (ar 3), .ref (ar 4), .ref (ar 5), .ref (ar 6), .ref (ar 7), .ref (ar 8)]) (rest := []) (A := fun q => s.heap.size ≤ q) (qz_A Y ar v' h' (upd ev d (nI (2 + 8 * r + 1024 * f))) nn1 qq li bb t' uu) [0, 1, 2, 3, 4, 5, 6, 7, 8] [] ⟨hx, hb, hml, hown, hts⟩ (ct_L_makes l D Y (ar 0) v (ar 1) h (ar 2) (upd ev d (nI (2 + 8 * r + 1024 * f))) (ar 3) nn1 (ar 4) qq (ar 5) li (ar 6) bb (ar 7) t (ar 8) uu  (v', h', t') hM) (va_cwS 9 hts gL_law_L_makes rfl rfl rfl (by decide +kernel) ⟨Nat.le_of_ble_eq_true rfl, Nat.le_of_ble_eq_true rfl⟩) hG hap qz_eA lz_eK hP hPK hS rfl (by decide +kernel) ⟨rfl, ⟨[], rfl, rfl⟩, 9, rfl, by decide +kernel⟩ rfl rfl hl.1 rfl (Nat.le_of_ble_eq_true rfl) dL_law_1120 ⟨qz_f1 (k := 0) (show cells + 2000 ≤ 600130 by omega) (by decide), qz_f2 (k := 0) (show slots + 12000 ≤ 7301080 by omega) (by decide)⟩ (fun H locs hP hPK hS => ?_)
                have hP : va_P D vwCl (qz_A Y ar v' h' (upd ev d (nI (2 + 8 * r + 1024 * f))) nn1 qq li bb t' uu) H := hP
                have hD : va_D (fun q => s.heap.size ≤ q) (qz_A Y ar v' h' (upd ev d (nI (2 + 8 * r + 1024 * f))) nn1 qq li bb t' uu) := qz_apD hap qz_eA
                change W _ _ _ _ _ _ _ _ _ _ _ _ _ _ _ (F0 m 1123 _ [])
                refine lv_iload hx hb dL_law_1123 (lv_at hl 14 rfl) ?_
                refine lv_bipush (v := 18) hx hb dL_law_1125 (by decide) ?_
                refine lv_icmp_ne (tgt := 1163) hx hb dL_law_1127 (by decide) (fun c_231 => ?_) (fun c_231 => ?_)
                · exact absurd (show nI K = 18 from congrArg nI hK) c_231
                · refine lv_aload_n hx hb dL_law_1130 rfl (lv_at hl 1 rfl) ?_
                  refine lv_iload hx hb dL_law_1131 (lv_at hl 15 rfl) ?_
                  refine lv_iload hx hb dL_law_1133 (lv_at hl 16 rfl) ?_
                  refine lv_iload hx hb dL_law_1135 (lv_at hl 17 rfl) ?_
                  refine lz_callL (l := l) (pc := 1137) (n := 4) (W0 := lz_K Y o0 ast ald ahi act acd st ld hi ct cd) (Wr := qz_A Y ar v' h' (upd ev d (nI (2 + 8 * r + 1024 * f))) nn1 qq li bb t' uu) (As := [.ref o0, .int (nI r), .int (nI f), .int (nI 0)]) (rest := []) C0 hG hB hNC hap.app.2.1 lz_eK qz_eA hap.swap (ct_protects_ok1 l D Y o0 ast st ald ld ahi hi act ct acd cd (nI r) (nI f) (nI 0) z hE (fun h9 => hg ((n0 (by have := gx_lt (x := v r) (k := f); omega)).mp (hz.symm.trans h9))) hl0) gL_law_L_protects rfl rfl rfl (by decide +kernel) ⟨Nat.le_of_ble_eq_true rfl, Nat.le_of_ble_eq_true rfl⟩ rfl hl.1 rfl (Nat.le_of_ble_eq_true rfl) dL_law_1137 ⟨qz_f1 (k := 3) (show cells + 2000 ≤ 600130 by omega) (by decide), qz_f2 (k := 18) (show slots + 12000 ≤ 7301080 by omega) (by decide)⟩ hPK hP hS (fun H locs hPK hP hS => ?_)
                  have hPK : va_P D vwCl (lz_K Y o0 ast ald ahi act acd st ld z.1.1 z.1.2 cd) H := hPK
                  have hP : va_P D vwCl (qz_A Y ar v' h' (upd ev d (nI (2 + 8 * r + 1024 * f))) nn1 qq li bb t' uu) H := hP
                  have hD : va_D (fun q => s.heap.size ≤ q) (qz_A Y ar v' h' (upd ev d (nI (2 + 8 * r + 1024 * f))) nn1 qq li bb t' uu) := qz_apD hap qz_eA
                  change W _ _ _ _ _ _ _ _ _ _ _ _ _ _ _ (F0 m 1140 _ (.int 1 :: []))
                  refine lv_iload hx hb dL_law_1140 (lv_at hl 18 rfl) ?_
                  refine lv_topi (fun w_232 ew_232 => ?_)
                  obtain rfl : w_232 = 1 := ew_232.trans (show nI (ix (v r)) = 1 by rw [h1]; rfl)
                  refine lv_if_eq (tgt := 1150) hx hb dL_law_1142 (by decide) (fun c_233 => ?_) (fun c_233 => ?_)
                  · exact absurd c_233 (by decide)
                  · refine lv_iload hx hb dL_law_1145 (lv_at hl 19 rfl) ?_
                    refine lv_goto (tgt := 1152) hx hb dL_law_1147 (by decide) ?_
                    refine lv_topi (fun w_234 ew_234 => ?_)
                    obtain rfl : w_234 = 1 := ew_234.trans (show nI (gx (v r) f) = 1 by rw [show gx (v r) f = 1 by have := gx_lt (x := v r) (k := f); omega]; rfl)
                    refine lv_icmp_ne (tgt := 1159) hx hb dL_law_1152 (by decide) (fun c_235 => ?_) (fun c_235 => ?_)
                    · exact absurd c_235 (by decide)
                    · refine lv_iconst (v := 1) hx hb dL_law_1155 (by decide) ?_
                      refine lv_goto (tgt := 1193) hx hb dL_law_1156 (by decide) ?_
                      refine lv_istore (lv' := [(13, .int 1), (0, .ref b), (1, .ref o0), (2, .ref (ar 0)), (3, .ref (ar 1)), (4, .ref (ar 2)), (5, .ref (ar 5)), (6, .ref (ar 6)), (7, .ref (ar 7)), (8, .ref (ar 3)), (9, .ref (ar 8)), (10, .ref (ar 4)), (11, .long dr), (14, .int (nI tn)), (16, .int (nI K)), (18, .int (nI r)), (19, .int (nI f)), (20, .int (nI 0)), (21, .int (nI (ix (v r)))), (22, .int (nI (gx (v r) f)))]) hx hb dL_law_1193 hl (by decide) rfl (fun ls hl => ?_)
                      refine lv_goto (tgt := 1522) hx hb dL_law_1195 (by decide) ?_
                      exact W.widen (by omega) (by omega) (go _ _ _ _ _ _ _ _ _ _ _ _ _ _ _ _ _ _ _ _ H locs ls hT I' hP hPK hS (lv_sub hl [1, 2, 3, 4, 5, 6, 7, 8, 9, 10, 11, 12, 0, 13] rfl))
            · exact absurd c_229 (by decide)
    · refine lv_iload hx hb dL_law_1056 (lv_at hl 18 rfl) ?_
      refine lv_topi (fun w_236 ew_236 => ?_)
      obtain rfl : w_236 = 0 := ew_236.trans (show nI (ix (v r)) = 0 by rw [show ix (v r) = 0 by have := ix_lt (x := v r); omega]; rfl)
      refine lv_if_eq (tgt := 1123) hx hb dL_law_1058 (by decide) (fun c_237 => ?_) (fun c_237 => ?_)
      · refine lv_iload hx hb dL_law_1123 (lv_at hl 14 rfl) ?_
        refine lv_bipush (v := 18) hx hb dL_law_1125 (by decide) ?_
        refine lv_icmp_ne (tgt := 1163) hx hb dL_law_1127 (by decide) (fun c_238 => ?_) (fun c_238 => ?_)
        · exact absurd (show nI K = 18 from congrArg nI hK) c_238
        · refine lv_aload_n hx hb dL_law_1130 rfl (lv_at hl 1 rfl) ?_
          refine lv_iload hx hb dL_law_1131 (lv_at hl 15 rfl) ?_
          refine lv_iload hx hb dL_law_1133 (lv_at hl 16 rfl) ?_
          refine lv_iload hx hb dL_law_1135 (lv_at hl 17 rfl) ?_
          refine lz_callL (l := l) (pc := 1137) (n := 4) (W0 := lz_K Y o0 ast ald ahi act acd st ld hi ct cd) (Wr := qz_A Y ar v h ev nn qq li bb t uu) (As := [.ref o0, .int (nI r), .int (nI f), .int (nI 0)]) (rest := []) C0 hG hB hNC hap.app.2.1 lz_eK qz_eA hap.swap (ct_protects_ex88 l D Y o0 ast st ald ld ahi hi act ct acd cd (nI r) (nI f) (nI 0) (tv_prot0 I hrr h1) hl0) gL_law_L_protects rfl rfl rfl (by decide +kernel) ⟨Nat.le_of_ble_eq_true rfl, Nat.le_of_ble_eq_true rfl⟩ rfl hl.1 rfl (Nat.le_of_ble_eq_true rfl) dL_law_1137 ⟨qz_f1 (k := 3) (show cells + 2000 ≤ 600130 by omega) (by decide), qz_f2 (k := 18) (show slots + 12000 ≤ 7301080 by omega) (by decide)⟩ hPK hP hS (fun H locs hPK hP hS => ?_)
          have hPK : va_P D vwCl (lz_K Y o0 ast ald ahi act acd st ld hi ct cd) H := hPK
          have hP : va_P D vwCl (qz_A Y ar v h ev nn qq li bb t uu) H := hP
          have hD : va_D (fun q => s.heap.size ≤ q) (qz_A Y ar v h ev nn qq li bb t uu) := qz_apD hap qz_eA
          change W _ _ _ _ _ _ _ _ _ _ _ _ _ _ _ (F0 m 1140 _ (.int (-11) :: []))
          refine lv_iload hx hb dL_law_1140 (lv_at hl 18 rfl) ?_
          refine lv_topi (fun w_239 ew_239 => ?_)
          obtain rfl : w_239 = 0 := ew_239.trans (show nI (ix (v r)) = 0 by rw [show ix (v r) = 0 by have := ix_lt (x := v r); omega]; rfl)
          refine lv_if_eq (tgt := 1150) hx hb dL_law_1142 (by decide) (fun c_240 => ?_) (fun c_240 => ?_)
          · refine lv_bipush (v := (-11)) hx hb dL_law_1150 (by decide) ?_
            refine lv_icmp_ne (tgt := 1159) hx hb dL_law_1152 (by decide) (fun c_241 => ?_) (fun c_241 => ?_)
            · exact absurd c_241 (by decide)
            · refine lv_iconst (v := 1) hx hb dL_law_1155 (by decide) ?_
              refine lv_goto (tgt := 1193) hx hb dL_law_1156 (by decide) ?_
              refine lv_istore (lv' := [(13, .int 1), (0, .ref b), (1, .ref o0), (2, .ref (ar 0)), (3, .ref (ar 1)), (4, .ref (ar 2)), (5, .ref (ar 5)), (6, .ref (ar 6)), (7, .ref (ar 7)), (8, .ref (ar 3)), (9, .ref (ar 8)), (10, .ref (ar 4)), (11, .long dr), (14, .int (nI tn)), (16, .int (nI K)), (18, .int (nI r)), (19, .int (nI f)), (20, .int (nI 0)), (21, .int (nI (ix (v r)))), (22, .int (nI (gx (v r) f)))]) hx hb dL_law_1193 hl (by decide) rfl (fun ls hl => ?_)
              refine lv_goto (tgt := 1522) hx hb dL_law_1195 (by decide) ?_
              exact W.widen (by omega) (by omega) (go _ _ _ _ _ _ _ _ _ _ _ _ _ _ _ _ _ _ _ _ H locs ls hT I hP hPK hS (lv_sub hl [1, 2, 3, 4, 5, 6, 7, 8, 9, 10, 11, 12, 0, 13] rfl))
          · exact absurd c_240 (by decide)
      · exact absurd c_237 (by decide)
  · by_cases h1 : ix (v r) = 1
    · obtain ⟨nn1, hA, hN1⟩ := adds_eq (ev := ev) (K := 1) (o := r) (q := f) hN hd
      obtain ⟨v', h', t', hM, z, u', hE, hz, I'⟩ := tv_prot (r := r) (f := f) (K := 1) (w := nI 1) I hd hrr hf h1 (Or.inl ⟨rfl, rfl⟩) nn1 hN1
      by_cases hg : gx (v r) f = 0
      · refine lv_iload hx hb dL_law_1056 (lv_at hl 18 rfl) ?_
        refine lv_topi (fun w_242 ew_242 => ?_)
        obtain rfl : w_242 = 1 := ew_242.trans (show nI (ix (v r)) = 1 by rw [h1]; rfl)
        refine lv_if_eq (tgt := 1123) hx hb dL_law_1058 (by decide) (fun c_243 => ?_) (fun c_243 => ?_)
        · exact absurd c_243 (by decide)
        · refine lv_aload hx hb dL_law_1061 (lv_at hl 4 rfl) ?_
          refine lv_aload hx hb dL_law_1063 (lv_at hl 8 rfl) ?_
          refine lv_iload hx hb dL_law_1065 (lv_at hl 14 rfl) ?_
          refine lv_bipush (v := 18) hx hb dL_law_1067 (by decide) ?_
          refine lv_icmp_ne (tgt := 1085) hx hb dL_law_1069 (by decide) (fun c_244 => ?_) (fun c_244 => ?_)
          · exact absurd (show nI K = 18 from congrArg nI hK) c_244
          · refine lv_iload hx hb dL_law_1072 (lv_at hl 17 rfl) ?_
            refine lv_topi (fun w_245 ew_245 => ?_)
            obtain rfl : w_245 = 1 := ew_245.trans (show nI 1 = 1 from rfl)
            refine lv_if_eq (tgt := 1081) hx hb dL_law_1074 (by decide) (fun c_246 => ?_) (fun c_246 => ?_)
            · exact absurd c_246 (by decide)
            · refine lv_iconst (v := 1) hx hb dL_law_1077 (by decide) ?_
              refine lv_goto (tgt := 1086) hx hb dL_law_1078 (by decide) ?_
              refine lv_iload hx hb dL_law_1086 (lv_at hl 15 rfl) ?_
              refine lv_iload hx hb dL_law_1088 (lv_at hl 14 rfl) ?_
              refine lv_bipush (v := 18) hx hb dL_law_1090 (by decide) ?_
              refine lv_icmp_ne (tgt := 1100) hx hb dL_law_1092 (by decide) (fun c_247 => ?_) (fun c_247 => ?_)
              · exact absurd (show nI K = 18 from congrArg nI hK) c_247
              · refine lv_iload hx hb dL_law_1095 (lv_at hl 16 rfl) ?_
                refine lv_goto (tgt := 1101) hx hb dL_law_1097 (by decide) ?_
                refine qz_WS (R := room_1) (args := #[Value.ref b]) (y := yL_adds) (bytes := cL_adds) (cc := code) (maxL := 5) (nL := 23) (n := 5) (index := 153) (pc := 1101) (ret := none) (ws := wsL_adds) (rm := cq_rm 0 0) (Ts := wsL_law) (own := RL) (D := D) (Y := Y) (W0 := [(ar 2, .inl (Y.1, 64, .inl ev)), (ar 3, .inl (Y.1, 4, .inl nn))]) (W1 := [(ar 2, .inl (Y.1, 64, .inl (upd ev d (nI (1 + 8 * r + 1024 * f))))), (ar 3, .inl (Y.1, 4, .inl nn1))]) (wl := qz_A Y ar v h ev nn qq li bb t uu) (Wr := lz_K Y o0 ast ald ahi act acd st ld hi ct cd) (v := none) (As := [.ref (ar 2), .ref (ar 3), .int 1, .int (nI r), .int (nI f)]) (rest := []) (A := fun q => s.heap.size ≤ q) (qz_A Y ar v h (upd ev d (nI (1 + 8 * r + 1024 * f))) nn1 qq li bb t uu) [2, 3] [0, 1, 4, 5, 6, 7, 8] ⟨hx, hb, hml, hown, hts⟩ (ct_L_adds l D Y (ar 2) ev (ar 3) nn (1 : Int32) (nI r) (nI f) (upd ev d (nI (1 + 8 * r + 1024 * f)), nn1) hA) (va_cwS 5 hts gL_law_L_adds rfl rfl rfl (by decide +kernel) ⟨Nat.le_of_ble_eq_true rfl, Nat.le_of_ble_eq_true rfl⟩) hG hap qz_eA lz_eK hP hPK hS rfl (by decide +kernel) ⟨rfl, ⟨[(ar 0, .inl (Y.2.2, 40, .inr (.inl v))), (ar 1, .inl (Y.1, 40, .inl h)), (ar 4, .inl (Y.1, 12, .inl qq)), (ar 5, .inl (Y.2.2, 40, .inr (.inl li))), (ar 6, .inl (Y.1, 40, .inl bb)), (ar 7, .inl (Y.1, 40, .inl t)), (ar 8, .inl (Y.1, 1, .inl uu))], rfl, rfl⟩, 9, rfl, by decide +kernel⟩ rfl rfl hl.1 rfl (Nat.le_of_ble_eq_true rfl) dL_law_1101 ⟨qz_f1 (k := 0) (show cells + 2000 ≤ 600130 by omega) (by decide), qz_f2 (k := 0) (show slots + 12000 ≤ 7301080 by omega) (by decide)⟩ (fun H locs hP hPK hS => ?_)
                have hP : va_P D vwCl (qz_A Y ar v h (upd ev d (nI (1 + 8 * r + 1024 * f))) nn1 qq li bb t uu) H := hP
                have hD : va_D (fun q => s.heap.size ≤ q) (qz_A Y ar v h (upd ev d (nI (1 + 8 * r + 1024 * f))) nn1 qq li bb t uu) := qz_apD hap qz_eA
                change W _ _ _ _ _ _ _ _ _ _ _ _ _ _ _ (F0 m 1104 _ [])
                refine lv_aload_n hx hb dL_law_1104 rfl (lv_at hl 2 rfl) ?_
                refine lv_aload_n hx hb dL_law_1105 rfl (lv_at hl 3 rfl) ?_
                refine lv_aload hx hb dL_law_1106 (lv_at hl 4 rfl) ?_
                refine lv_aload hx hb dL_law_1108 (lv_at hl 8 rfl) ?_
                refine lv_aload hx hb dL_law_1110 (lv_at hl 10 rfl) ?_
                refine lv_aload hx hb dL_law_1112 (lv_at hl 5 rfl) ?_
                refine lv_aload hx hb dL_law_1114 (lv_at hl 6 rfl) ?_
                refine lv_aload hx hb dL_law_1116 (lv_at hl 7 rfl) ?_
                refine lv_aload hx hb dL_law_1118 (lv_at hl 9 rfl) ?_
                refine qz_WS (R := room_1) (args := #[Value.ref b]) (y := yL_makes) (bytes := cL_makes) (cc := code) (maxL := 13) (nL := 23) (n := 9) (index := 157) (pc := 1120) (ret := none) (ws := wsL_makes) (rm := cq_rm 3 85) (Ts := wsL_law) (own := RL) (D := D) (Y := Y) (W0 := [(ar 0, .inl (Y.2.2, 40, .inr (.inl v))), (ar 1, .inl (Y.1, 40, .inl h)), (ar 2, .inl (Y.1, 64, .inl (upd ev d (nI (1 + 8 * r + 1024 * f))))), (ar 3, .inl (Y.1, 4, .inl nn1)), (ar 4, .inl (Y.1, 12, .inl qq)), (ar 5, .inl (Y.2.2, 40, .inr (.inl li))), (ar 6, .inl (Y.1, 40, .inl bb)), (ar 7, .inl (Y.1, 40, .inl t)), (ar 8, .inl (Y.1, 1, .inl uu))]) (W1 := [(ar 0, .inl (Y.2.2, 40, .inr (.inl v'))), (ar 1, .inl (Y.1, 40, .inl h')), (ar 2, .inl (Y.1, 64, .inl (upd ev d (nI (1 + 8 * r + 1024 * f))))), (ar 3, .inl (Y.1, 4, .inl nn1)), (ar 4, .inl (Y.1, 12, .inl qq)), (ar 5, .inl (Y.2.2, 40, .inr (.inl li))), (ar 6, .inl (Y.1, 40, .inl bb)), (ar 7, .inl (Y.1, 40, .inl t')), (ar 8, .inl (Y.1, 1, .inl uu))]) (wl := qz_A Y ar v h (upd ev d (nI (1 + 8 * r + 1024 * f))) nn1 qq li bb t uu) (Wr := lz_K Y o0 ast ald ahi act acd st ld hi ct cd) (v := none) (As := [.ref (ar 0), .ref (ar 1), .ref (ar 2), .ref (ar 3), .ref (ar 4), .ref (ar 5), .ref (ar 6), .ref (ar 7), .ref (ar 8)]) (rest := []) (A := fun q => s.heap.size ≤ q) (qz_A Y ar v' h' (upd ev d (nI (1 + 8 * r + 1024 * f))) nn1 qq li bb t' uu) [0, 1, 2, 3, 4, 5, 6, 7, 8] [] ⟨hx, hb, hml, hown, hts⟩ (ct_L_makes l D Y (ar 0) v (ar 1) h (ar 2) (upd ev d (nI (1 + 8 * r + 1024 * f))) (ar 3) nn1 (ar 4) qq (ar 5) li (ar 6) bb (ar 7) t (ar 8) uu  (v', h', t') hM) (va_cwS 9 hts gL_law_L_makes rfl rfl rfl (by decide +kernel) ⟨Nat.le_of_ble_eq_true rfl, Nat.le_of_ble_eq_true rfl⟩) hG hap qz_eA lz_eK hP hPK hS rfl (by decide +kernel) ⟨rfl, ⟨[], rfl, rfl⟩, 9, rfl, by decide +kernel⟩ rfl rfl hl.1 rfl (Nat.le_of_ble_eq_true rfl) dL_law_1120 ⟨qz_f1 (k := 0) (show cells + 2000 ≤ 600130 by omega) (by decide), qz_f2 (k := 0) (show slots + 12000 ≤ 7301080 by omega) (by decide)⟩ (fun H locs hP hPK hS => ?_)
                have hP : va_P D vwCl (qz_A Y ar v' h' (upd ev d (nI (1 + 8 * r + 1024 * f))) nn1 qq li bb t' uu) H := hP
                have hD : va_D (fun q => s.heap.size ≤ q) (qz_A Y ar v' h' (upd ev d (nI (1 + 8 * r + 1024 * f))) nn1 qq li bb t' uu) := qz_apD hap qz_eA
                change W _ _ _ _ _ _ _ _ _ _ _ _ _ _ _ (F0 m 1123 _ [])
                refine lv_iload hx hb dL_law_1123 (lv_at hl 14 rfl) ?_
                refine lv_bipush (v := 18) hx hb dL_law_1125 (by decide) ?_
                refine lv_icmp_ne (tgt := 1163) hx hb dL_law_1127 (by decide) (fun c_248 => ?_) (fun c_248 => ?_)
                · exact absurd (show nI K = 18 from congrArg nI hK) c_248
                · refine lv_aload_n hx hb dL_law_1130 rfl (lv_at hl 1 rfl) ?_
                  refine lv_iload hx hb dL_law_1131 (lv_at hl 15 rfl) ?_
                  refine lv_iload hx hb dL_law_1133 (lv_at hl 16 rfl) ?_
                  refine lv_iload hx hb dL_law_1135 (lv_at hl 17 rfl) ?_
                  refine lz_callL (l := l) (pc := 1137) (n := 4) (W0 := lz_K Y o0 ast ald ahi act acd st ld hi ct cd) (Wr := qz_A Y ar v' h' (upd ev d (nI (1 + 8 * r + 1024 * f))) nn1 qq li bb t' uu) (As := [.ref o0, .int (nI r), .int (nI f), .int (nI 1)]) (rest := []) C0 hG hB hNC hap.app.2.1 lz_eK qz_eA hap.swap (ct_protects_ok0 l D Y o0 ast st ald ld ahi hi act ct acd cd (nI r) (nI f) (nI 1) z hE (hz.trans (by rw [hg]; rfl)) hl0) gL_law_L_protects rfl rfl rfl (by decide +kernel) ⟨Nat.le_of_ble_eq_true rfl, Nat.le_of_ble_eq_true rfl⟩ rfl hl.1 rfl (Nat.le_of_ble_eq_true rfl) dL_law_1137 ⟨qz_f1 (k := 3) (show cells + 2000 ≤ 600130 by omega) (by decide), qz_f2 (k := 18) (show slots + 12000 ≤ 7301080 by omega) (by decide)⟩ hPK hP hS (fun H locs hPK hP hS => ?_)
                  have hPK : va_P D vwCl (lz_K Y o0 ast ald ahi act acd st ld z.1.1 z.1.2 cd) H := hPK
                  have hP : va_P D vwCl (qz_A Y ar v' h' (upd ev d (nI (1 + 8 * r + 1024 * f))) nn1 qq li bb t' uu) H := hP
                  have hD : va_D (fun q => s.heap.size ≤ q) (qz_A Y ar v' h' (upd ev d (nI (1 + 8 * r + 1024 * f))) nn1 qq li bb t' uu) := qz_apD hap qz_eA
                  change W _ _ _ _ _ _ _ _ _ _ _ _ _ _ _ (F0 m 1140 _ (.int 0 :: []))
                  refine lv_iload hx hb dL_law_1140 (lv_at hl 18 rfl) ?_
                  refine lv_topi (fun w_249 ew_249 => ?_)
                  obtain rfl : w_249 = 1 := ew_249.trans (show nI (ix (v r)) = 1 by rw [h1]; rfl)
                  refine lv_if_eq (tgt := 1150) hx hb dL_law_1142 (by decide) (fun c_250 => ?_) (fun c_250 => ?_)
                  · exact absurd c_250 (by decide)
                  · refine lv_iload hx hb dL_law_1145 (lv_at hl 19 rfl) ?_
                    refine lv_goto (tgt := 1152) hx hb dL_law_1147 (by decide) ?_
                    refine lv_topi (fun w_251 ew_251 => ?_)
                    obtain rfl : w_251 = 0 := ew_251.trans (show nI (gx (v r) f) = 0 by rw [hg]; rfl)
                    refine lv_icmp_ne (tgt := 1159) hx hb dL_law_1152 (by decide) (fun c_252 => ?_) (fun c_252 => ?_)
                    · exact absurd c_252 (by decide)
                    · refine lv_iconst (v := 1) hx hb dL_law_1155 (by decide) ?_
                      refine lv_goto (tgt := 1193) hx hb dL_law_1156 (by decide) ?_
                      refine lv_istore (lv' := [(13, .int 1), (0, .ref b), (1, .ref o0), (2, .ref (ar 0)), (3, .ref (ar 1)), (4, .ref (ar 2)), (5, .ref (ar 5)), (6, .ref (ar 6)), (7, .ref (ar 7)), (8, .ref (ar 3)), (9, .ref (ar 8)), (10, .ref (ar 4)), (11, .long dr), (14, .int (nI tn)), (16, .int (nI K)), (18, .int (nI r)), (19, .int (nI f)), (20, .int (nI 1)), (21, .int (nI (ix (v r)))), (22, .int (nI (gx (v r) f)))]) hx hb dL_law_1193 hl (by decide) rfl (fun ls hl => ?_)
                      refine lv_goto (tgt := 1522) hx hb dL_law_1195 (by decide) ?_
                      exact W.widen (by omega) (by omega) (go _ _ _ _ _ _ _ _ _ _ _ _ _ _ _ _ _ _ _ _ H locs ls hT I' hP hPK hS (lv_sub hl [1, 2, 3, 4, 5, 6, 7, 8, 9, 10, 11, 12, 0, 13] rfl))
      · refine lv_iload hx hb dL_law_1056 (lv_at hl 18 rfl) ?_
        refine lv_topi (fun w_253 ew_253 => ?_)
        obtain rfl : w_253 = 1 := ew_253.trans (show nI (ix (v r)) = 1 by rw [h1]; rfl)
        refine lv_if_eq (tgt := 1123) hx hb dL_law_1058 (by decide) (fun c_254 => ?_) (fun c_254 => ?_)
        · exact absurd c_254 (by decide)
        · refine lv_aload hx hb dL_law_1061 (lv_at hl 4 rfl) ?_
          refine lv_aload hx hb dL_law_1063 (lv_at hl 8 rfl) ?_
          refine lv_iload hx hb dL_law_1065 (lv_at hl 14 rfl) ?_
          refine lv_bipush (v := 18) hx hb dL_law_1067 (by decide) ?_
          refine lv_icmp_ne (tgt := 1085) hx hb dL_law_1069 (by decide) (fun c_255 => ?_) (fun c_255 => ?_)
          · exact absurd (show nI K = 18 from congrArg nI hK) c_255
          · refine lv_iload hx hb dL_law_1072 (lv_at hl 17 rfl) ?_
            refine lv_topi (fun w_256 ew_256 => ?_)
            obtain rfl : w_256 = 1 := ew_256.trans (show nI 1 = 1 from rfl)
            refine lv_if_eq (tgt := 1081) hx hb dL_law_1074 (by decide) (fun c_257 => ?_) (fun c_257 => ?_)
            · exact absurd c_257 (by decide)
            · refine lv_iconst (v := 1) hx hb dL_law_1077 (by decide) ?_
              refine lv_goto (tgt := 1086) hx hb dL_law_1078 (by decide) ?_
              refine lv_iload hx hb dL_law_1086 (lv_at hl 15 rfl) ?_
              refine lv_iload hx hb dL_law_1088 (lv_at hl 14 rfl) ?_
              refine lv_bipush (v := 18) hx hb dL_law_1090 (by decide) ?_
              refine lv_icmp_ne (tgt := 1100) hx hb dL_law_1092 (by decide) (fun c_258 => ?_) (fun c_258 => ?_)
              · exact absurd (show nI K = 18 from congrArg nI hK) c_258
              · refine lv_iload hx hb dL_law_1095 (lv_at hl 16 rfl) ?_
                refine lv_goto (tgt := 1101) hx hb dL_law_1097 (by decide) ?_
                refine qz_WS (R := room_1) (args := #[Value.ref b]) (y := yL_adds) (bytes := cL_adds) (cc := code) (maxL := 5) (nL := 23) (n := 5) (index := 153) (pc := 1101) (ret := none) (ws := wsL_adds) (rm := cq_rm 0 0) (Ts := wsL_law) (own := RL) (D := D) (Y := Y) (W0 := [(ar 2, .inl (Y.1, 64, .inl ev)), (ar 3, .inl (Y.1, 4, .inl nn))]) (W1 := [(ar 2, .inl (Y.1, 64, .inl (upd ev d (nI (1 + 8 * r + 1024 * f))))), (ar 3, .inl (Y.1, 4, .inl nn1))]) (wl := qz_A Y ar v h ev nn qq li bb t uu) (Wr := lz_K Y o0 ast ald ahi act acd st ld hi ct cd) (v := none) (As := [.ref (ar 2), .ref (ar 3), .int 1, .int (nI r), .int (nI f)]) (rest := []) (A := fun q => s.heap.size ≤ q) (qz_A Y ar v h (upd ev d (nI (1 + 8 * r + 1024 * f))) nn1 qq li bb t uu) [2, 3] [0, 1, 4, 5, 6, 7, 8] ⟨hx, hb, hml, hown, hts⟩ (ct_L_adds l D Y (ar 2) ev (ar 3) nn (1 : Int32) (nI r) (nI f) (upd ev d (nI (1 + 8 * r + 1024 * f)), nn1) hA) (va_cwS 5 hts gL_law_L_adds rfl rfl rfl (by decide +kernel) ⟨Nat.le_of_ble_eq_true rfl, Nat.le_of_ble_eq_true rfl⟩) hG hap qz_eA lz_eK hP hPK hS rfl (by decide +kernel) ⟨rfl, ⟨[(ar 0, .inl (Y.2.2, 40, .inr (.inl v))), (ar 1, .inl (Y.1, 40, .inl h)), (ar 4, .inl (Y.1, 12, .inl qq)), (ar 5, .inl (Y.2.2, 40, .inr (.inl li))), (ar 6, .inl (Y.1, 40, .inl bb)), (ar 7, .inl (Y.1, 40, .inl t)), (ar 8, .inl (Y.1, 1, .inl uu))], rfl, rfl⟩, 9, rfl, by decide +kernel⟩ rfl rfl hl.1 rfl (Nat.le_of_ble_eq_true rfl) dL_law_1101 ⟨qz_f1 (k := 0) (show cells + 2000 ≤ 600130 by omega) (by decide), qz_f2 (k := 0) (show slots + 12000 ≤ 7301080 by omega) (by decide)⟩ (fun H locs hP hPK hS => ?_)
                have hP : va_P D vwCl (qz_A Y ar v h (upd ev d (nI (1 + 8 * r + 1024 * f))) nn1 qq li bb t uu) H := hP
                have hD : va_D (fun q => s.heap.size ≤ q) (qz_A Y ar v h (upd ev d (nI (1 + 8 * r + 1024 * f))) nn1 qq li bb t uu) := qz_apD hap qz_eA
                change W _ _ _ _ _ _ _ _ _ _ _ _ _ _ _ (F0 m 1104 _ [])
                refine lv_aload_n hx hb dL_law_1104 rfl (lv_at hl 2 rfl) ?_
                refine lv_aload_n hx hb dL_law_1105 rfl (lv_at hl 3 rfl) ?_
                refine lv_aload hx hb dL_law_1106 (lv_at hl 4 rfl) ?_
                refine lv_aload hx hb dL_law_1108 (lv_at hl 8 rfl) ?_
                refine lv_aload hx hb dL_law_1110 (lv_at hl 10 rfl) ?_
                refine lv_aload hx hb dL_law_1112 (lv_at hl 5 rfl) ?_
                refine lv_aload hx hb dL_law_1114 (lv_at hl 6 rfl) ?_
                refine lv_aload hx hb dL_law_1116 (lv_at hl 7 rfl) ?_
                refine lv_aload hx hb dL_law_1118 (lv_at hl 9 rfl) ?_
                refine qz_WS (R := room_1) (args := #[Value.ref b]) (y := yL_makes) (bytes := cL_makes) (cc := code) (maxL := 13) (nL := 23) (n := 9) (index := 157) (pc := 1120) (ret := none) (ws := wsL_makes) (rm := cq_rm 3 85) (Ts := wsL_law) (own := RL) (D := D) (Y := Y) (W0 := [(ar 0, .inl (Y.2.2, 40, .inr (.inl v))), (ar 1, .inl (Y.1, 40, .inl h)), (ar 2, .inl (Y.1, 64, .inl (upd ev d (nI (1 + 8 * r + 1024 * f))))), (ar 3, .inl (Y.1, 4, .inl nn1)), (ar 4, .inl (Y.1, 12, .inl qq)), (ar 5, .inl (Y.2.2, 40, .inr (.inl li))), (ar 6, .inl (Y.1, 40, .inl bb)), (ar 7, .inl (Y.1, 40, .inl t)), (ar 8, .inl (Y.1, 1, .inl uu))]) (W1 := [(ar 0, .inl (Y.2.2, 40, .inr (.inl v'))), (ar 1, .inl (Y.1, 40, .inl h')), (ar 2, .inl (Y.1, 64, .inl (upd ev d (nI (1 + 8 * r + 1024 * f))))), (ar 3, .inl (Y.1, 4, .inl nn1)), (ar 4, .inl (Y.1, 12, .inl qq)), (ar 5, .inl (Y.2.2, 40, .inr (.inl li))), (ar 6, .inl (Y.1, 40, .inl bb)), (ar 7, .inl (Y.1, 40, .inl t')), (ar 8, .inl (Y.1, 1, .inl uu))]) (wl := qz_A Y ar v h (upd ev d (nI (1 + 8 * r + 1024 * f))) nn1 qq li bb t uu) (Wr := lz_K Y o0 ast ald ahi act acd st ld hi ct cd) (v := none) (As := [.ref (ar 0), .ref (ar 1), .ref (ar 2), .ref (ar 3), .ref (ar 4), .ref (ar 5), .ref (ar 6), .ref (ar 7), .ref (ar 8)]) (rest := []) (A := fun q => s.heap.size ≤ q) (qz_A Y ar v' h' (upd ev d (nI (1 + 8 * r + 1024 * f))) nn1 qq li bb t' uu) [0, 1, 2, 3, 4, 5, 6, 7, 8] [] ⟨hx, hb, hml, hown, hts⟩ (ct_L_makes l D Y (ar 0) v (ar 1) h (ar 2) (upd ev d (nI (1 + 8 * r + 1024 * f))) (ar 3) nn1 (ar 4) qq (ar 5) li (ar 6) bb (ar 7) t (ar 8) uu  (v', h', t') hM) (va_cwS 9 hts gL_law_L_makes rfl rfl rfl (by decide +kernel) ⟨Nat.le_of_ble_eq_true rfl, Nat.le_of_ble_eq_true rfl⟩) hG hap qz_eA lz_eK hP hPK hS rfl (by decide +kernel) ⟨rfl, ⟨[], rfl, rfl⟩, 9, rfl, by decide +kernel⟩ rfl rfl hl.1 rfl (Nat.le_of_ble_eq_true rfl) dL_law_1120 ⟨qz_f1 (k := 0) (show cells + 2000 ≤ 600130 by omega) (by decide), qz_f2 (k := 0) (show slots + 12000 ≤ 7301080 by omega) (by decide)⟩ (fun H locs hP hPK hS => ?_)
                have hP : va_P D vwCl (qz_A Y ar v' h' (upd ev d (nI (1 + 8 * r + 1024 * f))) nn1 qq li bb t' uu) H := hP
                have hD : va_D (fun q => s.heap.size ≤ q) (qz_A Y ar v' h' (upd ev d (nI (1 + 8 * r + 1024 * f))) nn1 qq li bb t' uu) := qz_apD hap qz_eA
                change W _ _ _ _ _ _ _ _ _ _ _ _ _ _ _ (F0 m 1123 _ [])
                refine lv_iload hx hb dL_law_1123 (lv_at hl 14 rfl) ?_
                refine lv_bipush (v := 18) hx hb dL_law_1125 (by decide) ?_
                refine lv_icmp_ne (tgt := 1163) hx hb dL_law_1127 (by decide) (fun c_259 => ?_) (fun c_259 => ?_)
                · exact absurd (show nI K = 18 from congrArg nI hK) c_259
                · refine lv_aload_n hx hb dL_law_1130 rfl (lv_at hl 1 rfl) ?_
                  refine lv_iload hx hb dL_law_1131 (lv_at hl 15 rfl) ?_
                  refine lv_iload hx hb dL_law_1133 (lv_at hl 16 rfl) ?_
                  refine lv_iload hx hb dL_law_1135 (lv_at hl 17 rfl) ?_
                  refine lz_callL (l := l) (pc := 1137) (n := 4) (W0 := lz_K Y o0 ast ald ahi act acd st ld hi ct cd) (Wr := qz_A Y ar v' h' (upd ev d (nI (1 + 8 * r + 1024 * f))) nn1 qq li bb t' uu) (As := [.ref o0, .int (nI r), .int (nI f), .int (nI 1)]) (rest := []) C0 hG hB hNC hap.app.2.1 lz_eK qz_eA hap.swap (ct_protects_ok1 l D Y o0 ast st ald ld ahi hi act ct acd cd (nI r) (nI f) (nI 1) z hE (fun h9 => hg ((n0 (by have := gx_lt (x := v r) (k := f); omega)).mp (hz.symm.trans h9))) hl0) gL_law_L_protects rfl rfl rfl (by decide +kernel) ⟨Nat.le_of_ble_eq_true rfl, Nat.le_of_ble_eq_true rfl⟩ rfl hl.1 rfl (Nat.le_of_ble_eq_true rfl) dL_law_1137 ⟨qz_f1 (k := 3) (show cells + 2000 ≤ 600130 by omega) (by decide), qz_f2 (k := 18) (show slots + 12000 ≤ 7301080 by omega) (by decide)⟩ hPK hP hS (fun H locs hPK hP hS => ?_)
                  have hPK : va_P D vwCl (lz_K Y o0 ast ald ahi act acd st ld z.1.1 z.1.2 cd) H := hPK
                  have hP : va_P D vwCl (qz_A Y ar v' h' (upd ev d (nI (1 + 8 * r + 1024 * f))) nn1 qq li bb t' uu) H := hP
                  have hD : va_D (fun q => s.heap.size ≤ q) (qz_A Y ar v' h' (upd ev d (nI (1 + 8 * r + 1024 * f))) nn1 qq li bb t' uu) := qz_apD hap qz_eA
                  change W _ _ _ _ _ _ _ _ _ _ _ _ _ _ _ (F0 m 1140 _ (.int 1 :: []))
                  refine lv_iload hx hb dL_law_1140 (lv_at hl 18 rfl) ?_
                  refine lv_topi (fun w_260 ew_260 => ?_)
                  obtain rfl : w_260 = 1 := ew_260.trans (show nI (ix (v r)) = 1 by rw [h1]; rfl)
                  refine lv_if_eq (tgt := 1150) hx hb dL_law_1142 (by decide) (fun c_261 => ?_) (fun c_261 => ?_)
                  · exact absurd c_261 (by decide)
                  · refine lv_iload hx hb dL_law_1145 (lv_at hl 19 rfl) ?_
                    refine lv_goto (tgt := 1152) hx hb dL_law_1147 (by decide) ?_
                    refine lv_topi (fun w_262 ew_262 => ?_)
                    obtain rfl : w_262 = 1 := ew_262.trans (show nI (gx (v r) f) = 1 by rw [show gx (v r) f = 1 by have := gx_lt (x := v r) (k := f); omega]; rfl)
                    refine lv_icmp_ne (tgt := 1159) hx hb dL_law_1152 (by decide) (fun c_263 => ?_) (fun c_263 => ?_)
                    · exact absurd c_263 (by decide)
                    · refine lv_iconst (v := 1) hx hb dL_law_1155 (by decide) ?_
                      refine lv_goto (tgt := 1193) hx hb dL_law_1156 (by decide) ?_
                      refine lv_istore (lv' := [(13, .int 1), (0, .ref b), (1, .ref o0), (2, .ref (ar 0)), (3, .ref (ar 1)), (4, .ref (ar 2)), (5, .ref (ar 5)), (6, .ref (ar 6)), (7, .ref (ar 7)), (8, .ref (ar 3)), (9, .ref (ar 8)), (10, .ref (ar 4)), (11, .long dr), (14, .int (nI tn)), (16, .int (nI K)), (18, .int (nI r)), (19, .int (nI f)), (20, .int (nI 1)), (21, .int (nI (ix (v r)))), (22, .int (nI (gx (v r) f)))]) hx hb dL_law_1193 hl (by decide) rfl (fun ls hl => ?_)
                      refine lv_goto (tgt := 1522) hx hb dL_law_1195 (by decide) ?_
                      exact W.widen (by omega) (by omega) (go _ _ _ _ _ _ _ _ _ _ _ _ _ _ _ _ _ _ _ _ H locs ls hT I' hP hPK hS (lv_sub hl [1, 2, 3, 4, 5, 6, 7, 8, 9, 10, 11, 12, 0, 13] rfl))
    · refine lv_iload hx hb dL_law_1056 (lv_at hl 18 rfl) ?_
      refine lv_topi (fun w_264 ew_264 => ?_)
      obtain rfl : w_264 = 0 := ew_264.trans (show nI (ix (v r)) = 0 by rw [show ix (v r) = 0 by have := ix_lt (x := v r); omega]; rfl)
      refine lv_if_eq (tgt := 1123) hx hb dL_law_1058 (by decide) (fun c_265 => ?_) (fun c_265 => ?_)
      · refine lv_iload hx hb dL_law_1123 (lv_at hl 14 rfl) ?_
        refine lv_bipush (v := 18) hx hb dL_law_1125 (by decide) ?_
        refine lv_icmp_ne (tgt := 1163) hx hb dL_law_1127 (by decide) (fun c_266 => ?_) (fun c_266 => ?_)
        · exact absurd (show nI K = 18 from congrArg nI hK) c_266
        · refine lv_aload_n hx hb dL_law_1130 rfl (lv_at hl 1 rfl) ?_
          refine lv_iload hx hb dL_law_1131 (lv_at hl 15 rfl) ?_
          refine lv_iload hx hb dL_law_1133 (lv_at hl 16 rfl) ?_
          refine lv_iload hx hb dL_law_1135 (lv_at hl 17 rfl) ?_
          refine lz_callL (l := l) (pc := 1137) (n := 4) (W0 := lz_K Y o0 ast ald ahi act acd st ld hi ct cd) (Wr := qz_A Y ar v h ev nn qq li bb t uu) (As := [.ref o0, .int (nI r), .int (nI f), .int (nI 1)]) (rest := []) C0 hG hB hNC hap.app.2.1 lz_eK qz_eA hap.swap (ct_protects_ex88 l D Y o0 ast st ald ld ahi hi act ct acd cd (nI r) (nI f) (nI 1) (tv_prot0 I hrr h1) hl0) gL_law_L_protects rfl rfl rfl (by decide +kernel) ⟨Nat.le_of_ble_eq_true rfl, Nat.le_of_ble_eq_true rfl⟩ rfl hl.1 rfl (Nat.le_of_ble_eq_true rfl) dL_law_1137 ⟨qz_f1 (k := 3) (show cells + 2000 ≤ 600130 by omega) (by decide), qz_f2 (k := 18) (show slots + 12000 ≤ 7301080 by omega) (by decide)⟩ hPK hP hS (fun H locs hPK hP hS => ?_)
          have hPK : va_P D vwCl (lz_K Y o0 ast ald ahi act acd st ld hi ct cd) H := hPK
          have hP : va_P D vwCl (qz_A Y ar v h ev nn qq li bb t uu) H := hP
          have hD : va_D (fun q => s.heap.size ≤ q) (qz_A Y ar v h ev nn qq li bb t uu) := qz_apD hap qz_eA
          change W _ _ _ _ _ _ _ _ _ _ _ _ _ _ _ (F0 m 1140 _ (.int (-11) :: []))
          refine lv_iload hx hb dL_law_1140 (lv_at hl 18 rfl) ?_
          refine lv_topi (fun w_267 ew_267 => ?_)
          obtain rfl : w_267 = 0 := ew_267.trans (show nI (ix (v r)) = 0 by rw [show ix (v r) = 0 by have := ix_lt (x := v r); omega]; rfl)
          refine lv_if_eq (tgt := 1150) hx hb dL_law_1142 (by decide) (fun c_268 => ?_) (fun c_268 => ?_)
          · refine lv_bipush (v := (-11)) hx hb dL_law_1150 (by decide) ?_
            refine lv_icmp_ne (tgt := 1159) hx hb dL_law_1152 (by decide) (fun c_269 => ?_) (fun c_269 => ?_)
            · exact absurd c_269 (by decide)
            · refine lv_iconst (v := 1) hx hb dL_law_1155 (by decide) ?_
              refine lv_goto (tgt := 1193) hx hb dL_law_1156 (by decide) ?_
              refine lv_istore (lv' := [(13, .int 1), (0, .ref b), (1, .ref o0), (2, .ref (ar 0)), (3, .ref (ar 1)), (4, .ref (ar 2)), (5, .ref (ar 5)), (6, .ref (ar 6)), (7, .ref (ar 7)), (8, .ref (ar 3)), (9, .ref (ar 8)), (10, .ref (ar 4)), (11, .long dr), (14, .int (nI tn)), (16, .int (nI K)), (18, .int (nI r)), (19, .int (nI f)), (20, .int (nI 1)), (21, .int (nI (ix (v r)))), (22, .int (nI (gx (v r) f)))]) hx hb dL_law_1193 hl (by decide) rfl (fun ls hl => ?_)
              refine lv_goto (tgt := 1522) hx hb dL_law_1195 (by decide) ?_
              exact W.widen (by omega) (by omega) (go _ _ _ _ _ _ _ _ _ _ _ _ _ _ _ _ _ _ _ _ H locs ls hT I hP hPK hS (lv_sub hl [1, 2, 3, 4, 5, 6, 7, 8, 9, 10, 11, 12, 0, 13] rfl))
          · exact absurd c_268 (by decide)
      · exact absurd c_265 (by decide)

set_option maxHeartbeats 4000000 in
set_option maxRecDepth 100000 in
theorem qz_B8h (X : qz_X p l s m meth c b L xs D Y o0 ast ald ahi act acd ar) (hc : cells + 4000 ≤ 600130) (hsl : slots + 24000 ≤ 7301080) (I : IV n bt d U st ld hi ct cd u v h ev nn qq li bb t uu dr) (hP : va_P D vwCl (qz_A Y ar v h ev nn qq li bb t uu) H) (hPK : va_P D vwCl (lz_K Y o0 ast ald ahi act acd st ld hi ct cd) H) (hS : va_S (fun q => s.heap.size ≤ q) s.heap H locs) (go : qz_go p l e s m below meth c b D Y o0 ast ald ahi act acd ar Q 1522 tn (fun n => tn + 1 ≤ 6 → n = 0) (cells + 10) (slots + 60)) {f on : Nat} (hT : tn + 1 ≤ 6 → n = 0) (hd : d < 64) (hrr : r < 40) (hK : ¬ K = 18) (hK25 : K < 25) (hl : lv_has ls 23 [(0, .ref b), (1, .ref o0), (2, .ref (ar 0)), (3, .ref (ar 1)), (4, .ref (ar 2)), (5, .ref (ar 5)), (6, .ref (ar 6)), (7, .ref (ar 7)), (8, .ref (ar 3)), (9, .ref (ar 8)), (10, .ref (ar 4)), (11, .long dr), (13, .int 1), (14, .int (nI tn)), (16, .int (nI K)), (18, .int (nI r)), (19, .int (nI f)), (20, .int (nI on)), (21, .int (nI (ix (v r)))), (22, .int (nI (gx (v r) f)))]) : W p l e room_1 s m #[Value.ref b] below meth c H locs (cells) (slots) Q (F0 m 1056 ls []) := by
  obtain ⟨C0, hl0, hG, hB, hNC, hap⟩ := id X
  obtain ⟨hx, hb, hr, hml, hown, htb, hX, hbl, hlocks, hgv⟩ := id C0
  have hown : s.vm.findClass RL = some m.cls := hown
  have hts : ∀ w ∈ wsL_law, w.before #[Value.ref b] s = true := fun w h => htb w (wsL_law_in w h)
  have hD : va_D (fun q => s.heap.size ≤ q) (qz_A Y ar v h ev nn qq li bb t uu) := qz_apD hap qz_eA
  have hN := I.2.2.2.2.2.2.1
  have hn40 := I.2.2.2.2.2.2.2.1
  have hb10 := I.1.1.2.1
  by_cases h1 : ix (v r) = 1
  · obtain ⟨nn1, hA, hN1⟩ := adds_eq (ev := ev) (K := 3) (o := r) (q := 0) hN hd
    obtain ⟨v', h', t', hM, z, u', hE, hz, I'⟩ := tv_hold (r := r) I hd hrr h1 nn1 hN1
    refine lv_iload hx hb dL_law_1056 (lv_at hl 18 rfl) ?_
    refine lv_topi (fun w_270 ew_270 => ?_)
    obtain rfl : w_270 = 1 := ew_270.trans (show nI (ix (v r)) = 1 by rw [h1]; rfl)
    refine lv_if_eq (tgt := 1123) hx hb dL_law_1058 (by decide) (fun c_271 => ?_) (fun c_271 => ?_)
    · exact absurd c_271 (by decide)
    · refine lv_aload hx hb dL_law_1061 (lv_at hl 4 rfl) ?_
      refine lv_aload hx hb dL_law_1063 (lv_at hl 8 rfl) ?_
      refine lv_iload hx hb dL_law_1065 (lv_at hl 14 rfl) ?_
      refine lv_bipush (v := 18) hx hb dL_law_1067 (by decide) ?_
      refine lv_icmp_ne (tgt := 1085) hx hb dL_law_1069 (by decide) (fun c_272 => ?_) (fun c_272 => ?_)
      · refine lv_iconst (v := 3) hx hb dL_law_1085 (by decide) ?_
        refine lv_iload hx hb dL_law_1086 (lv_at hl 15 rfl) ?_
        refine lv_iload hx hb dL_law_1088 (lv_at hl 14 rfl) ?_
        refine lv_bipush (v := 18) hx hb dL_law_1090 (by decide) ?_
        refine lv_icmp_ne (tgt := 1100) hx hb dL_law_1092 (by decide) (fun c_273 => ?_) (fun c_273 => ?_)
        · refine lv_iconst (v := 0) hx hb dL_law_1100 (by decide) ?_
          refine qz_WS (R := room_1) (args := #[Value.ref b]) (y := yL_adds) (bytes := cL_adds) (cc := code) (maxL := 5) (nL := 23) (n := 5) (index := 153) (pc := 1101) (ret := none) (ws := wsL_adds) (rm := cq_rm 0 0) (Ts := wsL_law) (own := RL) (D := D) (Y := Y) (W0 := [(ar 2, .inl (Y.1, 64, .inl ev)), (ar 3, .inl (Y.1, 4, .inl nn))]) (W1 := [(ar 2, .inl (Y.1, 64, .inl (upd ev d (nI (3 + 8 * r + 1024 * 0))))), (ar 3, .inl (Y.1, 4, .inl nn1))]) (wl := qz_A Y ar v h ev nn qq li bb t uu) (Wr := lz_K Y o0 ast ald ahi act acd st ld hi ct cd) (v := none) (As := [.ref (ar 2), .ref (ar 3), .int 3, .int (nI r), .int 0]) (rest := []) (A := fun q => s.heap.size ≤ q) (qz_A Y ar v h (upd ev d (nI (3 + 8 * r + 1024 * 0))) nn1 qq li bb t uu) [2, 3] [0, 1, 4, 5, 6, 7, 8] ⟨hx, hb, hml, hown, hts⟩ (ct_L_adds l D Y (ar 2) ev (ar 3) nn (3 : Int32) (nI r) (0 : Int32) (upd ev d (nI (3 + 8 * r + 1024 * 0)), nn1) hA) (va_cwS 5 hts gL_law_L_adds rfl rfl rfl (by decide +kernel) ⟨Nat.le_of_ble_eq_true rfl, Nat.le_of_ble_eq_true rfl⟩) hG hap qz_eA lz_eK hP hPK hS rfl (by decide +kernel) ⟨rfl, ⟨[(ar 0, .inl (Y.2.2, 40, .inr (.inl v))), (ar 1, .inl (Y.1, 40, .inl h)), (ar 4, .inl (Y.1, 12, .inl qq)), (ar 5, .inl (Y.2.2, 40, .inr (.inl li))), (ar 6, .inl (Y.1, 40, .inl bb)), (ar 7, .inl (Y.1, 40, .inl t)), (ar 8, .inl (Y.1, 1, .inl uu))], rfl, rfl⟩, 9, rfl, by decide +kernel⟩ rfl rfl hl.1 rfl (Nat.le_of_ble_eq_true rfl) dL_law_1101 ⟨qz_f1 (k := 0) (show cells + 2000 ≤ 600130 by omega) (by decide), qz_f2 (k := 0) (show slots + 12000 ≤ 7301080 by omega) (by decide)⟩ (fun H locs hP hPK hS => ?_)
          have hP : va_P D vwCl (qz_A Y ar v h (upd ev d (nI (3 + 8 * r + 1024 * 0))) nn1 qq li bb t uu) H := hP
          have hD : va_D (fun q => s.heap.size ≤ q) (qz_A Y ar v h (upd ev d (nI (3 + 8 * r + 1024 * 0))) nn1 qq li bb t uu) := qz_apD hap qz_eA
          change W _ _ _ _ _ _ _ _ _ _ _ _ _ _ _ (F0 m 1104 _ [])
          refine lv_aload_n hx hb dL_law_1104 rfl (lv_at hl 2 rfl) ?_
          refine lv_aload_n hx hb dL_law_1105 rfl (lv_at hl 3 rfl) ?_
          refine lv_aload hx hb dL_law_1106 (lv_at hl 4 rfl) ?_
          refine lv_aload hx hb dL_law_1108 (lv_at hl 8 rfl) ?_
          refine lv_aload hx hb dL_law_1110 (lv_at hl 10 rfl) ?_
          refine lv_aload hx hb dL_law_1112 (lv_at hl 5 rfl) ?_
          refine lv_aload hx hb dL_law_1114 (lv_at hl 6 rfl) ?_
          refine lv_aload hx hb dL_law_1116 (lv_at hl 7 rfl) ?_
          refine lv_aload hx hb dL_law_1118 (lv_at hl 9 rfl) ?_
          refine qz_WS (R := room_1) (args := #[Value.ref b]) (y := yL_makes) (bytes := cL_makes) (cc := code) (maxL := 13) (nL := 23) (n := 9) (index := 157) (pc := 1120) (ret := none) (ws := wsL_makes) (rm := cq_rm 3 85) (Ts := wsL_law) (own := RL) (D := D) (Y := Y) (W0 := [(ar 0, .inl (Y.2.2, 40, .inr (.inl v))), (ar 1, .inl (Y.1, 40, .inl h)), (ar 2, .inl (Y.1, 64, .inl (upd ev d (nI (3 + 8 * r + 1024 * 0))))), (ar 3, .inl (Y.1, 4, .inl nn1)), (ar 4, .inl (Y.1, 12, .inl qq)), (ar 5, .inl (Y.2.2, 40, .inr (.inl li))), (ar 6, .inl (Y.1, 40, .inl bb)), (ar 7, .inl (Y.1, 40, .inl t)), (ar 8, .inl (Y.1, 1, .inl uu))]) (W1 := [(ar 0, .inl (Y.2.2, 40, .inr (.inl v'))), (ar 1, .inl (Y.1, 40, .inl h')), (ar 2, .inl (Y.1, 64, .inl (upd ev d (nI (3 + 8 * r + 1024 * 0))))), (ar 3, .inl (Y.1, 4, .inl nn1)), (ar 4, .inl (Y.1, 12, .inl qq)), (ar 5, .inl (Y.2.2, 40, .inr (.inl li))), (ar 6, .inl (Y.1, 40, .inl bb)), (ar 7, .inl (Y.1, 40, .inl t')), (ar 8, .inl (Y.1, 1, .inl uu))]) (wl := qz_A Y ar v h (upd ev d (nI (3 + 8 * r + 1024 * 0))) nn1 qq li bb t uu) (Wr := lz_K Y o0 ast ald ahi act acd st ld hi ct cd) (v := none) (As := [.ref (ar 0), .ref (ar 1), .ref (ar 2), .ref (ar 3), .ref (ar 4), .ref (ar 5), .ref (ar 6), .ref (ar 7), .ref (ar 8)]) (rest := []) (A := fun q => s.heap.size ≤ q) (qz_A Y ar v' h' (upd ev d (nI (3 + 8 * r + 1024 * 0))) nn1 qq li bb t' uu) [0, 1, 2, 3, 4, 5, 6, 7, 8] [] ⟨hx, hb, hml, hown, hts⟩ (ct_L_makes l D Y (ar 0) v (ar 1) h (ar 2) (upd ev d (nI (3 + 8 * r + 1024 * 0))) (ar 3) nn1 (ar 4) qq (ar 5) li (ar 6) bb (ar 7) t (ar 8) uu  (v', h', t') hM) (va_cwS 9 hts gL_law_L_makes rfl rfl rfl (by decide +kernel) ⟨Nat.le_of_ble_eq_true rfl, Nat.le_of_ble_eq_true rfl⟩) hG hap qz_eA lz_eK hP hPK hS rfl (by decide +kernel) ⟨rfl, ⟨[], rfl, rfl⟩, 9, rfl, by decide +kernel⟩ rfl rfl hl.1 rfl (Nat.le_of_ble_eq_true rfl) dL_law_1120 ⟨qz_f1 (k := 0) (show cells + 2000 ≤ 600130 by omega) (by decide), qz_f2 (k := 0) (show slots + 12000 ≤ 7301080 by omega) (by decide)⟩ (fun H locs hP hPK hS => ?_)
          have hP : va_P D vwCl (qz_A Y ar v' h' (upd ev d (nI (3 + 8 * r + 1024 * 0))) nn1 qq li bb t' uu) H := hP
          have hD : va_D (fun q => s.heap.size ≤ q) (qz_A Y ar v' h' (upd ev d (nI (3 + 8 * r + 1024 * 0))) nn1 qq li bb t' uu) := qz_apD hap qz_eA
          change W _ _ _ _ _ _ _ _ _ _ _ _ _ _ _ (F0 m 1123 _ [])
          refine lv_iload hx hb dL_law_1123 (lv_at hl 14 rfl) ?_
          refine lv_bipush (v := 18) hx hb dL_law_1125 (by decide) ?_
          refine lv_icmp_ne (tgt := 1163) hx hb dL_law_1127 (by decide) (fun c_274 => ?_) (fun c_274 => ?_)
          · refine lv_aload_n hx hb dL_law_1163 rfl (lv_at hl 1 rfl) ?_
            refine lv_iconst (v := 4) hx hb dL_law_1164 (by decide) ?_
            refine lv_iload hx hb dL_law_1165 (lv_at hl 15 rfl) ?_
            refine lv_iconst (v := 0) hx hb dL_law_1167 (by decide) ?_
            refine lz_callL (l := l) (pc := 1168) (n := 4) (W0 := lz_K Y o0 ast ald ahi act acd st ld hi ct cd) (Wr := qz_A Y ar v' h' (upd ev d (nI (3 + 8 * r + 1024 * 0))) nn1 qq li bb t' uu) (As := [.ref o0, .int 4, .int (nI r), .int 0]) (rest := []) C0 hG hB hNC hap.app.2.1 lz_eK qz_eA hap.swap (ct_does_hold_ok l D Y o0 ast st ald ld ahi hi act ct acd cd (nI r) (0 : Int32) z hE hl0) gL_law_L_does rfl rfl rfl (by decide +kernel) ⟨Nat.le_of_ble_eq_true rfl, Nat.le_of_ble_eq_true rfl⟩ rfl hl.1 rfl (Nat.le_of_ble_eq_true rfl) dL_law_1168 ⟨qz_f1 (k := 2) (show cells + 2000 ≤ 600130 by omega) (by decide), qz_f2 (k := 12) (show slots + 12000 ≤ 7301080 by omega) (by decide)⟩ hPK hP hS (fun H locs hPK hP hS => ?_)
            have hPK : va_P D vwCl (lz_K Y o0 ast ald ahi act acd st ld z.1.1 z.1.2 cd) H := hPK
            have hP : va_P D vwCl (qz_A Y ar v' h' (upd ev d (nI (3 + 8 * r + 1024 * 0))) nn1 qq li bb t' uu) H := hP
            have hD : va_D (fun q => s.heap.size ≤ q) (qz_A Y ar v' h' (upd ev d (nI (3 + 8 * r + 1024 * 0))) nn1 qq li bb t' uu) := qz_apD hap qz_eA
            change W _ _ _ _ _ _ _ _ _ _ _ _ _ _ _ (F0 m 1171 _ (.int z.2 :: []))
            refine lv_topi (fun w_275 ew_275 => ?_)
            obtain rfl : w_275 = h' r := ew_275.trans hz
            refine lv_iload hx hb dL_law_1171 (lv_at hl 18 rfl) ?_
            refine lv_topi (fun w_276 ew_276 => ?_)
            obtain rfl : w_276 = 1 := ew_276.trans (show nI (ix (v r)) = 1 by rw [h1]; rfl)
            refine lv_if_eq (tgt := 1183) hx hb dL_law_1173 (by decide) (fun c_277 => ?_) (fun c_277 => ?_)
            · exact absurd c_277 (by decide)
            · refine lv_aload_n hx hb dL_law_1176 rfl (lv_at hl 3 rfl) ?_
              refine lv_iload hx hb dL_law_1177 (lv_at hl 15 rfl) ?_
              refine va_iald hx hb hG.1 hP 1 0 rfl rfl (inb_in (inb_n (show r < 40 by omega) (by decide))) dL_law_1179 ?_
              refine lv_topi (fun w_278 ew_278 => ?_)
              obtain rfl : w_278 = h' r := ew_278.trans (congrArg h' (ncl (show r < 2147483648 by omega)))
              refine lv_goto (tgt := 1185) hx hb dL_law_1180 (by decide) ?_
              refine lv_icmp_ne (tgt := 1192) hx hb dL_law_1185 (by decide) (fun c_279 => ?_) (fun c_279 => ?_)
              · exact absurd (Eq.refl (h' r)) c_279
              · refine lv_iconst (v := 1) hx hb dL_law_1188 (by decide) ?_
                refine lv_goto (tgt := 1193) hx hb dL_law_1189 (by decide) ?_
                refine lv_istore (lv' := [(13, .int 1), (0, .ref b), (1, .ref o0), (2, .ref (ar 0)), (3, .ref (ar 1)), (4, .ref (ar 2)), (5, .ref (ar 5)), (6, .ref (ar 6)), (7, .ref (ar 7)), (8, .ref (ar 3)), (9, .ref (ar 8)), (10, .ref (ar 4)), (11, .long dr), (14, .int (nI tn)), (16, .int (nI K)), (18, .int (nI r)), (19, .int (nI f)), (20, .int (nI on)), (21, .int (nI (ix (v r)))), (22, .int (nI (gx (v r) f)))]) hx hb dL_law_1193 hl (by decide) rfl (fun ls hl => ?_)
                refine lv_goto (tgt := 1522) hx hb dL_law_1195 (by decide) ?_
                exact W.widen (by omega) (by omega) (go _ _ _ _ _ _ _ _ _ _ _ _ _ _ _ _ _ _ _ _ H locs ls hT I' hP hPK hS (lv_sub hl [1, 2, 3, 4, 5, 6, 7, 8, 9, 10, 11, 12, 0, 13] rfl))
          · exact absurd c_274 (fun h9 => hK ((nI_eq (b := 18) (by omega) (by decide)).mp h9))
        · exact absurd c_273 (fun h9 => hK ((nI_eq (b := 18) (by omega) (by decide)).mp h9))
      · exact absurd c_272 (fun h9 => hK ((nI_eq (b := 18) (by omega) (by decide)).mp h9))
  · refine lv_iload hx hb dL_law_1056 (lv_at hl 18 rfl) ?_
    refine lv_topi (fun w_280 ew_280 => ?_)
    obtain rfl : w_280 = 0 := ew_280.trans (show nI (ix (v r)) = 0 by rw [show ix (v r) = 0 by have := ix_lt (x := v r); omega]; rfl)
    refine lv_if_eq (tgt := 1123) hx hb dL_law_1058 (by decide) (fun c_281 => ?_) (fun c_281 => ?_)
    · refine lv_iload hx hb dL_law_1123 (lv_at hl 14 rfl) ?_
      refine lv_bipush (v := 18) hx hb dL_law_1125 (by decide) ?_
      refine lv_icmp_ne (tgt := 1163) hx hb dL_law_1127 (by decide) (fun c_282 => ?_) (fun c_282 => ?_)
      · refine lv_aload_n hx hb dL_law_1163 rfl (lv_at hl 1 rfl) ?_
        refine lv_iconst (v := 4) hx hb dL_law_1164 (by decide) ?_
        refine lv_iload hx hb dL_law_1165 (lv_at hl 15 rfl) ?_
        refine lv_iconst (v := 0) hx hb dL_law_1167 (by decide) ?_
        refine lz_callL (l := l) (pc := 1168) (n := 4) (W0 := lz_K Y o0 ast ald ahi act acd st ld hi ct cd) (Wr := qz_A Y ar v h ev nn qq li bb t uu) (As := [.ref o0, .int 4, .int (nI r), .int 0]) (rest := []) C0 hG hB hNC hap.app.2.1 lz_eK qz_eA hap.swap (ct_does_hold_ex88 l D Y o0 ast st ald ld ahi hi act ct acd cd (nI r) (0 : Int32) (tv_hold0 I hrr h1) hl0) gL_law_L_does rfl rfl rfl (by decide +kernel) ⟨Nat.le_of_ble_eq_true rfl, Nat.le_of_ble_eq_true rfl⟩ rfl hl.1 rfl (Nat.le_of_ble_eq_true rfl) dL_law_1168 ⟨qz_f1 (k := 2) (show cells + 2000 ≤ 600130 by omega) (by decide), qz_f2 (k := 12) (show slots + 12000 ≤ 7301080 by omega) (by decide)⟩ hPK hP hS (fun H locs hPK hP hS => ?_)
        have hPK : va_P D vwCl (lz_K Y o0 ast ald ahi act acd st ld hi ct cd) H := hPK
        have hP : va_P D vwCl (qz_A Y ar v h ev nn qq li bb t uu) H := hP
        have hD : va_D (fun q => s.heap.size ≤ q) (qz_A Y ar v h ev nn qq li bb t uu) := qz_apD hap qz_eA
        change W _ _ _ _ _ _ _ _ _ _ _ _ _ _ _ (F0 m 1171 _ (.int (-11) :: []))
        refine lv_iload hx hb dL_law_1171 (lv_at hl 18 rfl) ?_
        refine lv_topi (fun w_283 ew_283 => ?_)
        obtain rfl : w_283 = 0 := ew_283.trans (show nI (ix (v r)) = 0 by rw [show ix (v r) = 0 by have := ix_lt (x := v r); omega]; rfl)
        refine lv_if_eq (tgt := 1183) hx hb dL_law_1173 (by decide) (fun c_284 => ?_) (fun c_284 => ?_)
        · refine lv_bipush (v := (-11)) hx hb dL_law_1183 (by decide) ?_
          refine lv_icmp_ne (tgt := 1192) hx hb dL_law_1185 (by decide) (fun c_285 => ?_) (fun c_285 => ?_)
          · exact absurd c_285 (by decide)
          · refine lv_iconst (v := 1) hx hb dL_law_1188 (by decide) ?_
            refine lv_goto (tgt := 1193) hx hb dL_law_1189 (by decide) ?_
            refine lv_istore (lv' := [(13, .int 1), (0, .ref b), (1, .ref o0), (2, .ref (ar 0)), (3, .ref (ar 1)), (4, .ref (ar 2)), (5, .ref (ar 5)), (6, .ref (ar 6)), (7, .ref (ar 7)), (8, .ref (ar 3)), (9, .ref (ar 8)), (10, .ref (ar 4)), (11, .long dr), (14, .int (nI tn)), (16, .int (nI K)), (18, .int (nI r)), (19, .int (nI f)), (20, .int (nI on)), (21, .int (nI (ix (v r)))), (22, .int (nI (gx (v r) f)))]) hx hb dL_law_1193 hl (by decide) rfl (fun ls hl => ?_)
            refine lv_goto (tgt := 1522) hx hb dL_law_1195 (by decide) ?_
            exact W.widen (by omega) (by omega) (go _ _ _ _ _ _ _ _ _ _ _ _ _ _ _ _ _ _ _ _ H locs ls hT I hP hPK hS (lv_sub hl [1, 2, 3, 4, 5, 6, 7, 8, 9, 10, 11, 12, 0, 13] rfl))
        · exact absurd c_284 (by decide)
      · exact absurd c_282 (fun h9 => hK ((nI_eq (b := 18) (by omega) (by decide)).mp h9))
    · exact absurd c_281 (by decide)
end LAW
