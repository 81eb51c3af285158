section LAW
variable {p : Program} {l : Launch} {e : Env} {s : State} {m : MethodId} {below : List Frame} {meth : Method} {c : Code} {H : Heap} {locs : List Loc} {cells slots : Nat} {Q : State → Prop} {ls : Array Slot} {D : va_G} {Y : cq_Y} {b L : Nat} {xs : Nat → Int32} {o0 : Nat} {ast ald ahi act acd ar : Nat → Nat}
variable {n bt d U tn K y r : Nat} {st : SetS} {ld : LodS} {hi : HisS} {ct cd : CatS} {u : MdlS} {v li : FL} {h ev nn qq bb t uu : FI} {dr : Int64}
set_option maxHeartbeats 4000000 in
set_option maxRecDepth 100000 in
theorem qz_S3 (X : qz_X p l s m meth c b L xs D Y o0 ast ald ahi act acd ar) (hc : cells + 4000 ≤ 600130) (hsl : slots + 24000 ≤ 7301080) (I : IV n bt d U st ld hi ct cd u v h ev nn qq li bb t uu dr) (hP : va_P D vwCl (qz_A Y ar v h ev nn qq li bb t uu) H) (hPK : va_P D vwCl (lz_K Y o0 ast ald ahi act acd st ld hi ct cd) H) (hS : va_S (fun q => s.heap.size ≤ q) s.heap H locs)  {xN : Nat} (hxN : xN < 2147483648) (kk : ∀ (y r : Nat) (ls : Array Slot), y < 2147483648 → r < 40 → lv_has ls 23 [(0, .ref b), (1, .ref o0), (2, .ref (ar 0)), (3, .ref (ar 1)), (4, .ref (ar 2)), (5, .ref (ar 5)), (6, .ref (ar 6)), (7, .ref (ar 7)), (8, .ref (ar 3)), (9, .ref (ar 8)), (10, .ref (ar 4)), (11, .long dr), (13, .int 1), (14, .int (nI tn)), (16, .int (nI K)), (17, .int (nI y)), (18, .int (nI r))] → W p l e room_1 s m #[Value.ref b] below meth c H locs (cells) (slots) Q (F0 m 295 ls [])) (hl : lv_has ls 23 [(0, .ref b), (1, .ref o0), (2, .ref (ar 0)), (3, .ref (ar 1)), (4, .ref (ar 2)), (5, .ref (ar 5)), (6, .ref (ar 6)), (7, .ref (ar 7)), (8, .ref (ar 3)), (9, .ref (ar 8)), (10, .ref (ar 4)), (11, .long dr), (13, .int 1), (14, .int (nI tn)), (15, .int (nI xN)), (16, .int (nI K))]) : W p l e room_1 s m #[Value.ref b] below meth c H locs (cells) (slots) Q (F0 m 222 ls []) := by
  obtain ⟨C0, hl0, hG, hB, hNC, hap⟩ := id X
  obtain ⟨hx, hb, hr, hml, hown, htb, hX, hbl, hlocks, hgv⟩ := id C0
  have hown : s.vm.findClass RL = some m.cls := hown
  have hts : ∀ w ∈ wsL_law, w.before #[Value.ref b] s = true := fun w h => htb w (wsL_law_in w h)
  have hD : va_D (fun q => s.heap.size ≤ q) (qz_A Y ar v h ev nn qq li bb t uu) := qz_apD hap qz_eA
  have hN := I.2.2.2.2.2.2.1
  have hn40 := I.2.2.2.2.2.2.2.1
  have hb10 := I.1.1.2.1
  have lp : ∀ (y : Nat), y < 2147483648 → ∀ (q k r : Nat) (ls : Array Slot), k + q = n → (r < 40 ∧ (¬ n = 0 → r < n)) → lv_has ls 23 [(0, .ref b), (1, .ref o0), (2, .ref (ar 0)), (3, .ref (ar 1)), (4, .ref (ar 2)), (5, .ref (ar 5)), (6, .ref (ar 6)), (7, .ref (ar 7)), (8, .ref (ar 3)), (9, .ref (ar 8)), (10, .ref (ar 4)), (11, .long dr), (13, .int 1), (14, .int (nI tn)), (16, .int (nI K)), (17, .int (nI y)), (18, .int (nI r)), (19, .int (nI k))] → W p l e room_1 s m #[Value.ref b] below meth c H locs (cells) (slots) Q (F0 m 252 ls []) := by
    intro y hy q; induction q with
    | zero =>
      intro k r ls hkq hr9 hl
      obtain rfl : n = k := by omega
      refine lv_iload hx hb dL_law_252 (lv_at hl 17 rfl) ?_
      refine lv_aload hx hb dL_law_254 (lv_at hl 8 rfl) ?_
      refine lv_iconst (v := 1) hx hb dL_law_256 (by decide) ?_
      refine va_iald hx hb hG.1 hP 3 0 rfl rfl (inb_in (by decide)) dL_law_257 ?_
      refine lv_topi (fun w_674 ew_674 => ?_)
      obtain rfl : w_674 = nn 1 := ew_674.trans (congrArg nn (show ((1 : Int32).toNatClampNeg) = 1 by decide))
      refine lv_topi (fun w_675 ew_675 => ?_)
      obtain rfl : w_675 = nI n := ew_675.trans hN.2.1
      refine lv_icmp_ge (tgt := 295) hx hb dL_law_258 (by decide) (fun c_676 => ?_) (fun c_676 => ?_)
      · exact kk y r ls hy hr9.1 (lv_sub hl [0, 1, 2, 3, 4, 5, 6, 7, 8, 9, 10, 11, 12, 13, 14, 15, 16] rfl)
      · exact absurd (nI_le (Nat.le_refl _) (by omega)) c_676
    | succ q ih =>
      intro k r ls hkq hr9 hl
      by_cases h5 : y % 5 = 0
      · refine lv_iload hx hb dL_law_252 (lv_at hl 17 rfl) ?_
        refine lv_aload hx hb dL_law_254 (lv_at hl 8 rfl) ?_
        refine lv_iconst (v := 1) hx hb dL_law_256 (by decide) ?_
        refine va_iald hx hb hG.1 hP 3 0 rfl rfl (inb_in (by decide)) dL_law_257 ?_
        refine lv_topi (fun w_677 ew_677 => ?_)
        obtain rfl : w_677 = nn 1 := ew_677.trans (congrArg nn (show ((1 : Int32).toNatClampNeg) = 1 by decide))
        refine lv_topi (fun w_678 ew_678 => ?_)
        obtain rfl : w_678 = nI n := ew_678.trans hN.2.1
        refine lv_icmp_ge (tgt := 295) hx hb dL_law_258 (by decide) (fun c_679 => ?_) (fun c_679 => ?_)
        · exact absurd c_679 (nI_ge (a := k) (b := n) (by omega) (by omega))
        · refine lv_iload hx hb dL_law_261 (lv_at hl 15 rfl) ?_
          refine lv_iconst (v := 5) hx hb dL_law_263 (by decide) ?_
          refine lv_irem hx hb dL_law_264 (by decide) ?_
          refine lv_topi (fun w_680 ew_680 => ?_)
          obtain rfl : w_680 = nI (y % 5) := ew_680.trans (nI_md (a := y) (b := 5) (by omega) (by omega))
          refine lv_if_le (tgt := 295) hx hb dL_law_265 (by decide) (fun c_681 => ?_) (fun c_681 => ?_)
          · exact kk y r ls hy hr9.1 (lv_sub hl [0, 1, 2, 3, 4, 5, 6, 7, 8, 9, 10, 11, 12, 13, 14, 15, 16] rfl)
          · exact absurd ((nle0 (by omega)).mpr h5) c_681
      · by_cases h1 : ix (v r) = 1
        · refine lv_iload hx hb dL_law_252 (lv_at hl 17 rfl) ?_
          refine lv_aload hx hb dL_law_254 (lv_at hl 8 rfl) ?_
          refine lv_iconst (v := 1) hx hb dL_law_256 (by decide) ?_
          refine va_iald hx hb hG.1 hP 3 0 rfl rfl (inb_in (by decide)) dL_law_257 ?_
          refine lv_topi (fun w_682 ew_682 => ?_)
          obtain rfl : w_682 = nn 1 := ew_682.trans (congrArg nn (show ((1 : Int32).toNatClampNeg) = 1 by decide))
          refine lv_topi (fun w_683 ew_683 => ?_)
          obtain rfl : w_683 = nI n := ew_683.trans hN.2.1
          refine lv_icmp_ge (tgt := 295) hx hb dL_law_258 (by decide) (fun c_684 => ?_) (fun c_684 => ?_)
          · exact absurd c_684 (nI_ge (a := k) (b := n) (by omega) (by omega))
          · refine lv_iload hx hb dL_law_261 (lv_at hl 15 rfl) ?_
            refine lv_iconst (v := 5) hx hb dL_law_263 (by decide) ?_
            refine lv_irem hx hb dL_law_264 (by decide) ?_
            refine lv_topi (fun w_685 ew_685 => ?_)
            obtain rfl : w_685 = nI (y % 5) := ew_685.trans (nI_md (a := y) (b := 5) (by omega) (by omega))
            refine lv_if_le (tgt := 295) hx hb dL_law_265 (by decide) (fun c_686 => ?_) (fun c_686 => ?_)
            · exact absurd c_686 (fun h9 => h5 ((nle0 (by omega)).mp h9))
            · refine lv_aload_n hx hb dL_law_268 rfl (lv_at hl 2 rfl) ?_
              refine lv_iload hx hb dL_law_269 (lv_at hl 16 rfl) ?_
              refine va_lald hx hb hG.1 hP 0 2 rfl rfl (inb_in (inb_n (show r < 40 by omega) (by decide))) dL_law_271 ?_
              refine lv_topl (fun w_687 ew_687 => ?_)
              obtain rfl : w_687 = v r := ew_687.trans (congrArg v (ncl (show r < 2147483648 by omega)))
              refine cq_RS (R := room_1) (args := #[Value.ref b]) (y := yL_isIn) (bytes := cL_isIn) (cc := code) (maxL := 2) (nL := 23) (n := 1) (index := 15) (ret := (some .boolean)) (ws := wsL_isIn) (rm := cq_rm 0 0) (Ts := wsL_law) (own := RL) (D := D) (Y := Y) (W0 := ([] : va_W)) (wl := qz_A Y ar v h ev nn qq li bb t uu) (v := some (.int (m_L_isIn (v r)))) (st0 := [.long (v r)]) (As := [.long (v r)]) (rest := []) ⟨hx, hb, hml, hown, hts⟩ (ct_L_isIn l D Y  (v r)) (va_cwS 1 hts gL_law_L_isIn rfl rfl rfl (by decide +kernel) ⟨Nat.le_of_ble_eq_true rfl, Nat.le_of_ble_eq_true rfl⟩) hG hP hD [] rfl (by decide +kernel) rfl hl.1 rfl (Nat.le_of_ble_eq_true rfl) dL_law_272 ⟨qz_f1 (k := 0) (show cells + 2000 ≤ 600130 by omega) (by decide), qz_f2 (k := 0) (show slots + 12000 ≤ 7301080 by omega) (by decide)⟩ ?_
              change W _ _ _ _ _ _ _ _ _ _ _ _ _ _ _ (F0 m 275 _ (.int (m_L_isIn (v r)) :: []))
              refine lv_topi (fun w_688 ew_688 => ?_)
              obtain rfl : w_688 = 1 := ew_688.trans (L_isIn.trans (by rw [h1]; rfl))
              refine lv_if_ne (tgt := 295) hx hb dL_law_275 (by decide) (fun c_689 => ?_) (fun c_689 => ?_)
              · exact kk y r ls hy hr9.1 (lv_sub hl [0, 1, 2, 3, 4, 5, 6, 7, 8, 9, 10, 11, 12, 13, 14, 15, 16] rfl)
              · exact absurd c_689 (by decide)
        · have hmr := Nat.mod_lt (r + 1) (show n > 0 by omega)
          refine lv_iload hx hb dL_law_252 (lv_at hl 17 rfl) ?_
          refine lv_aload hx hb dL_law_254 (lv_at hl 8 rfl) ?_
          refine lv_iconst (v := 1) hx hb dL_law_256 (by decide) ?_
          refine va_iald hx hb hG.1 hP 3 0 rfl rfl (inb_in (by decide)) dL_law_257 ?_
          refine lv_topi (fun w_690 ew_690 => ?_)
          obtain rfl : w_690 = nn 1 := ew_690.trans (congrArg nn (show ((1 : Int32).toNatClampNeg) = 1 by decide))
          refine lv_topi (fun w_691 ew_691 => ?_)
          obtain rfl : w_691 = nI n := ew_691.trans hN.2.1
          refine lv_icmp_ge (tgt := 295) hx hb dL_law_258 (by decide) (fun c_692 => ?_) (fun c_692 => ?_)
          · exact absurd c_692 (nI_ge (a := k) (b := n) (by omega) (by omega))
          · refine lv_iload hx hb dL_law_261 (lv_at hl 15 rfl) ?_
            refine lv_iconst (v := 5) hx hb dL_law_263 (by decide) ?_
            refine lv_irem hx hb dL_law_264 (by decide) ?_
            refine lv_topi (fun w_693 ew_693 => ?_)
            obtain rfl : w_693 = nI (y % 5) := ew_693.trans (nI_md (a := y) (b := 5) (by omega) (by omega))
            refine lv_if_le (tgt := 295) hx hb dL_law_265 (by decide) (fun c_694 => ?_) (fun c_694 => ?_)
            · exact absurd c_694 (fun h9 => h5 ((nle0 (by omega)).mp h9))
            · refine lv_aload_n hx hb dL_law_268 rfl (lv_at hl 2 rfl) ?_
              refine lv_iload hx hb dL_law_269 (lv_at hl 16 rfl) ?_
              refine va_lald hx hb hG.1 hP 0 2 rfl rfl (inb_in (inb_n (show r < 40 by omega) (by decide))) dL_law_271 ?_
              refine lv_topl (fun w_695 ew_695 => ?_)
              obtain rfl : w_695 = v r := ew_695.trans (congrArg v (ncl (show r < 2147483648 by omega)))
              refine cq_RS (R := room_1) (args := #[Value.ref b]) (y := yL_isIn) (bytes := cL_isIn) (cc := code) (maxL := 2) (nL := 23) (n := 1) (index := 15) (ret := (some .boolean)) (ws := wsL_isIn) (rm := cq_rm 0 0) (Ts := wsL_law) (own := RL) (D := D) (Y := Y) (W0 := ([] : va_W)) (wl := qz_A Y ar v h ev nn qq li bb t uu) (v := some (.int (m_L_isIn (v r)))) (st0 := [.long (v r)]) (As := [.long (v r)]) (rest := []) ⟨hx, hb, hml, hown, hts⟩ (ct_L_isIn l D Y  (v r)) (va_cwS 1 hts gL_law_L_isIn rfl rfl rfl (by decide +kernel) ⟨Nat.le_of_ble_eq_true rfl, Nat.le_of_ble_eq_true rfl⟩) hG hP hD [] rfl (by decide +kernel) rfl hl.1 rfl (Nat.le_of_ble_eq_true rfl) dL_law_272 ⟨qz_f1 (k := 0) (show cells + 2000 ≤ 600130 by omega) (by decide), qz_f2 (k := 0) (show slots + 12000 ≤ 7301080 by omega) (by decide)⟩ ?_
              change W _ _ _ _ _ _ _ _ _ _ _ _ _ _ _ (F0 m 275 _ (.int (m_L_isIn (v r)) :: []))
              refine lv_topi (fun w_696 ew_696 => ?_)
              obtain rfl : w_696 = 0 := ew_696.trans (L_isIn.trans (by rw [show ix (v r) = 0 by have := ix_lt (x := v r); omega]; rfl))
              refine lv_if_ne (tgt := 295) hx hb dL_law_275 (by decide) (fun c_697 => ?_) (fun c_697 => ?_)
              · exact absurd c_697 (by decide)
              · refine lv_iload hx hb dL_law_278 (lv_at hl 16 rfl) ?_
                refine lv_iconst (v := 1) hx hb dL_law_280 (by decide) ?_
                refine lv_iadd hx hb dL_law_281 ?_
                refine lv_topi (fun w_698 ew_698 => ?_)
                obtain rfl : w_698 = nI (r + 1) := ew_698.trans (nI_add r 1)
                refine lv_aload hx hb dL_law_282 (lv_at hl 8 rfl) ?_
                refine lv_iconst (v := 1) hx hb dL_law_284 (by decide) ?_
                refine va_iald hx hb hG.1 hP 3 0 rfl rfl (inb_in (by decide)) dL_law_285 ?_
                refine lv_topi (fun w_699 ew_699 => ?_)
                obtain rfl : w_699 = nn 1 := ew_699.trans (congrArg nn (show ((1 : Int32).toNatClampNeg) = 1 by decide))
                refine lv_topi (fun w_700 ew_700 => ?_)
                obtain rfl : w_700 = nI n := ew_700.trans hN.2.1
                refine lv_irem hx hb dL_law_286 (fun h9 => absurd ((n0 (by omega)).mp h9) (by omega)) ?_
                refine lv_topi (fun w_701 ew_701 => ?_)
                obtain rfl : w_701 = nI ((r + 1) % n) := ew_701.trans (nI_md (a := r + 1) (b := n) (by omega) (by omega))
                refine lv_istore (lv' := [(18, .int (nI ((r + 1) % n))), (0, .ref b), (1, .ref o0), (2, .ref (ar 0)), (3, .ref (ar 1)), (4, .ref (ar 2)), (5, .ref (ar 5)), (6, .ref (ar 6)), (7, .ref (ar 7)), (8, .ref (ar 3)), (9, .ref (ar 8)), (10, .ref (ar 4)), (11, .long dr), (13, .int 1), (14, .int (nI tn)), (16, .int (nI K)), (17, .int (nI y)), (19, .int (nI k))]) hx hb dL_law_287 hl (by decide) rfl (fun ls hl => ?_)
                refine lv_iinc (v := nI (k + 1)) (lv' := [(19, .int (nI (k + 1))), (18, .int (nI ((r + 1) % n))), (0, .ref b), (1, .ref o0), (2, .ref (ar 0)), (3, .ref (ar 1)), (4, .ref (ar 2)), (5, .ref (ar 5)), (6, .ref (ar 6)), (7, .ref (ar 7)), (8, .ref (ar 3)), (9, .ref (ar 8)), (10, .ref (ar 4)), (11, .long dr), (13, .int 1), (14, .int (nI tn)), (16, .int (nI K)), (17, .int (nI y))]) hx hb dL_law_289 hl (k := 17) rfl (nI_1 k) (by decide) rfl (fun ls hl => ?_)
                refine lv_goto (tgt := 252) hx hb dL_law_292 (by decide) ?_
                exact ih (k + 1) ((r + 1) % n) ls (by omega) ⟨by omega, fun _ => hmr⟩ (lv_sub hl [2, 3, 4, 5, 6, 7, 8, 9, 10, 11, 12, 13, 14, 15, 16, 17, 1, 0] rfl)
  by_cases hn0 : n = 0
  · refine lv_iload hx hb dL_law_222 (lv_at hl 14 rfl) ?_
    refine lv_bipush (v := 22) hx hb dL_law_224 (by decide) ?_
    refine lv_idiv hx hb dL_law_226 (by decide) ?_
    refine lv_topi (fun w_702 ew_702 => ?_)
    obtain rfl : w_702 = nI (xN / 22) := ew_702.trans (nI_dv (a := xN) (b := 22) (by omega) (by omega))
    refine lv_istore (lv' := [(17, .int (nI (xN / 22))), (0, .ref b), (1, .ref o0), (2, .ref (ar 0)), (3, .ref (ar 1)), (4, .ref (ar 2)), (5, .ref (ar 5)), (6, .ref (ar 6)), (7, .ref (ar 7)), (8, .ref (ar 3)), (9, .ref (ar 8)), (10, .ref (ar 4)), (11, .long dr), (13, .int 1), (14, .int (nI tn)), (15, .int (nI xN)), (16, .int (nI K))]) hx hb dL_law_227 hl (by decide) rfl (fun ls hl => ?_)
    refine lv_aload hx hb dL_law_229 (lv_at hl 9 rfl) ?_
    refine lv_iconst (v := 1) hx hb dL_law_231 (by decide) ?_
    refine va_iald hx hb hG.1 hP 3 0 rfl rfl (inb_in (by decide)) dL_law_232 ?_
    refine lv_topi (fun w_703 ew_703 => ?_)
    obtain rfl : w_703 = nn 1 := ew_703.trans (congrArg nn (show ((1 : Int32).toNatClampNeg) = 1 by decide))
    refine lv_topi (fun w_704 ew_704 => ?_)
    obtain rfl : w_704 = nI n := ew_704.trans hN.2.1
    refine lv_if_ne (tgt := 240) hx hb dL_law_233 (by decide) (fun c_705 => ?_) (fun c_705 => ?_)
    · exact absurd ((n0 (by omega)).mpr hn0) c_705
    · refine lv_iconst (v := 0) hx hb dL_law_236 (by decide) ?_
      refine lv_goto (tgt := 247) hx hb dL_law_237 (by decide) ?_
      refine lv_topi (fun w_706 ew_706 => ?_)
      obtain rfl : w_706 = nI 0 := ew_706.trans (show (0 : Int32) = nI 0 from rfl)
      refine lv_istore (lv' := [(18, .int (nI 0)), (17, .int (nI (xN / 22))), (0, .ref b), (1, .ref o0), (2, .ref (ar 0)), (3, .ref (ar 1)), (4, .ref (ar 2)), (5, .ref (ar 5)), (6, .ref (ar 6)), (7, .ref (ar 7)), (8, .ref (ar 3)), (9, .ref (ar 8)), (10, .ref (ar 4)), (11, .long dr), (13, .int 1), (14, .int (nI tn)), (15, .int (nI xN)), (16, .int (nI K))]) hx hb dL_law_247 hl (by decide) rfl (fun ls hl => ?_)
      refine lv_iconst (v := 0) hx hb dL_law_249 (by decide) ?_
      refine lv_topi (fun w_707 ew_707 => ?_)
      obtain rfl : w_707 = nI 0 := ew_707.trans (show (0 : Int32) = nI 0 from rfl)
      refine lv_istore (lv' := [(19, .int (nI 0)), (18, .int (nI 0)), (17, .int (nI (xN / 22))), (0, .ref b), (1, .ref o0), (2, .ref (ar 0)), (3, .ref (ar 1)), (4, .ref (ar 2)), (5, .ref (ar 5)), (6, .ref (ar 6)), (7, .ref (ar 7)), (8, .ref (ar 3)), (9, .ref (ar 8)), (10, .ref (ar 4)), (11, .long dr), (13, .int 1), (14, .int (nI tn)), (15, .int (nI xN)), (16, .int (nI K))]) hx hb dL_law_250 hl (by decide) rfl (fun ls hl => ?_)
      exact lp (xN / 22) (by omega) n 0 0 ls (Nat.zero_add _) ⟨by decide, fun h9 => absurd hn0 h9⟩ (lv_sub hl [3, 4, 5, 6, 7, 8, 9, 10, 11, 12, 13, 14, 15, 16, 18, 2, 1, 0] rfl)
  · have hmn := Nat.mod_lt (xN / 22) (show n > 0 by omega)
    refine lv_iload hx hb dL_law_222 (lv_at hl 14 rfl) ?_
    refine lv_bipush (v := 22) hx hb dL_law_224 (by decide) ?_
    refine lv_idiv hx hb dL_law_226 (by decide) ?_
    refine lv_topi (fun w_708 ew_708 => ?_)
    obtain rfl : w_708 = nI (xN / 22) := ew_708.trans (nI_dv (a := xN) (b := 22) (by omega) (by omega))
    refine lv_istore (lv' := [(17, .int (nI (xN / 22))), (0, .ref b), (1, .ref o0), (2, .ref (ar 0)), (3, .ref (ar 1)), (4, .ref (ar 2)), (5, .ref (ar 5)), (6, .ref (ar 6)), (7, .ref (ar 7)), (8, .ref (ar 3)), (9, .ref (ar 8)), (10, .ref (ar 4)), (11, .long dr), (13, .int 1), (14, .int (nI tn)), (15, .int (nI xN)), (16, .int (nI K))]) hx hb dL_law_227 hl (by decide) rfl (fun ls hl => ?_)
    refine lv_aload hx hb dL_law_229 (lv_at hl 9 rfl) ?_
    refine lv_iconst (v := 1) hx hb dL_law_231 (by decide) ?_
    refine va_iald hx hb hG.1 hP 3 0 rfl rfl (inb_in (by decide)) dL_law_232 ?_
    refine lv_topi (fun w_709 ew_709 => ?_)
    obtain rfl : w_709 = nn 1 := ew_709.trans (congrArg nn (show ((1 : Int32).toNatClampNeg) = 1 by decide))
    refine lv_topi (fun w_710 ew_710 => ?_)
    obtain rfl : w_710 = nI n := ew_710.trans hN.2.1
    refine lv_if_ne (tgt := 240) hx hb dL_law_233 (by decide) (fun c_711 => ?_) (fun c_711 => ?_)
    · refine lv_iload hx hb dL_law_240 (lv_at hl 0 rfl) ?_
      refine lv_aload hx hb dL_law_242 (lv_at hl 9 rfl) ?_
      refine lv_iconst (v := 1) hx hb dL_law_244 (by decide) ?_
      refine va_iald hx hb hG.1 hP 3 0 rfl rfl (inb_in (by decide)) dL_law_245 ?_
      refine lv_topi (fun w_712 ew_712 => ?_)
      obtain rfl : w_712 = nn 1 := ew_712.trans (congrArg nn (show ((1 : Int32).toNatClampNeg) = 1 by decide))
      refine lv_topi (fun w_713 ew_713 => ?_)
      obtain rfl : w_713 = nI n := ew_713.trans hN.2.1
      refine lv_irem hx hb dL_law_246 (fun h9 => hn0 ((n0 (by omega)).mp h9)) ?_
      refine lv_topi (fun w_714 ew_714 => ?_)
      obtain rfl : w_714 = nI ((xN / 22) % n) := ew_714.trans (nI_md (a := xN / 22) (b := n) (by omega) (by omega))
      refine lv_istore (lv' := [(18, .int (nI ((xN / 22) % n))), (17, .int (nI (xN / 22))), (0, .ref b), (1, .ref o0), (2, .ref (ar 0)), (3, .ref (ar 1)), (4, .ref (ar 2)), (5, .ref (ar 5)), (6, .ref (ar 6)), (7, .ref (ar 7)), (8, .ref (ar 3)), (9, .ref (ar 8)), (10, .ref (ar 4)), (11, .long dr), (13, .int 1), (14, .int (nI tn)), (15, .int (nI xN)), (16, .int (nI K))]) hx hb dL_law_247 hl (by decide) rfl (fun ls hl => ?_)
      refine lv_iconst (v := 0) hx hb dL_law_249 (by decide) ?_
      refine lv_topi (fun w_715 ew_715 => ?_)
      obtain rfl : w_715 = nI 0 := ew_715.trans (show (0 : Int32) = nI 0 from rfl)
      refine lv_istore (lv' := [(19, .int (nI 0)), (18, .int (nI ((xN / 22) % n))), (17, .int (nI (xN / 22))), (0, .ref b), (1, .ref o0), (2, .ref (ar 0)), (3, .ref (ar 1)), (4, .ref (ar 2)), (5, .ref (ar 5)), (6, .ref (ar 6)), (7, .ref (ar 7)), (8, .ref (ar 3)), (9, .ref (ar 8)), (10, .ref (ar 4)), (11, .long dr), (13, .int 1), (14, .int (nI tn)), (15, .int (nI xN)), (16, .int (nI K))]) hx hb dL_law_250 hl (by decide) rfl (fun ls hl => ?_)
      exact lp (xN / 22) (by omega) n 0 ((xN / 22) % n) ls (Nat.zero_add _) ⟨by omega, fun _ => hmn⟩ (lv_sub hl [3, 4, 5, 6, 7, 8, 9, 10, 11, 12, 13, 14, 15, 16, 18, 2, 1, 0] rfl)
    · exact absurd c_711 (fun h9 => hn0 ((n0 (by omega)).mp h9))

set_option maxHeartbeats 4000000 in
set_option maxRecDepth 100000 in
theorem qz_S2 (X : qz_X p l s m meth c b L xs D Y o0 ast ald ahi act acd ar) (hc : cells + 4000 ≤ 600130) (hsl : slots + 24000 ≤ 7301080) (I : IV n bt d U st ld hi ct cd u v h ev nn qq li bb t uu dr) (hP : va_P D vwCl (qz_A Y ar v h ev nn qq li bb t uu) H) (hPK : va_P D vwCl (lz_K Y o0 ast ald ahi act acd st ld hi ct cd) H) (hS : va_S (fun q => s.heap.size ≤ q) s.heap H locs)  {xN : Nat} (hxN : xN < 2147483648) (htn : tn < 130) (kk : ∀ (K : Nat) (ls : Array Slot), K < 25 → (K < 3 → tn < 6) → (12 ≤ K → 6 < tn) → lv_has ls 23 [(0, .ref b), (1, .ref o0), (2, .ref (ar 0)), (3, .ref (ar 1)), (4, .ref (ar 2)), (5, .ref (ar 5)), (6, .ref (ar 6)), (7, .ref (ar 7)), (8, .ref (ar 3)), (9, .ref (ar 8)), (10, .ref (ar 4)), (11, .long dr), (13, .int 1), (14, .int (nI tn)), (15, .int (nI xN)), (16, .int (nI K))] → W p l e room_1 s m #[Value.ref b] below meth c H locs (cells) (slots) Q (F0 m 222 ls [])) (hl : lv_has ls 23 [(0, .ref b), (1, .ref o0), (2, .ref (ar 0)), (3, .ref (ar 1)), (4, .ref (ar 2)), (5, .ref (ar 5)), (6, .ref (ar 6)), (7, .ref (ar 7)), (8, .ref (ar 3)), (9, .ref (ar 8)), (10, .ref (ar 4)), (11, .long dr), (13, .int 1), (14, .int (nI tn)), (15, .int (nI xN))]) : W p l e room_1 s m #[Value.ref b] below meth c H locs (cells) (slots) Q (F0 m 188 ls []) := by
  obtain ⟨C0, hl0, hG, hB, hNC, hap⟩ := id X
  obtain ⟨hx, hb, hr, hml, hown, htb, hX, hbl, hlocks, hgv⟩ := id C0
  have hown : s.vm.findClass RL = some m.cls := hown
  have hts : ∀ w ∈ wsL_law, w.before #[Value.ref b] s = true := fun w h => htb w (wsL_law_in w h)
  have hD : va_D (fun q => s.heap.size ≤ q) (qz_A Y ar v h ev nn qq li bb t uu) := qz_apD hap qz_eA
  have hN := I.2.2.2.2.2.2.1
  have hn40 := I.2.2.2.2.2.2.2.1
  have hb10 := I.1.1.2.1
  by_cases h6 : tn = 6
  · refine lv_iload hx hb dL_law_188 (lv_at hl 13 rfl) ?_
    refine lv_bipush (v := 6) hx hb dL_law_190 (by decide) ?_
    refine lv_icmp_ne (tgt := 199) hx hb dL_law_192 (by decide) (fun c_716 => ?_) (fun c_716 => ?_)
    · exact absurd (show nI tn = 6 from congrArg nI h6) c_716
    · refine lv_iconst (v := 4) hx hb dL_law_195 (by decide) ?_
      refine lv_goto (tgt := 220) hx hb dL_law_196 (by decide) ?_
      refine lv_topi (fun w_717 ew_717 => ?_)
      obtain rfl : w_717 = nI 4 := ew_717.trans (show (4 : Int32) = nI 4 from rfl)
      refine lv_istore (lv' := [(16, .int (nI 4)), (0, .ref b), (1, .ref o0), (2, .ref (ar 0)), (3, .ref (ar 1)), (4, .ref (ar 2)), (5, .ref (ar 5)), (6, .ref (ar 6)), (7, .ref (ar 7)), (8, .ref (ar 3)), (9, .ref (ar 8)), (10, .ref (ar 4)), (11, .long dr), (13, .int 1), (14, .int (nI tn)), (15, .int (nI xN))]) hx hb dL_law_220 hl (by decide) rfl (fun ls hl => ?_)
      exact kk 4 ls (by omega) (by omega) (by omega) (lv_sub hl [1, 2, 3, 4, 5, 6, 7, 8, 9, 10, 11, 12, 13, 14, 15, 0] rfl)
  · by_cases h7 : tn < 6
    · refine lv_iload hx hb dL_law_188 (lv_at hl 13 rfl) ?_
      refine lv_bipush (v := 6) hx hb dL_law_190 (by decide) ?_
      refine lv_icmp_ne (tgt := 199) hx hb dL_law_192 (by decide) (fun c_718 => ?_) (fun c_718 => ?_)
      · refine lv_iload hx hb dL_law_199 (lv_at hl 13 rfl) ?_
        refine lv_bipush (v := 6) hx hb dL_law_201 (by decide) ?_
        refine lv_icmp_ge (tgt := 213) hx hb dL_law_203 (by decide) (fun c_719 => ?_) (fun c_719 => ?_)
        · exact absurd c_719 (nI_ge (a := tn) (b := 6) (by omega) (by decide))
        · refine lv_iload hx hb dL_law_206 (lv_at hl 14 rfl) ?_
          refine lv_iconst (v := 3) hx hb dL_law_208 (by decide) ?_
          refine lv_irem hx hb dL_law_209 (by decide) ?_
          refine lv_topi (fun w_720 ew_720 => ?_)
          obtain rfl : w_720 = nI (xN % 3) := ew_720.trans (nI_md (a := xN) (b := 3) (by omega) (by omega))
          refine lv_goto (tgt := 220) hx hb dL_law_210 (by decide) ?_
          refine lv_istore (lv' := [(16, .int (nI (xN % 3))), (0, .ref b), (1, .ref o0), (2, .ref (ar 0)), (3, .ref (ar 1)), (4, .ref (ar 2)), (5, .ref (ar 5)), (6, .ref (ar 6)), (7, .ref (ar 7)), (8, .ref (ar 3)), (9, .ref (ar 8)), (10, .ref (ar 4)), (11, .long dr), (13, .int 1), (14, .int (nI tn)), (15, .int (nI xN))]) hx hb dL_law_220 hl (by decide) rfl (fun ls hl => ?_)
          exact kk (xN % 3) ls (by omega) (by omega) (by omega) (lv_sub hl [1, 2, 3, 4, 5, 6, 7, 8, 9, 10, 11, 12, 13, 14, 15, 0] rfl)
      · exact absurd c_718 (fun h9 => h6 ((nI_eq (b := 6) (by omega) (by decide)).mp h9))
    · refine lv_iload hx hb dL_law_188 (lv_at hl 13 rfl) ?_
      refine lv_bipush (v := 6) hx hb dL_law_190 (by decide) ?_
      refine lv_icmp_ne (tgt := 199) hx hb dL_law_192 (by decide) (fun c_721 => ?_) (fun c_721 => ?_)
      · refine lv_iload hx hb dL_law_199 (lv_at hl 13 rfl) ?_
        refine lv_bipush (v := 6) hx hb dL_law_201 (by decide) ?_
        refine lv_icmp_ge (tgt := 213) hx hb dL_law_203 (by decide) (fun c_722 => ?_) (fun c_722 => ?_)
        · refine lv_iconst (v := 3) hx hb dL_law_213 (by decide) ?_
          refine lv_iload hx hb dL_law_214 (lv_at hl 14 rfl) ?_
          refine lv_bipush (v := 22) hx hb dL_law_216 (by decide) ?_
          refine lv_irem hx hb dL_law_218 (by decide) ?_
          refine lv_topi (fun w_723 ew_723 => ?_)
          obtain rfl : w_723 = nI (xN % 22) := ew_723.trans (nI_md (a := xN) (b := 22) (by omega) (by omega))
          refine lv_iadd hx hb dL_law_219 ?_
          refine lv_topi (fun w_724 ew_724 => ?_)
          obtain rfl : w_724 = nI (3 + (xN % 22)) := ew_724.trans (nI_add 3 (xN % 22))
          refine lv_istore (lv' := [(16, .int (nI (3 + (xN % 22)))), (0, .ref b), (1, .ref o0), (2, .ref (ar 0)), (3, .ref (ar 1)), (4, .ref (ar 2)), (5, .ref (ar 5)), (6, .ref (ar 6)), (7, .ref (ar 7)), (8, .ref (ar 3)), (9, .ref (ar 8)), (10, .ref (ar 4)), (11, .long dr), (13, .int 1), (14, .int (nI tn)), (15, .int (nI xN))]) hx hb dL_law_220 hl (by decide) rfl (fun ls hl => ?_)
          exact kk (3 + (xN % 22)) ls (by omega) (by omega) (by omega) (lv_sub hl [1, 2, 3, 4, 5, 6, 7, 8, 9, 10, 11, 12, 13, 14, 15, 0] rfl)
        · exact absurd (nI_le (a := 6) (b := tn) (by omega) (by omega)) c_722
      · exact absurd c_721 (fun h9 => h6 ((nI_eq (b := 6) (by omega) (by decide)).mp h9))

set_option maxHeartbeats 4000000 in
set_option maxRecDepth 100000 in
theorem qz_S1 (X : qz_X p l s m meth c b L xs D Y o0 ast ald ahi act acd ar) (hc : cells + 4000 ≤ 600130) (hsl : slots + 24000 ≤ 7301080) (I : IV n bt d U st ld hi ct cd u v h ev nn qq li bb t uu dr) (hP : va_P D vwCl (qz_A Y ar v h ev nn qq li bb t uu) H) (hPK : va_P D vwCl (lz_K Y o0 ast ald ahi act acd st ld hi ct cd) H) (hS : va_S (fun q => s.heap.size ≤ q) s.heap H locs)  (hL : L ≤ 260) (htn : tn < 130) (kk : ∀ (xN : Nat) (ls : Array Slot), xN < 2147483648 → lv_has ls 23 [(0, .ref b), (1, .ref o0), (2, .ref (ar 0)), (3, .ref (ar 1)), (4, .ref (ar 2)), (5, .ref (ar 5)), (6, .ref (ar 6)), (7, .ref (ar 7)), (8, .ref (ar 3)), (9, .ref (ar 8)), (10, .ref (ar 4)), (11, .long dr), (13, .int 1), (14, .int (nI tn)), (15, .int (nI xN))] → W p l e room_1 s m #[Value.ref b] below meth c H locs (cells) (slots) Q (F0 m 188 ls [])) (hl : lv_has ls 23 [(0, .ref b), (1, .ref o0), (2, .ref (ar 0)), (3, .ref (ar 1)), (4, .ref (ar 2)), (5, .ref (ar 5)), (6, .ref (ar 6)), (7, .ref (ar 7)), (8, .ref (ar 3)), (9, .ref (ar 8)), (10, .ref (ar 4)), (11, .long dr), (13, .int 1), (14, .int (nI tn))]) : W p l e room_1 s m #[Value.ref b] below meth c H locs (cells) (slots) Q (F0 m 148 ls []) := by
  obtain ⟨C0, hl0, hG, hB, hNC, hap⟩ := id X
  obtain ⟨hx, hb, hr, hml, hown, htb, hX, hbl, hlocks, hgv⟩ := id C0
  have hown : s.vm.findClass RL = some m.cls := hown
  have hts : ∀ w ∈ wsL_law, w.before #[Value.ref b] s = true := fun w h => htb w (wsL_law_in w h)
  have hD : va_D (fun q => s.heap.size ≤ q) (qz_A Y ar v h ev nn qq li bb t uu) := qz_apD hap qz_eA
  have hN := I.2.2.2.2.2.2.1
  have hn40 := I.2.2.2.2.2.2.2.1
  have hb10 := I.1.1.2.1
  by_cases hLt : tn < L
  · obtain ⟨xN, hxN, ex⟩ := nI_of (qz_nn (x := xs (nI tn).toNatClampNeg) (c := 2147483647) (by decide))
    refine lv_iload hx hb dL_law_148 (lv_at hl 13 rfl) ?_
    refine lv_aload_n hx hb dL_law_150 rfl (lv_at hl 0 rfl) ?_
    refine va_slen hx hb hX hbl (Nat.not_le.mpr hbl) hS dL_law_151 ?_
    refine lv_icmp_ge (tgt := 165) hx hb dL_law_152 (by decide) (fun c_725 => ?_) (fun c_725 => ?_)
    · exact absurd c_725 (nI_ge (a := tn) (b := L) (by omega) (by omega))
    · refine lv_aload_n hx hb dL_law_155 rfl (lv_at hl 0 rfl) ?_
      refine lv_iload hx hb dL_law_156 (lv_at hl 13 rfl) ?_
      refine va_sld hx hb hX hbl (Nat.not_le.mpr hbl) hS (vp_in_nI (by omega) (by omega)) dL_law_158 ?_
      refine lv_ldc (v := 2147483647) hx hb hown (htb (.constant RL 143 2147483647) qz_c143) dL_law_159 ?_
      refine lv_iand hx hb dL_law_161 ?_
      refine lv_goto (tgt := 186) hx hb dL_law_162 (by decide) ?_
      refine lv_topi (fun w_726 ew_726 => ?_)
      obtain rfl : w_726 = nI xN := ew_726.trans ex
      refine lv_istore (lv' := [(15, .int (nI xN)), (0, .ref b), (1, .ref o0), (2, .ref (ar 0)), (3, .ref (ar 1)), (4, .ref (ar 2)), (5, .ref (ar 5)), (6, .ref (ar 6)), (7, .ref (ar 7)), (8, .ref (ar 3)), (9, .ref (ar 8)), (10, .ref (ar 4)), (11, .long dr), (13, .int 1), (14, .int (nI tn))]) hx hb dL_law_186 hl (by decide) rfl (fun ls hl => ?_)
      exact kk xN ls hxN (lv_sub hl [1, 2, 3, 4, 5, 6, 7, 8, 9, 10, 11, 12, 13, 14, 0] rfl)
  · obtain ⟨xN, hxN, ex⟩ := nI_of (qz_nn (x := nI (((49003 * tn) * tn + 8009 * tn) + 71)) (c := 2147483647) (by decide))
    refine lv_iload hx hb dL_law_148 (lv_at hl 13 rfl) ?_
    refine lv_aload_n hx hb dL_law_150 rfl (lv_at hl 0 rfl) ?_
    refine va_slen hx hb hX hbl (Nat.not_le.mpr hbl) hS dL_law_151 ?_
    refine lv_icmp_ge (tgt := 165) hx hb dL_law_152 (by decide) (fun c_727 => ?_) (fun c_727 => ?_)
    · refine lv_ldc (v := 49003) hx hb hown (htb (.constant RL 144 49003) qz_c144) dL_law_165 ?_
      refine lv_iload hx hb dL_law_167 (lv_at hl 13 rfl) ?_
      refine lv_imul hx hb dL_law_169 ?_
      refine lv_topi (fun w_728 ew_728 => ?_)
      obtain rfl : w_728 = nI (49003 * tn) := ew_728.trans (pk_mul 49003 tn)
      refine lv_iload hx hb dL_law_170 (lv_at hl 13 rfl) ?_
      refine lv_imul hx hb dL_law_172 ?_
      refine lv_topi (fun w_729 ew_729 => ?_)
      obtain rfl : w_729 = nI ((49003 * tn) * tn) := ew_729.trans (pk_mul (49003 * tn) tn)
      refine lv_sipush (v := 8009) hx hb dL_law_173 (by decide) ?_
      refine lv_iload hx hb dL_law_176 (lv_at hl 13 rfl) ?_
      refine lv_imul hx hb dL_law_178 ?_
      refine lv_topi (fun w_730 ew_730 => ?_)
      obtain rfl : w_730 = nI (8009 * tn) := ew_730.trans (pk_mul 8009 tn)
      refine lv_iadd hx hb dL_law_179 ?_
      refine lv_topi (fun w_731 ew_731 => ?_)
      obtain rfl : w_731 = nI (((49003 * tn) * tn) + (8009 * tn)) := ew_731.trans (nI_add ((49003 * tn) * tn) (8009 * tn))
      refine lv_bipush (v := 71) hx hb dL_law_180 (by decide) ?_
      refine lv_iadd hx hb dL_law_182 ?_
      refine lv_topi (fun w_732 ew_732 => ?_)
      obtain rfl : w_732 = nI ((((49003 * tn) * tn) + (8009 * tn)) + 71) := ew_732.trans (nI_add (((49003 * tn) * tn) + (8009 * tn)) 71)
      refine lv_ldc (v := 2147483647) hx hb hown (htb (.constant RL 143 2147483647) qz_c143) dL_law_183 ?_
      refine lv_iand hx hb dL_law_185 ?_
      refine lv_topi (fun w_733 ew_733 => ?_)
      obtain rfl : w_733 = nI xN := ew_733.trans ex
      refine lv_istore (lv' := [(15, .int (nI xN)), (0, .ref b), (1, .ref o0), (2, .ref (ar 0)), (3, .ref (ar 1)), (4, .ref (ar 2)), (5, .ref (ar 5)), (6, .ref (ar 6)), (7, .ref (ar 7)), (8, .ref (ar 3)), (9, .ref (ar 8)), (10, .ref (ar 4)), (11, .long dr), (13, .int 1), (14, .int (nI tn))]) hx hb dL_law_186 hl (by decide) rfl (fun ls hl => ?_)
      exact kk xN ls hxN (lv_sub hl [1, 2, 3, 4, 5, 6, 7, 8, 9, 10, 11, 12, 13, 14, 0] rfl)
    · exact absurd (nI_le (a := L) (b := tn) (by omega) (by omega)) c_727
end LAW
