section LAW
variable {p : Program} {l : Launch} {e : Env} {s : State} {m : MethodId} {below : List Frame} {meth : Method} {c : Code} {H : Heap} {locs : List Loc} {cells slots : Nat} {Q : State → Prop} {ls : Array Slot} {D : va_G} {Y : cq_Y} {b L : Nat} {xs : Nat → Int32} {o0 : Nat} {ast ald ahi act acd ar : Nat → Nat}
variable {n bt d U tn K y r : Nat} {st : SetS} {ld : LodS} {hi : HisS} {ct cd : CatS} {u : MdlS} {v li : FL} {h ev nn qq bb t uu : FI} {dr : Int64}
set_option maxHeartbeats 4000000 in
set_option maxRecDepth 100000 in
theorem qz_B5 (X : qz_X p l s m meth c b L xs D Y o0 ast ald ahi act acd ar) (hc : cells + 4000 ≤ 600130) (hsl : slots + 24000 ≤ 7301080) (I : IV n bt d U st ld hi ct cd u v h ev nn qq li bb t uu dr) (hP : va_P D vwCl (qz_A Y ar v h ev nn qq li bb t uu) H) (hPK : va_P D vwCl (lz_K Y o0 ast ald ahi act acd st ld hi ct cd) H) (hS : va_S (fun q => s.heap.size ≤ q) s.heap H locs) (go : qz_go p l e s m below meth c b D Y o0 ast ald ahi act acd ar Q 1522 tn (fun n => tn + 1 ≤ 6 → n = 0) (cells + 10) (slots + 60)) (hy : y < 2147483648) (hT : tn + 1 ≤ 6 → n = 0) (hl : lv_has ls 23 [(0, .ref b), (1, .ref o0), (2, .ref (ar 0)), (3, .ref (ar 1)), (4, .ref (ar 2)), (5, .ref (ar 5)), (6, .ref (ar 6)), (7, .ref (ar 7)), (8, .ref (ar 3)), (9, .ref (ar 8)), (10, .ref (ar 4)), (11, .long dr), (13, .int 1), (14, .int (nI tn)), (17, .int (nI y))]) : W p l e room_1 s m #[Value.ref b] below meth c H locs (cells) (slots) Q (F0 m 639 ls []) := by
  obtain ⟨C0, hl0, hG, hB, hNC, hap⟩ := id X
  obtain ⟨hx, hb, hr, hml, hown, htb, hX, hbl, hlocks, hgv⟩ := id C0
  have hown : s.vm.findClass RL = some m.cls := hown
  have hts : ∀ w ∈ wsL_law, w.before #[Value.ref b] s = true := fun w h => htb w (wsL_law_in w h)
  have hD : va_D (fun q => s.heap.size ≤ q) (qz_A Y ar v h ev nn qq li bb t uu) := qz_apD hap qz_eA
  have hN := I.2.2.2.2.2.2.1
  have hn40 := I.2.2.2.2.2.2.2.1
  have hb10 := I.1.1.2.1
  by_cases hz0 : (y / 3) % 5 = 0
  · obtain ⟨z, u', hE, hz, I'⟩ := tv_key (k := y % 3) (a := 0) I (by omega) (by omega)
    refine lv_iload hx hb dL_law_639 (lv_at hl 14 rfl) ?_
    refine lv_iconst (v := 3) hx hb dL_law_641 (by decide) ?_
    refine lv_idiv hx hb dL_law_642 (by decide) ?_
    refine lv_topi (fun w_85 ew_85 => ?_)
    obtain rfl : w_85 = nI (y / 3) := ew_85.trans (nI_dv (a := y) (b := 3) (by omega) (by omega))
    refine lv_iconst (v := 5) hx hb dL_law_643 (by decide) ?_
    refine lv_irem hx hb dL_law_644 (by decide) ?_
    refine lv_topi (fun w_86 ew_86 => ?_)
    obtain rfl : w_86 = nI ((y / 3) % 5) := ew_86.trans (nI_md (a := y / 3) (b := 5) (by omega) (by omega))
    refine lv_if_ne (tgt := 652) hx hb dL_law_645 (by decide) (fun c_87 => ?_) (fun c_87 => ?_)
    · exact absurd ((n0 (by omega)).mpr hz0) c_87
    · refine lv_iconst (v := (-1)) hx hb dL_law_648 (by decide) ?_
      refine lv_goto (tgt := 659) hx hb dL_law_649 (by decide) ?_
      refine lv_topi (fun w_88 ew_88 => ?_)
      obtain rfl : w_88 = nI 0 - 1 := ew_88.trans (show (-1 : Int32) = nI 0 - 1 by decide)
      refine lv_istore (lv' := [(19, .int (nI 0 - 1)), (0, .ref b), (1, .ref o0), (2, .ref (ar 0)), (3, .ref (ar 1)), (4, .ref (ar 2)), (5, .ref (ar 5)), (6, .ref (ar 6)), (7, .ref (ar 7)), (8, .ref (ar 3)), (9, .ref (ar 8)), (10, .ref (ar 4)), (11, .long dr), (13, .int 1), (14, .int (nI tn)), (17, .int (nI y))]) hx hb dL_law_659 hl (by decide) rfl (fun ls hl => ?_)
      refine lv_aload_n hx hb dL_law_661 rfl (lv_at hl 2 rfl) ?_
      refine lv_iconst (v := 1) hx hb dL_law_662 (by decide) ?_
      refine lv_iload hx hb dL_law_663 (lv_at hl 15 rfl) ?_
      refine lv_iconst (v := 3) hx hb dL_law_665 (by decide) ?_
      refine lv_irem hx hb dL_law_666 (by decide) ?_
      refine lv_topi (fun w_89 ew_89 => ?_)
      obtain rfl : w_89 = nI (y % 3) := ew_89.trans (nI_md (a := y) (b := 3) (by omega) (by omega))
      refine lv_iload hx hb dL_law_667 (lv_at hl 0 rfl) ?_
      refine lz_callL (l := l) (pc := 669) (n := 4) (W0 := lz_K Y o0 ast ald ahi act acd st ld hi ct cd) (Wr := qz_A Y ar v h ev nn qq li bb t uu) (As := [.ref o0, .int 1, .int (nI (y % 3)), .int (nI 0 - 1)]) (rest := []) C0 hG hB hNC hap.app.2.1 lz_eK qz_eA hap.swap (ct_does_key_ok l D Y o0 ast st ald ld ahi hi act ct acd cd (nI (y % 3)) (nI 0 - 1) z hE hl0) gL_law_L_does rfl rfl rfl (by decide +kernel) ⟨Nat.le_of_ble_eq_true rfl, Nat.le_of_ble_eq_true rfl⟩ rfl hl.1 rfl (Nat.le_of_ble_eq_true rfl) dL_law_669 ⟨qz_f1 (k := 2) (show cells + 2000 ≤ 600130 by omega) (by decide), qz_f2 (k := 12) (show slots + 12000 ≤ 7301080 by omega) (by decide)⟩ hPK hP hS (fun H locs hPK hP hS => ?_)
      have hPK : va_P D vwCl (lz_K Y o0 ast ald ahi act acd st z.1 hi ct cd) H := hPK
      have hP : va_P D vwCl (qz_A Y ar v h ev nn qq li bb t uu) H := hP
      have hD : va_D (fun q => s.heap.size ≤ q) (qz_A Y ar v h ev nn qq li bb t uu) := qz_apD hap qz_eA
      change W _ _ _ _ _ _ _ _ _ _ _ _ _ _ _ (F0 m 672 _ (.int z.2 :: []))
      refine lv_topi (fun w_90 ew_90 => ?_)
      obtain rfl : w_90 = nI (kx dr (y % 3)) - 1 := ew_90.trans hz
      refine lv_lload hx hb dL_law_672 (lv_at hl 12 rfl) ?_
      refine lv_iload hx hb dL_law_674 (lv_at hl 15 rfl) ?_
      refine lv_iconst (v := 3) hx hb dL_law_676 (by decide) ?_
      refine lv_irem hx hb dL_law_677 (by decide) ?_
      refine lv_topi (fun w_91 ew_91 => ?_)
      obtain rfl : w_91 = nI (y % 3) := ew_91.trans (nI_md (a := y) (b := 3) (by omega) (by omega))
      refine cq_RS (R := room_1) (args := #[Value.ref b]) (y := yL_key) (bytes := cL_key) (cc := code) (maxL := 3) (nL := 23) (n := 2) (index := 21) (ret := (some .int)) (ws := wsL_key) (rm := cq_rm 0 0) (Ts := wsL_law) (own := RL) (D := D) (Y := Y) (W0 := ([] : va_W)) (wl := qz_A Y ar v h ev nn qq li bb t uu) (v := some (.int (m_L_key dr (nI (y % 3))))) (st0 := [.int (nI (y % 3)), .long dr, .int (nI (kx dr (y % 3)) - 1)]) (As := [.long dr, .int (nI (y % 3))]) (rest := [.int (nI (kx dr (y % 3)) - 1)]) ⟨hx, hb, hml, hown, hts⟩ (ct_L_key l D Y  dr (nI (y % 3))) (va_cwS 2 hts gL_law_L_key rfl rfl rfl (by decide +kernel) ⟨Nat.le_of_ble_eq_true rfl, Nat.le_of_ble_eq_true rfl⟩) hG hP hD [] rfl (by decide +kernel) rfl hl.1 rfl (Nat.le_of_ble_eq_true rfl) dL_law_678 ⟨qz_f1 (k := 0) (show cells + 2 + 2000 ≤ 600130 by omega) (by decide), qz_f2 (k := 0) (show slots + 12 + 12000 ≤ 7301080 by omega) (by decide)⟩ ?_
      change W _ _ _ _ _ _ _ _ _ _ _ _ _ _ _ (F0 m 681 _ (.int (m_L_key dr (nI (y % 3))) :: [.int (nI (kx dr (y % 3)) - 1)]))
      refine lv_topi (fun w_92 ew_92 => ?_)
      obtain rfl : w_92 = nI (kx dr (y % 3)) := ew_92.trans (L_key (by omega))
      refine lv_iconst (v := 1) hx hb dL_law_681 (by decide) ?_
      refine lv_isub hx hb dL_law_682 ?_
      refine lv_icmp_ne (tgt := 690) hx hb dL_law_683 (by decide) (fun c_93 => ?_) (fun c_93 => ?_)
      · exact absurd (Eq.refl (nI (kx dr (y % 3)) - 1)) c_93
      · refine lv_iconst (v := 1) hx hb dL_law_686 (by decide) ?_
        refine lv_goto (tgt := 691) hx hb dL_law_687 (by decide) ?_
        refine lv_istore (lv' := [(13, .int 1), (19, .int (nI 0 - 1)), (0, .ref b), (1, .ref o0), (2, .ref (ar 0)), (3, .ref (ar 1)), (4, .ref (ar 2)), (5, .ref (ar 5)), (6, .ref (ar 6)), (7, .ref (ar 7)), (8, .ref (ar 3)), (9, .ref (ar 8)), (10, .ref (ar 4)), (11, .long dr), (14, .int (nI tn)), (17, .int (nI y))]) hx hb dL_law_691 hl (by decide) rfl (fun ls hl => ?_)
        refine lv_lload hx hb dL_law_693 (lv_at hl 13 rfl) ?_
        refine lv_iload hx hb dL_law_695 (lv_at hl 15 rfl) ?_
        refine lv_iconst (v := 3) hx hb dL_law_697 (by decide) ?_
        refine lv_irem hx hb dL_law_698 (by decide) ?_
        refine lv_topi (fun w_94 ew_94 => ?_)
        obtain rfl : w_94 = nI (y % 3) := ew_94.trans (nI_md (a := y) (b := 3) (by omega) (by omega))
        refine lv_iload hx hb dL_law_699 (lv_at hl 1 rfl) ?_
        refine lv_iconst (v := 1) hx hb dL_law_701 (by decide) ?_
        refine lv_iadd hx hb dL_law_702 ?_
        refine lv_topi (fun w_95 ew_95 => ?_)
        obtain rfl : w_95 = nI 0 := ew_95.trans (Int32.sub_add_cancel _ _)
        refine cq_RS (R := room_1) (args := #[Value.ref b]) (y := yL_withKey) (bytes := cL_withKey) (cc := code) (maxL := 4) (nL := 23) (n := 3) (index := 31) (ret := (some .long)) (ws := wsL_withKey) (rm := cq_rm 0 0) (Ts := wsL_law) (own := RL) (D := D) (Y := Y) (W0 := ([] : va_W)) (wl := qz_A Y ar v h ev nn qq li bb t uu) (v := some (.long (m_L_withKey dr (nI (y % 3)) (nI 0)))) (st0 := [.int (nI 0), .int (nI (y % 3)), .long dr]) (As := [.long dr, .int (nI (y % 3)), .int (nI 0)]) (rest := []) ⟨hx, hb, hml, hown, hts⟩ (ct_L_withKey l D Y  dr (nI (y % 3)) (nI 0)) (va_cwS 3 hts gL_law_L_withKey rfl rfl rfl (by decide +kernel) ⟨Nat.le_of_ble_eq_true rfl, Nat.le_of_ble_eq_true rfl⟩) hG hP hD [] rfl (by decide +kernel) rfl hl.1 rfl (Nat.le_of_ble_eq_true rfl) dL_law_703 ⟨qz_f1 (k := 0) (show cells + 2 + 2000 ≤ 600130 by omega) (by decide), qz_f2 (k := 0) (show slots + 12 + 12000 ≤ 7301080 by omega) (by decide)⟩ ?_
        change W _ _ _ _ _ _ _ _ _ _ _ _ _ _ _ (F0 m 706 _ (.long (m_L_withKey dr (nI (y % 3)) (nI 0)) :: []))
        refine lv_lstore (lv' := [(11, .long (m_L_withKey dr (nI (y % 3)) (nI 0))), (13, .int 1), (19, .int (nI 0 - 1)), (0, .ref b), (1, .ref o0), (2, .ref (ar 0)), (3, .ref (ar 1)), (4, .ref (ar 2)), (5, .ref (ar 5)), (6, .ref (ar 6)), (7, .ref (ar 7)), (8, .ref (ar 3)), (9, .ref (ar 8)), (10, .ref (ar 4)), (14, .int (nI tn)), (17, .int (nI y))]) hx hb dL_law_706 hl (by decide) rfl (fun ls hl => ?_)
        refine lv_goto (tgt := 1522) hx hb dL_law_708 (by decide) ?_
        exact W.widen (by omega) (by omega) (go _ _ _ _ _ _ _ _ _ _ _ _ _ _ _ _ _ _ _ _ H locs ls hT I' hP hPK hS (lv_sub hl [3, 4, 5, 6, 7, 8, 9, 10, 11, 12, 13, 0, 1, 14] rfl))
  · obtain ⟨z, u', hE, hz, I'⟩ := tv_key (k := y % 3) (a := ((y / 15) % 5 + 1)) I (by omega) (by omega)
    refine lv_iload hx hb dL_law_639 (lv_at hl 14 rfl) ?_
    refine lv_iconst (v := 3) hx hb dL_law_641 (by decide) ?_
    refine lv_idiv hx hb dL_law_642 (by decide) ?_
    refine lv_topi (fun w_96 ew_96 => ?_)
    obtain rfl : w_96 = nI (y / 3) := ew_96.trans (nI_dv (a := y) (b := 3) (by omega) (by omega))
    refine lv_iconst (v := 5) hx hb dL_law_643 (by decide) ?_
    refine lv_irem hx hb dL_law_644 (by decide) ?_
    refine lv_topi (fun w_97 ew_97 => ?_)
    obtain rfl : w_97 = nI ((y / 3) % 5) := ew_97.trans (nI_md (a := y / 3) (b := 5) (by omega) (by omega))
    refine lv_if_ne (tgt := 652) hx hb dL_law_645 (by decide) (fun c_98 => ?_) (fun c_98 => ?_)
    · refine lv_iload hx hb dL_law_652 (lv_at hl 14 rfl) ?_
      refine lv_bipush (v := 15) hx hb dL_law_654 (by decide) ?_
      refine lv_idiv hx hb dL_law_656 (by decide) ?_
      refine lv_topi (fun w_99 ew_99 => ?_)
      obtain rfl : w_99 = nI (y / 15) := ew_99.trans (nI_dv (a := y) (b := 15) (by omega) (by omega))
      refine lv_iconst (v := 5) hx hb dL_law_657 (by decide) ?_
      refine lv_irem hx hb dL_law_658 (by decide) ?_
      refine lv_topi (fun w_100 ew_100 => ?_)
      obtain rfl : w_100 = nI ((y / 15) % 5) := ew_100.trans (nI_md (a := y / 15) (b := 5) (by omega) (by omega))
      refine lv_topi (fun w_101 ew_101 => ?_)
      obtain rfl : w_101 = nI ((y / 15) % 5 + 1) - 1 := ew_101.trans ((nI_pred ((y / 15) % 5)).symm)
      refine lv_istore (lv' := [(19, .int (nI ((y / 15) % 5 + 1) - 1)), (0, .ref b), (1, .ref o0), (2, .ref (ar 0)), (3, .ref (ar 1)), (4, .ref (ar 2)), (5, .ref (ar 5)), (6, .ref (ar 6)), (7, .ref (ar 7)), (8, .ref (ar 3)), (9, .ref (ar 8)), (10, .ref (ar 4)), (11, .long dr), (13, .int 1), (14, .int (nI tn)), (17, .int (nI y))]) hx hb dL_law_659 hl (by decide) rfl (fun ls hl => ?_)
      refine lv_aload_n hx hb dL_law_661 rfl (lv_at hl 2 rfl) ?_
      refine lv_iconst (v := 1) hx hb dL_law_662 (by decide) ?_
      refine lv_iload hx hb dL_law_663 (lv_at hl 15 rfl) ?_
      refine lv_iconst (v := 3) hx hb dL_law_665 (by decide) ?_
      refine lv_irem hx hb dL_law_666 (by decide) ?_
      refine lv_topi (fun w_102 ew_102 => ?_)
      obtain rfl : w_102 = nI (y % 3) := ew_102.trans (nI_md (a := y) (b := 3) (by omega) (by omega))
      refine lv_iload hx hb dL_law_667 (lv_at hl 0 rfl) ?_
      refine lz_callL (l := l) (pc := 669) (n := 4) (W0 := lz_K Y o0 ast ald ahi act acd st ld hi ct cd) (Wr := qz_A Y ar v h ev nn qq li bb t uu) (As := [.ref o0, .int 1, .int (nI (y % 3)), .int (nI ((y / 15) % 5 + 1) - 1)]) (rest := []) C0 hG hB hNC hap.app.2.1 lz_eK qz_eA hap.swap (ct_does_key_ok l D Y o0 ast st ald ld ahi hi act ct acd cd (nI (y % 3)) (nI ((y / 15) % 5 + 1) - 1) z hE hl0) gL_law_L_does rfl rfl rfl (by decide +kernel) ⟨Nat.le_of_ble_eq_true rfl, Nat.le_of_ble_eq_true rfl⟩ rfl hl.1 rfl (Nat.le_of_ble_eq_true rfl) dL_law_669 ⟨qz_f1 (k := 2) (show cells + 2000 ≤ 600130 by omega) (by decide), qz_f2 (k := 12) (show slots + 12000 ≤ 7301080 by omega) (by decide)⟩ hPK hP hS (fun H locs hPK hP hS => ?_)
      have hPK : va_P D vwCl (lz_K Y o0 ast ald ahi act acd st z.1 hi ct cd) H := hPK
      have hP : va_P D vwCl (qz_A Y ar v h ev nn qq li bb t uu) H := hP
      have hD : va_D (fun q => s.heap.size ≤ q) (qz_A Y ar v h ev nn qq li bb t uu) := qz_apD hap qz_eA
      change W _ _ _ _ _ _ _ _ _ _ _ _ _ _ _ (F0 m 672 _ (.int z.2 :: []))
      refine lv_topi (fun w_103 ew_103 => ?_)
      obtain rfl : w_103 = nI (kx dr (y % 3)) - 1 := ew_103.trans hz
      refine lv_lload hx hb dL_law_672 (lv_at hl 12 rfl) ?_
      refine lv_iload hx hb dL_law_674 (lv_at hl 15 rfl) ?_
      refine lv_iconst (v := 3) hx hb dL_law_676 (by decide) ?_
      refine lv_irem hx hb dL_law_677 (by decide) ?_
      refine lv_topi (fun w_104 ew_104 => ?_)
      obtain rfl : w_104 = nI (y % 3) := ew_104.trans (nI_md (a := y) (b := 3) (by omega) (by omega))
      refine cq_RS (R := room_1) (args := #[Value.ref b]) (y := yL_key) (bytes := cL_key) (cc := code) (maxL := 3) (nL := 23) (n := 2) (index := 21) (ret := (some .int)) (ws := wsL_key) (rm := cq_rm 0 0) (Ts := wsL_law) (own := RL) (D := D) (Y := Y) (W0 := ([] : va_W)) (wl := qz_A Y ar v h ev nn qq li bb t uu) (v := some (.int (m_L_key dr (nI (y % 3))))) (st0 := [.int (nI (y % 3)), .long dr, .int (nI (kx dr (y % 3)) - 1)]) (As := [.long dr, .int (nI (y % 3))]) (rest := [.int (nI (kx dr (y % 3)) - 1)]) ⟨hx, hb, hml, hown, hts⟩ (ct_L_key l D Y  dr (nI (y % 3))) (va_cwS 2 hts gL_law_L_key rfl rfl rfl (by decide +kernel) ⟨Nat.le_of_ble_eq_true rfl, Nat.le_of_ble_eq_true rfl⟩) hG hP hD [] rfl (by decide +kernel) rfl hl.1 rfl (Nat.le_of_ble_eq_true rfl) dL_law_678 ⟨qz_f1 (k := 0) (show cells + 2 + 2000 ≤ 600130 by omega) (by decide), qz_f2 (k := 0) (show slots + 12 + 12000 ≤ 7301080 by omega) (by decide)⟩ ?_
      change W _ _ _ _ _ _ _ _ _ _ _ _ _ _ _ (F0 m 681 _ (.int (m_L_key dr (nI (y % 3))) :: [.int (nI (kx dr (y % 3)) - 1)]))
      refine lv_topi (fun w_105 ew_105 => ?_)
      obtain rfl : w_105 = nI (kx dr (y % 3)) := ew_105.trans (L_key (by omega))
      refine lv_iconst (v := 1) hx hb dL_law_681 (by decide) ?_
      refine lv_isub hx hb dL_law_682 ?_
      refine lv_icmp_ne (tgt := 690) hx hb dL_law_683 (by decide) (fun c_106 => ?_) (fun c_106 => ?_)
      · exact absurd (Eq.refl (nI (kx dr (y % 3)) - 1)) c_106
      · refine lv_iconst (v := 1) hx hb dL_law_686 (by decide) ?_
        refine lv_goto (tgt := 691) hx hb dL_law_687 (by decide) ?_
        refine lv_istore (lv' := [(13, .int 1), (19, .int (nI ((y / 15) % 5 + 1) - 1)), (0, .ref b), (1, .ref o0), (2, .ref (ar 0)), (3, .ref (ar 1)), (4, .ref (ar 2)), (5, .ref (ar 5)), (6, .ref (ar 6)), (7, .ref (ar 7)), (8, .ref (ar 3)), (9, .ref (ar 8)), (10, .ref (ar 4)), (11, .long dr), (14, .int (nI tn)), (17, .int (nI y))]) hx hb dL_law_691 hl (by decide) rfl (fun ls hl => ?_)
        refine lv_lload hx hb dL_law_693 (lv_at hl 13 rfl) ?_
        refine lv_iload hx hb dL_law_695 (lv_at hl 15 rfl) ?_
        refine lv_iconst (v := 3) hx hb dL_law_697 (by decide) ?_
        refine lv_irem hx hb dL_law_698 (by decide) ?_
        refine lv_topi (fun w_107 ew_107 => ?_)
        obtain rfl : w_107 = nI (y % 3) := ew_107.trans (nI_md (a := y) (b := 3) (by omega) (by omega))
        refine lv_iload hx hb dL_law_699 (lv_at hl 1 rfl) ?_
        refine lv_iconst (v := 1) hx hb dL_law_701 (by decide) ?_
        refine lv_iadd hx hb dL_law_702 ?_
        refine lv_topi (fun w_108 ew_108 => ?_)
        obtain rfl : w_108 = nI ((y / 15) % 5 + 1) := ew_108.trans (Int32.sub_add_cancel _ _)
        refine cq_RS (R := room_1) (args := #[Value.ref b]) (y := yL_withKey) (bytes := cL_withKey) (cc := code) (maxL := 4) (nL := 23) (n := 3) (index := 31) (ret := (some .long)) (ws := wsL_withKey) (rm := cq_rm 0 0) (Ts := wsL_law) (own := RL) (D := D) (Y := Y) (W0 := ([] : va_W)) (wl := qz_A Y ar v h ev nn qq li bb t uu) (v := some (.long (m_L_withKey dr (nI (y % 3)) (nI ((y / 15) % 5 + 1))))) (st0 := [.int (nI ((y / 15) % 5 + 1)), .int (nI (y % 3)), .long dr]) (As := [.long dr, .int (nI (y % 3)), .int (nI ((y / 15) % 5 + 1))]) (rest := []) ⟨hx, hb, hml, hown, hts⟩ (ct_L_withKey l D Y  dr (nI (y % 3)) (nI ((y / 15) % 5 + 1))) (va_cwS 3 hts gL_law_L_withKey rfl rfl rfl (by decide +kernel) ⟨Nat.le_of_ble_eq_true rfl, Nat.le_of_ble_eq_true rfl⟩) hG hP hD [] rfl (by decide +kernel) rfl hl.1 rfl (Nat.le_of_ble_eq_true rfl) dL_law_703 ⟨qz_f1 (k := 0) (show cells + 2 + 2000 ≤ 600130 by omega) (by decide), qz_f2 (k := 0) (show slots + 12 + 12000 ≤ 7301080 by omega) (by decide)⟩ ?_
        change W _ _ _ _ _ _ _ _ _ _ _ _ _ _ _ (F0 m 706 _ (.long (m_L_withKey dr (nI (y % 3)) (nI ((y / 15) % 5 + 1))) :: []))
        refine lv_lstore (lv' := [(11, .long (m_L_withKey dr (nI (y % 3)) (nI ((y / 15) % 5 + 1)))), (13, .int 1), (19, .int (nI ((y / 15) % 5 + 1) - 1)), (0, .ref b), (1, .ref o0), (2, .ref (ar 0)), (3, .ref (ar 1)), (4, .ref (ar 2)), (5, .ref (ar 5)), (6, .ref (ar 6)), (7, .ref (ar 7)), (8, .ref (ar 3)), (9, .ref (ar 8)), (10, .ref (ar 4)), (14, .int (nI tn)), (17, .int (nI y))]) hx hb dL_law_706 hl (by decide) rfl (fun ls hl => ?_)
        refine lv_goto (tgt := 1522) hx hb dL_law_708 (by decide) ?_
        exact W.widen (by omega) (by omega) (go _ _ _ _ _ _ _ _ _ _ _ _ _ _ _ _ _ _ _ _ H locs ls hT I' hP hPK hS (lv_sub hl [3, 4, 5, 6, 7, 8, 9, 10, 11, 12, 13, 0, 1, 14] rfl))
    · exact absurd c_98 (fun h9 => hz0 ((n0 (by omega)).mp h9))

set_option maxHeartbeats 4000000 in
set_option maxRecDepth 100000 in
theorem qz_B6 (X : qz_X p l s m meth c b L xs D Y o0 ast ald ahi act acd ar) (hc : cells + 4000 ≤ 600130) (hsl : slots + 24000 ≤ 7301080) (I : IV n bt d U st ld hi ct cd u v h ev nn qq li bb t uu dr) (hP : va_P D vwCl (qz_A Y ar v h ev nn qq li bb t uu) H) (hPK : va_P D vwCl (lz_K Y o0 ast ald ahi act acd st ld hi ct cd) H) (hS : va_S (fun q => s.heap.size ≤ q) s.heap H locs) (go : qz_go p l e s m below meth c b D Y o0 ast ald ahi act acd ar Q 1522 tn (fun n => tn + 1 ≤ 6 → n = 0) (cells + 10) (slots + 60)) (hy : y < 2147483648) (hT : tn + 1 ≤ 6 → n = 0) (hl : lv_has ls 23 [(0, .ref b), (1, .ref o0), (2, .ref (ar 0)), (3, .ref (ar 1)), (4, .ref (ar 2)), (5, .ref (ar 5)), (6, .ref (ar 6)), (7, .ref (ar 7)), (8, .ref (ar 3)), (9, .ref (ar 8)), (10, .ref (ar 4)), (11, .long dr), (13, .int 1), (14, .int (nI tn)), (17, .int (nI y))]) : W p l e room_1 s m #[Value.ref b] below meth c H locs (cells) (slots) Q (F0 m 718 ls []) := by
  obtain ⟨C0, hl0, hG, hB, hNC, hap⟩ := id X
  obtain ⟨hx, hb, hr, hml, hown, htb, hX, hbl, hlocks, hgv⟩ := id C0
  have hown : s.vm.findClass RL = some m.cls := hown
  have hts : ∀ w ∈ wsL_law, w.before #[Value.ref b] s = true := fun w h => htb w (wsL_law_in w h)
  have hD : va_D (fun q => s.heap.size ≤ q) (qz_A Y ar v h ev nn qq li bb t uu) := qz_apD hap qz_eA
  have hN := I.2.2.2.2.2.2.1
  have hn40 := I.2.2.2.2.2.2.2.1
  have hb10 := I.1.1.2.1
  by_cases hz0 : (y / 4) % 6 = 0
  · obtain ⟨z, u', hE, hz, I'⟩ := tv_field (k := y % 4) (a := 0) I (by omega) (by omega)
    refine lv_iload hx hb dL_law_718 (lv_at hl 14 rfl) ?_
    refine lv_iconst (v := 4) hx hb dL_law_720 (by decide) ?_
    refine lv_idiv hx hb dL_law_721 (by decide) ?_
    refine lv_topi (fun w_109 ew_109 => ?_)
    obtain rfl : w_109 = nI (y / 4) := ew_109.trans (nI_dv (a := y) (b := 4) (by omega) (by omega))
    refine lv_bipush (v := 6) hx hb dL_law_722 (by decide) ?_
    refine lv_irem hx hb dL_law_724 (by decide) ?_
    refine lv_topi (fun w_110 ew_110 => ?_)
    obtain rfl : w_110 = nI ((y / 4) % 6) := ew_110.trans (nI_md (a := y / 4) (b := 6) (by omega) (by omega))
    refine lv_if_ne (tgt := 732) hx hb dL_law_725 (by decide) (fun c_111 => ?_) (fun c_111 => ?_)
    · exact absurd ((n0 (by omega)).mpr hz0) c_111
    · refine lv_iconst (v := (-1)) hx hb dL_law_728 (by decide) ?_
      refine lv_goto (tgt := 740) hx hb dL_law_729 (by decide) ?_
      refine lv_topi (fun w_112 ew_112 => ?_)
      obtain rfl : w_112 = nI 0 - 1 := ew_112.trans (show (-1 : Int32) = nI 0 - 1 by decide)
      refine lv_istore (lv' := [(19, .int (nI 0 - 1)), (0, .ref b), (1, .ref o0), (2, .ref (ar 0)), (3, .ref (ar 1)), (4, .ref (ar 2)), (5, .ref (ar 5)), (6, .ref (ar 6)), (7, .ref (ar 7)), (8, .ref (ar 3)), (9, .ref (ar 8)), (10, .ref (ar 4)), (11, .long dr), (13, .int 1), (14, .int (nI tn)), (17, .int (nI y))]) hx hb dL_law_740 hl (by decide) rfl (fun ls hl => ?_)
      refine lv_aload_n hx hb dL_law_742 rfl (lv_at hl 2 rfl) ?_
      refine lv_iconst (v := 2) hx hb dL_law_743 (by decide) ?_
      refine lv_iload hx hb dL_law_744 (lv_at hl 15 rfl) ?_
      refine lv_iconst (v := 4) hx hb dL_law_746 (by decide) ?_
      refine lv_irem hx hb dL_law_747 (by decide) ?_
      refine lv_topi (fun w_113 ew_113 => ?_)
      obtain rfl : w_113 = nI (y % 4) := ew_113.trans (nI_md (a := y) (b := 4) (by omega) (by omega))
      refine lv_iload hx hb dL_law_748 (lv_at hl 0 rfl) ?_
      refine lz_callL (l := l) (pc := 750) (n := 4) (W0 := lz_K Y o0 ast ald ahi act acd st ld hi ct cd) (Wr := qz_A Y ar v h ev nn qq li bb t uu) (As := [.ref o0, .int 2, .int (nI (y % 4)), .int (nI 0 - 1)]) (rest := []) C0 hG hB hNC hap.app.2.1 lz_eK qz_eA hap.swap (ct_does_field_ok l D Y o0 ast st ald ld ahi hi act ct acd cd (nI (y % 4)) (nI 0 - 1) z hE hl0) gL_law_L_does rfl rfl rfl (by decide +kernel) ⟨Nat.le_of_ble_eq_true rfl, Nat.le_of_ble_eq_true rfl⟩ rfl hl.1 rfl (Nat.le_of_ble_eq_true rfl) dL_law_750 ⟨qz_f1 (k := 2) (show cells + 2000 ≤ 600130 by omega) (by decide), qz_f2 (k := 12) (show slots + 12000 ≤ 7301080 by omega) (by decide)⟩ hPK hP hS (fun H locs hPK hP hS => ?_)
      have hPK : va_P D vwCl (lz_K Y o0 ast ald ahi act acd st z.1 hi ct cd) H := hPK
      have hP : va_P D vwCl (qz_A Y ar v h ev nn qq li bb t uu) H := hP
      have hD : va_D (fun q => s.heap.size ≤ q) (qz_A Y ar v h ev nn qq li bb t uu) := qz_apD hap qz_eA
      change W _ _ _ _ _ _ _ _ _ _ _ _ _ _ _ (F0 m 753 _ (.int z.2 :: []))
      refine lv_topi (fun w_114 ew_114 => ?_)
      obtain rfl : w_114 = nI (fx dr (y % 4)) - 1 := ew_114.trans hz
      refine lv_lload hx hb dL_law_753 (lv_at hl 12 rfl) ?_
      refine lv_iload hx hb dL_law_755 (lv_at hl 15 rfl) ?_
      refine lv_iconst (v := 4) hx hb dL_law_757 (by decide) ?_
      refine lv_irem hx hb dL_law_758 (by decide) ?_
      refine lv_topi (fun w_115 ew_115 => ?_)
      obtain rfl : w_115 = nI (y % 4) := ew_115.trans (nI_md (a := y) (b := 4) (by omega) (by omega))
      refine cq_RS (R := room_1) (args := #[Value.ref b]) (y := yL_field) (bytes := cL_field) (cc := code) (maxL := 3) (nL := 23) (n := 2) (index := 35) (ret := (some .int)) (ws := wsL_field) (rm := cq_rm 0 0) (Ts := wsL_law) (own := RL) (D := D) (Y := Y) (W0 := ([] : va_W)) (wl := qz_A Y ar v h ev nn qq li bb t uu) (v := some (.int (m_L_field dr (nI (y % 4))))) (st0 := [.int (nI (y % 4)), .long dr, .int (nI (fx dr (y % 4)) - 1)]) (As := [.long dr, .int (nI (y % 4))]) (rest := [.int (nI (fx dr (y % 4)) - 1)]) ⟨hx, hb, hml, hown, hts⟩ (ct_L_field l D Y  dr (nI (y % 4))) (va_cwS 2 hts gL_law_L_field rfl rfl rfl (by decide +kernel) ⟨Nat.le_of_ble_eq_true rfl, Nat.le_of_ble_eq_true rfl⟩) hG hP hD [] rfl (by decide +kernel) rfl hl.1 rfl (Nat.le_of_ble_eq_true rfl) dL_law_759 ⟨qz_f1 (k := 0) (show cells + 2 + 2000 ≤ 600130 by omega) (by decide), qz_f2 (k := 0) (show slots + 12 + 12000 ≤ 7301080 by omega) (by decide)⟩ ?_
      change W _ _ _ _ _ _ _ _ _ _ _ _ _ _ _ (F0 m 762 _ (.int (m_L_field dr (nI (y % 4))) :: [.int (nI (fx dr (y % 4)) - 1)]))
      refine lv_topi (fun w_116 ew_116 => ?_)
      obtain rfl : w_116 = nI (fx dr (y % 4)) := ew_116.trans (L_field (by omega))
      refine lv_iconst (v := 1) hx hb dL_law_762 (by decide) ?_
      refine lv_isub hx hb dL_law_763 ?_
      refine lv_icmp_ne (tgt := 771) hx hb dL_law_764 (by decide) (fun c_117 => ?_) (fun c_117 => ?_)
      · exact absurd (Eq.refl (nI (fx dr (y % 4)) - 1)) c_117
      · refine lv_iconst (v := 1) hx hb dL_law_767 (by decide) ?_
        refine lv_goto (tgt := 772) hx hb dL_law_768 (by decide) ?_
        refine lv_istore (lv' := [(13, .int 1), (19, .int (nI 0 - 1)), (0, .ref b), (1, .ref o0), (2, .ref (ar 0)), (3, .ref (ar 1)), (4, .ref (ar 2)), (5, .ref (ar 5)), (6, .ref (ar 6)), (7, .ref (ar 7)), (8, .ref (ar 3)), (9, .ref (ar 8)), (10, .ref (ar 4)), (11, .long dr), (14, .int (nI tn)), (17, .int (nI y))]) hx hb dL_law_772 hl (by decide) rfl (fun ls hl => ?_)
        refine lv_lload hx hb dL_law_774 (lv_at hl 13 rfl) ?_
        refine lv_iload hx hb dL_law_776 (lv_at hl 15 rfl) ?_
        refine lv_iconst (v := 4) hx hb dL_law_778 (by decide) ?_
        refine lv_irem hx hb dL_law_779 (by decide) ?_
        refine lv_topi (fun w_118 ew_118 => ?_)
        obtain rfl : w_118 = nI (y % 4) := ew_118.trans (nI_md (a := y) (b := 4) (by omega) (by omega))
        refine lv_iload hx hb dL_law_780 (lv_at hl 1 rfl) ?_
        refine lv_iconst (v := 1) hx hb dL_law_782 (by decide) ?_
        refine lv_iadd hx hb dL_law_783 ?_
        refine lv_topi (fun w_119 ew_119 => ?_)
        obtain rfl : w_119 = nI 0 := ew_119.trans (Int32.sub_add_cancel _ _)
        refine lv_iconst (v := 0) hx hb dL_law_784 (by decide) ?_
        refine cq_RS (R := room_1) (args := #[Value.ref b]) (y := yL_withField) (bytes := cL_withField) (cc := code) (maxL := 7) (nL := 23) (n := 4) (index := 45) (ret := (some .long)) (ws := wsL_withField) (rm := cq_rm 0 0) (Ts := wsL_law) (own := RL) (D := D) (Y := Y) (W0 := ([] : va_W)) (wl := qz_A Y ar v h ev nn qq li bb t uu) (v := some (.long (m_L_withField dr (nI (y % 4)) (nI 0) 0))) (st0 := [.int 0, .int (nI 0), .int (nI (y % 4)), .long dr]) (As := [.long dr, .int (nI (y % 4)), .int (nI 0), .int 0]) (rest := []) ⟨hx, hb, hml, hown, hts⟩ (ct_L_withField l D Y  dr (nI (y % 4)) (nI 0) 0) (va_cwS 4 hts gL_law_L_withField rfl rfl rfl (by decide +kernel) ⟨Nat.le_of_ble_eq_true rfl, Nat.le_of_ble_eq_true rfl⟩) hG hP hD [] rfl (by decide +kernel) rfl hl.1 rfl (Nat.le_of_ble_eq_true rfl) dL_law_785 ⟨qz_f1 (k := 0) (show cells + 2 + 2000 ≤ 600130 by omega) (by decide), qz_f2 (k := 0) (show slots + 12 + 12000 ≤ 7301080 by omega) (by decide)⟩ ?_
        change W _ _ _ _ _ _ _ _ _ _ _ _ _ _ _ (F0 m 788 _ (.long (m_L_withField dr (nI (y % 4)) (nI 0) 0) :: []))
        refine lv_lstore (lv' := [(11, .long (m_L_withField dr (nI (y % 4)) (nI 0) 0)), (13, .int 1), (19, .int (nI 0 - 1)), (0, .ref b), (1, .ref o0), (2, .ref (ar 0)), (3, .ref (ar 1)), (4, .ref (ar 2)), (5, .ref (ar 5)), (6, .ref (ar 6)), (7, .ref (ar 7)), (8, .ref (ar 3)), (9, .ref (ar 8)), (10, .ref (ar 4)), (14, .int (nI tn)), (17, .int (nI y))]) hx hb dL_law_788 hl (by decide) rfl (fun ls hl => ?_)
        refine lv_goto (tgt := 1522) hx hb dL_law_790 (by decide) ?_
        exact W.widen (by omega) (by omega) (go _ _ _ _ _ _ _ _ _ _ _ _ _ _ _ _ _ _ _ _ H locs ls hT I' hP hPK hS (lv_sub hl [3, 4, 5, 6, 7, 8, 9, 10, 11, 12, 13, 0, 1, 14] rfl))
  · obtain ⟨z, u', hE, hz, I'⟩ := tv_field (k := y % 4) (a := ((y / 24) % 100 + 1)) I (by omega) (by omega)
    refine lv_iload hx hb dL_law_718 (lv_at hl 14 rfl) ?_
    refine lv_iconst (v := 4) hx hb dL_law_720 (by decide) ?_
    refine lv_idiv hx hb dL_law_721 (by decide) ?_
    refine lv_topi (fun w_120 ew_120 => ?_)
    obtain rfl : w_120 = nI (y / 4) := ew_120.trans (nI_dv (a := y) (b := 4) (by omega) (by omega))
    refine lv_bipush (v := 6) hx hb dL_law_722 (by decide) ?_
    refine lv_irem hx hb dL_law_724 (by decide) ?_
    refine lv_topi (fun w_121 ew_121 => ?_)
    obtain rfl : w_121 = nI ((y / 4) % 6) := ew_121.trans (nI_md (a := y / 4) (b := 6) (by omega) (by omega))
    refine lv_if_ne (tgt := 732) hx hb dL_law_725 (by decide) (fun c_122 => ?_) (fun c_122 => ?_)
    · refine lv_iload hx hb dL_law_732 (lv_at hl 14 rfl) ?_
      refine lv_bipush (v := 24) hx hb dL_law_734 (by decide) ?_
      refine lv_idiv hx hb dL_law_736 (by decide) ?_
      refine lv_topi (fun w_123 ew_123 => ?_)
      obtain rfl : w_123 = nI (y / 24) := ew_123.trans (nI_dv (a := y) (b := 24) (by omega) (by omega))
      refine lv_bipush (v := 100) hx hb dL_law_737 (by decide) ?_
      refine lv_irem hx hb dL_law_739 (by decide) ?_
      refine lv_topi (fun w_124 ew_124 => ?_)
      obtain rfl : w_124 = nI ((y / 24) % 100) := ew_124.trans (nI_md (a := y / 24) (b := 100) (by omega) (by omega))
      refine lv_topi (fun w_125 ew_125 => ?_)
      obtain rfl : w_125 = nI ((y / 24) % 100 + 1) - 1 := ew_125.trans ((nI_pred ((y / 24) % 100)).symm)
      refine lv_istore (lv' := [(19, .int (nI ((y / 24) % 100 + 1) - 1)), (0, .ref b), (1, .ref o0), (2, .ref (ar 0)), (3, .ref (ar 1)), (4, .ref (ar 2)), (5, .ref (ar 5)), (6, .ref (ar 6)), (7, .ref (ar 7)), (8, .ref (ar 3)), (9, .ref (ar 8)), (10, .ref (ar 4)), (11, .long dr), (13, .int 1), (14, .int (nI tn)), (17, .int (nI y))]) hx hb dL_law_740 hl (by decide) rfl (fun ls hl => ?_)
      refine lv_aload_n hx hb dL_law_742 rfl (lv_at hl 2 rfl) ?_
      refine lv_iconst (v := 2) hx hb dL_law_743 (by decide) ?_
      refine lv_iload hx hb dL_law_744 (lv_at hl 15 rfl) ?_
      refine lv_iconst (v := 4) hx hb dL_law_746 (by decide) ?_
      refine lv_irem hx hb dL_law_747 (by decide) ?_
      refine lv_topi (fun w_126 ew_126 => ?_)
      obtain rfl : w_126 = nI (y % 4) := ew_126.trans (nI_md (a := y) (b := 4) (by omega) (by omega))
      refine lv_iload hx hb dL_law_748 (lv_at hl 0 rfl) ?_
      refine lz_callL (l := l) (pc := 750) (n := 4) (W0 := lz_K Y o0 ast ald ahi act acd st ld hi ct cd) (Wr := qz_A Y ar v h ev nn qq li bb t uu) (As := [.ref o0, .int 2, .int (nI (y % 4)), .int (nI ((y / 24) % 100 + 1) - 1)]) (rest := []) C0 hG hB hNC hap.app.2.1 lz_eK qz_eA hap.swap (ct_does_field_ok l D Y o0 ast st ald ld ahi hi act ct acd cd (nI (y % 4)) (nI ((y / 24) % 100 + 1) - 1) z hE hl0) gL_law_L_does rfl rfl rfl (by decide +kernel) ⟨Nat.le_of_ble_eq_true rfl, Nat.le_of_ble_eq_true rfl⟩ rfl hl.1 rfl (Nat.le_of_ble_eq_true rfl) dL_law_750 ⟨qz_f1 (k := 2) (show cells + 2000 ≤ 600130 by omega) (by decide), qz_f2 (k := 12) (show slots + 12000 ≤ 7301080 by omega) (by decide)⟩ hPK hP hS (fun H locs hPK hP hS => ?_)
      have hPK : va_P D vwCl (lz_K Y o0 ast ald ahi act acd st z.1 hi ct cd) H := hPK
      have hP : va_P D vwCl (qz_A Y ar v h ev nn qq li bb t uu) H := hP
      have hD : va_D (fun q => s.heap.size ≤ q) (qz_A Y ar v h ev nn qq li bb t uu) := qz_apD hap qz_eA
      change W _ _ _ _ _ _ _ _ _ _ _ _ _ _ _ (F0 m 753 _ (.int z.2 :: []))
      refine lv_topi (fun w_127 ew_127 => ?_)
      obtain rfl : w_127 = nI (fx dr (y % 4)) - 1 := ew_127.trans hz
      refine lv_lload hx hb dL_law_753 (lv_at hl 12 rfl) ?_
      refine lv_iload hx hb dL_law_755 (lv_at hl 15 rfl) ?_
      refine lv_iconst (v := 4) hx hb dL_law_757 (by decide) ?_
      refine lv_irem hx hb dL_law_758 (by decide) ?_
      refine lv_topi (fun w_128 ew_128 => ?_)
      obtain rfl : w_128 = nI (y % 4) := ew_128.trans (nI_md (a := y) (b := 4) (by omega) (by omega))
      refine cq_RS (R := room_1) (args := #[Value.ref b]) (y := yL_field) (bytes := cL_field) (cc := code) (maxL := 3) (nL := 23) (n := 2) (index := 35) (ret := (some .int)) (ws := wsL_field) (rm := cq_rm 0 0) (Ts := wsL_law) (own := RL) (D := D) (Y := Y) (W0 := ([] : va_W)) (wl := qz_A Y ar v h ev nn qq li bb t uu) (v := some (.int (m_L_field dr (nI (y % 4))))) (st0 := [.int (nI (y % 4)), .long dr, .int (nI (fx dr (y % 4)) - 1)]) (As := [.long dr, .int (nI (y % 4))]) (rest := [.int (nI (fx dr (y % 4)) - 1)]) ⟨hx, hb, hml, hown, hts⟩ (ct_L_field l D Y  dr (nI (y % 4))) (va_cwS 2 hts gL_law_L_field rfl rfl rfl (by decide +kernel) ⟨Nat.le_of_ble_eq_true rfl, Nat.le_of_ble_eq_true rfl⟩) hG hP hD [] rfl (by decide +kernel) rfl hl.1 rfl (Nat.le_of_ble_eq_true rfl) dL_law_759 ⟨qz_f1 (k := 0) (show cells + 2 + 2000 ≤ 600130 by omega) (by decide), qz_f2 (k := 0) (show slots + 12 + 12000 ≤ 7301080 by omega) (by decide)⟩ ?_
      change W _ _ _ _ _ _ _ _ _ _ _ _ _ _ _ (F0 m 762 _ (.int (m_L_field dr (nI (y % 4))) :: [.int (nI (fx dr (y % 4)) - 1)]))
      refine lv_topi (fun w_129 ew_129 => ?_)
      obtain rfl : w_129 = nI (fx dr (y % 4)) := ew_129.trans (L_field (by omega))
      refine lv_iconst (v := 1) hx hb dL_law_762 (by decide) ?_
      refine lv_isub hx hb dL_law_763 ?_
      refine lv_icmp_ne (tgt := 771) hx hb dL_law_764 (by decide) (fun c_130 => ?_) (fun c_130 => ?_)
      · exact absurd (Eq.refl (nI (fx dr (y % 4)) - 1)) c_130
      · refine lv_iconst (v := 1) hx hb dL_law_767 (by decide) ?_
        refine lv_goto (tgt := 772) hx hb dL_law_768 (by decide) ?_
        refine lv_istore (lv' := [(13, .int 1), (19, .int (nI ((y / 24) % 100 + 1) - 1)), (0, .ref b), (1, .ref o0), (2, .ref (ar 0)), (3, .ref (ar 1)), (4, .ref (ar 2)), (5, .ref (ar 5)), (6, .ref (ar 6)), (7, .ref (ar 7)), (8, .ref (ar 3)), (9, .ref (ar 8)), (10, .ref (ar 4)), (11, .long dr), (14, .int (nI tn)), (17, .int (nI y))]) hx hb dL_law_772 hl (by decide) rfl (fun ls hl => ?_)
        refine lv_lload hx hb dL_law_774 (lv_at hl 13 rfl) ?_
        refine lv_iload hx hb dL_law_776 (lv_at hl 15 rfl) ?_
        refine lv_iconst (v := 4) hx hb dL_law_778 (by decide) ?_
        refine lv_irem hx hb dL_law_779 (by decide) ?_
        refine lv_topi (fun w_131 ew_131 => ?_)
        obtain rfl : w_131 = nI (y % 4) := ew_131.trans (nI_md (a := y) (b := 4) (by omega) (by omega))
        refine lv_iload hx hb dL_law_780 (lv_at hl 1 rfl) ?_
        refine lv_iconst (v := 1) hx hb dL_law_782 (by decide) ?_
        refine lv_iadd hx hb dL_law_783 ?_
        refine lv_topi (fun w_132 ew_132 => ?_)
        obtain rfl : w_132 = nI ((y / 24) % 100 + 1) := ew_132.trans (Int32.sub_add_cancel _ _)
        refine lv_iconst (v := 0) hx hb dL_law_784 (by decide) ?_
        refine cq_RS (R := room_1) (args := #[Value.ref b]) (y := yL_withField) (bytes := cL_withField) (cc := code) (maxL := 7) (nL := 23) (n := 4) (index := 45) (ret := (some .long)) (ws := wsL_withField) (rm := cq_rm 0 0) (Ts := wsL_law) (own := RL) (D := D) (Y := Y) (W0 := ([] : va_W)) (wl := qz_A Y ar v h ev nn qq li bb t uu) (v := some (.long (m_L_withField dr (nI (y % 4)) (nI ((y / 24) % 100 + 1)) 0))) (st0 := [.int 0, .int (nI ((y / 24) % 100 + 1)), .int (nI (y % 4)), .long dr]) (As := [.long dr, .int (nI (y % 4)), .int (nI ((y / 24) % 100 + 1)), .int 0]) (rest := []) ⟨hx, hb, hml, hown, hts⟩ (ct_L_withField l D Y  dr (nI (y % 4)) (nI ((y / 24) % 100 + 1)) 0) (va_cwS 4 hts gL_law_L_withField rfl rfl rfl (by decide +kernel) ⟨Nat.le_of_ble_eq_true rfl, Nat.le_of_ble_eq_true rfl⟩) hG hP hD [] rfl (by decide +kernel) rfl hl.1 rfl (Nat.le_of_ble_eq_true rfl) dL_law_785 ⟨qz_f1 (k := 0) (show cells + 2 + 2000 ≤ 600130 by omega) (by decide), qz_f2 (k := 0) (show slots + 12 + 12000 ≤ 7301080 by omega) (by decide)⟩ ?_
        change W _ _ _ _ _ _ _ _ _ _ _ _ _ _ _ (F0 m 788 _ (.long (m_L_withField dr (nI (y % 4)) (nI ((y / 24) % 100 + 1)) 0) :: []))
        refine lv_lstore (lv' := [(11, .long (m_L_withField dr (nI (y % 4)) (nI ((y / 24) % 100 + 1)) 0)), (13, .int 1), (19, .int (nI ((y / 24) % 100 + 1) - 1)), (0, .ref b), (1, .ref o0), (2, .ref (ar 0)), (3, .ref (ar 1)), (4, .ref (ar 2)), (5, .ref (ar 5)), (6, .ref (ar 6)), (7, .ref (ar 7)), (8, .ref (ar 3)), (9, .ref (ar 8)), (10, .ref (ar 4)), (14, .int (nI tn)), (17, .int (nI y))]) hx hb dL_law_788 hl (by decide) rfl (fun ls hl => ?_)
        refine lv_goto (tgt := 1522) hx hb dL_law_790 (by decide) ?_
        exact W.widen (by omega) (by omega) (go _ _ _ _ _ _ _ _ _ _ _ _ _ _ _ _ _ _ _ _ H locs ls hT I' hP hPK hS (lv_sub hl [3, 4, 5, 6, 7, 8, 9, 10, 11, 12, 13, 0, 1, 14] rfl))
    · exact absurd c_122 (fun h9 => hz0 ((n0 (by omega)).mp h9))
end LAW
