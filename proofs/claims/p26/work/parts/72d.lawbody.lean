section LAW
variable {p : Program} {l : Launch} {e : Env} {s : State} {m : MethodId} {below : List Frame} {meth : Method} {c : Code} {H : Heap} {locs : List Loc} {cells slots : Nat} {Q : State → Prop} {ls : Array Slot} {D : va_G} {Y : cq_Y} {b L : Nat} {xs : Nat → Int32} {o0 : Nat} {ast ald ahi act acd ar : Nat → Nat}
variable {n bt d U tn K y r : Nat} {st : SetS} {ld : LodS} {hi : HisS} {ct cd : CatS} {u : MdlS} {v li : FL} {h ev nn qq bb t uu : FI} {dr : Int64}
set_option maxHeartbeats 4000000 in
set_option maxRecDepth 100000 in
theorem qz_B7 (X : qz_X p l s m meth c b L xs D Y o0 ast ald ahi act acd ar) (hc : cells + 4000 ≤ 600130) (hsl : slots + 24000 ≤ 7301080) (I : IV n bt d U st ld hi ct cd u v h ev nn qq li bb t uu dr) (hP : va_P D vwCl (qz_A Y ar v h ev nn qq li bb t uu) H) (hPK : va_P D vwCl (lz_K Y o0 ast ald ahi act acd st ld hi ct cd) H) (hS : va_S (fun q => s.heap.size ≤ q) s.heap H locs) (go : qz_go p l e s m below meth c b D Y o0 ast ald ahi act acd ar Q 1522 tn (fun n => tn + 1 ≤ 6 → n = 0) (cells + 10) (slots + 60)) (hy : y < 2147483648) (hT : tn + 1 ≤ 6 → n = 0) (hT7 : 6 < tn) (hn : n < 40) (hd : d < 64) (hl : lv_has ls 23 [(0, .ref b), (1, .ref o0), (2, .ref (ar 0)), (3, .ref (ar 1)), (4, .ref (ar 2)), (5, .ref (ar 5)), (6, .ref (ar 6)), (7, .ref (ar 7)), (8, .ref (ar 3)), (9, .ref (ar 8)), (10, .ref (ar 4)), (11, .long dr), (13, .int 1), (14, .int (nI tn)), (17, .int (nI y))]) : W p l e room_1 s m #[Value.ref b] below meth c H locs (cells) (slots) Q (F0 m 818 ls []) := by
  obtain ⟨C0, hl0, hG, hB, hNC, hap⟩ := id X
  obtain ⟨hx, hb, hr, hml, hown, htb, hX, hbl, hlocks, hgv⟩ := id C0
  have hown : s.vm.findClass RL = some m.cls := hown
  have hts : ∀ w ∈ wsL_law, w.before #[Value.ref b] s = true := fun w h => htb w (wsL_law_in w h)
  have hD : va_D (fun q => s.heap.size ≤ q) (qz_A Y ar v h ev nn qq li bb t uu) := qz_apD hap qz_eA
  have hN := I.2.2.2.2.2.2.1
  have hn40 := I.2.2.2.2.2.2.2.1
  have hb10 := I.1.1.2.1
  by_cases hbt : bt = 0
  · refine lv_bipush (v := (-13)) hx hb dL_law_818 (by decide) ?_
    refine lv_istore (lv' := [(19, .int (-13)), (0, .ref b), (1, .ref o0), (2, .ref (ar 0)), (3, .ref (ar 1)), (4, .ref (ar 2)), (5, .ref (ar 5)), (6, .ref (ar 6)), (7, .ref (ar 7)), (8, .ref (ar 3)), (9, .ref (ar 8)), (10, .ref (ar 4)), (11, .long dr), (13, .int 1), (14, .int (nI tn)), (17, .int (nI y))]) hx hb dL_law_820 hl (by decide) rfl (fun ls hl => ?_)
    refine lv_aload hx hb dL_law_822 (lv_at hl 9 rfl) ?_
    refine lv_iconst (v := 0) hx hb dL_law_824 (by decide) ?_
    refine va_iald hx hb hG.1 hP 3 0 rfl rfl (inb_in (by decide)) dL_law_825 ?_
    refine lv_topi (fun w_133 ew_133 => ?_)
    obtain rfl : w_133 = nn 0 := ew_133.trans (congrArg nn (show ((0 : Int32).toNatClampNeg) = 0 by decide))
    refine lv_topi (fun w_134 ew_134 => ?_)
    obtain rfl : w_134 = nI bt := ew_134.trans hN.1
    refine lv_if_le (tgt := 960) hx hb dL_law_826 (by decide) (fun c_135 => ?_) (fun c_135 => ?_)
    · refine lv_aload_n hx hb dL_law_960 rfl (lv_at hl 2 rfl) ?_
      refine lv_iconst (v := 3) hx hb dL_law_961 (by decide) ?_
      refine lv_iload hx hb dL_law_962 (lv_at hl 15 rfl) ?_
      refine lv_iconst (v := 5) hx hb dL_law_964 (by decide) ?_
      refine lv_irem hx hb dL_law_965 (by decide) ?_
      refine lv_topi (fun w_136 ew_136 => ?_)
      obtain rfl : w_136 = nI (y % 5) := ew_136.trans (nI_md (a := y) (b := 5) (by omega) (by omega))
      refine lv_iconst (v := 0) hx hb dL_law_966 (by decide) ?_
      refine lz_callL (l := l) (pc := 967) (n := 4) (W0 := lz_K Y o0 ast ald ahi act acd st ld hi ct cd) (Wr := qz_A Y ar v h ev nn qq li bb t uu) (As := [.ref o0, .int 3, .int (nI (y % 5)), .int 0]) (rest := []) C0 hG hB hNC hap.app.2.1 lz_eK qz_eA hap.swap (ct_does_load_ex92 l D Y o0 ast st ald ld ahi hi act ct acd cd (nI (y % 5)) (0 : Int32) (tv_load0 I hbt (by omega)) hl0) gL_law_L_does rfl rfl rfl (by decide +kernel) ⟨Nat.le_of_ble_eq_true rfl, Nat.le_of_ble_eq_true rfl⟩ rfl hl.1 rfl (Nat.le_of_ble_eq_true rfl) dL_law_967 ⟨qz_f1 (k := 2) (show cells + 2000 ≤ 600130 by omega) (by decide), qz_f2 (k := 12) (show slots + 12000 ≤ 7301080 by omega) (by decide)⟩ hPK hP hS (fun H locs hPK hP hS => ?_)
      have hPK : va_P D vwCl (lz_K Y o0 ast ald ahi act acd st ld hi ct cd) H := hPK
      have hP : va_P D vwCl (qz_A Y ar v h ev nn qq li bb t uu) H := hP
      have hD : va_D (fun q => s.heap.size ≤ q) (qz_A Y ar v h ev nn qq li bb t uu) := qz_apD hap qz_eA
      change W _ _ _ _ _ _ _ _ _ _ _ _ _ _ _ (F0 m 970 _ (.int (-13) :: []))
      refine lv_iload hx hb dL_law_970 (lv_at hl 0 rfl) ?_
      refine lv_icmp_ne (tgt := 979) hx hb dL_law_972 (by decide) (fun c_137 => ?_) (fun c_137 => ?_)
      · exact absurd c_137 (by decide)
      · refine lv_iconst (v := 1) hx hb dL_law_975 (by decide) ?_
        refine lv_goto (tgt := 980) hx hb dL_law_976 (by decide) ?_
        refine lv_istore (lv' := [(13, .int 1), (19, .int (-13)), (0, .ref b), (1, .ref o0), (2, .ref (ar 0)), (3, .ref (ar 1)), (4, .ref (ar 2)), (5, .ref (ar 5)), (6, .ref (ar 6)), (7, .ref (ar 7)), (8, .ref (ar 3)), (9, .ref (ar 8)), (10, .ref (ar 4)), (11, .long dr), (14, .int (nI tn)), (17, .int (nI y))]) hx hb dL_law_980 hl (by decide) rfl (fun ls hl => ?_)
        refine lv_goto (tgt := 1522) hx hb dL_law_982 (by decide) ?_
        exact W.widen (by omega) (by omega) (go _ _ _ _ _ _ _ _ _ _ _ _ _ _ _ _ _ _ _ _ H locs ls hT I hP hPK hS (lv_sub hl [2, 3, 4, 5, 6, 7, 8, 9, 10, 11, 12, 13, 0, 14] rfl))
    · exact absurd ((nle0 (by omega)).mpr hbt) c_135
  · obtain ⟨B, rfl⟩ : ∃ B, bt = B + 1 := ⟨bt - 1, by omega⟩
    have lp : ∀ (q k : Nat) (x : Int64) (ls : Array Slot), k + q = 4 → PD dr x (y % 5) k → lv_has ls 23 [(0, .ref b), (1, .ref o0), (2, .ref (ar 0)), (3, .ref (ar 1)), (4, .ref (ar 2)), (5, .ref (ar 5)), (6, .ref (ar 6)), (7, .ref (ar 7)), (8, .ref (ar 3)), (9, .ref (ar 8)), (10, .ref (ar 4)), (11, .long x), (13, .int 1), (14, .int (nI tn)), (17, .int (nI y)), (19, .int (-13)), (20, .int (nI n)), (21, .int (nI (y % 5))), (22, .int (nI k))] → W p l e room_1 s m #[Value.ref b] below meth c H locs (cells) (slots) Q (F0 m 844 ls []) := by
      intro q; induction q with
      | zero =>
        intro k x ls hk9 hp hl
        obtain rfl : k = 4 := by omega
        obtain ⟨p1, p2, p3, p4⟩ := hp
        obtain ⟨nn1, hA, hN1⟩ := adds_eq (ev := ev) (K := 0) (o := n) (q := 0) (show NV (n + 1) (B + 1) d (upd nn 1 (nI (n + 1))) from ⟨(pk_un (by decide)).trans hN.1, pk_us, (pk_un (by decide)).trans hN.2.2⟩) hd
        obtain ⟨v', h', t', hM, z, u', hE, hz, I'⟩ := tv_load (s := y % 5) (x := x) I hn hd (by omega) p1 p2 (fun j hj => ⟨(p3 j hj).1, (p3 j hj).2, p4 j hj hj⟩) nn1 hN1
        refine lv_iload hx hb dL_law_844 (lv_at hl 18 rfl) ?_
        refine lv_iconst (v := 4) hx hb dL_law_846 (by decide) ?_
        refine lv_icmp_ge (tgt := 888) hx hb dL_law_847 (by decide) (fun c_144 => ?_) (fun c_144 => ?_)
        · refine lv_aload hx hb dL_law_888 (lv_at hl 5 rfl) ?_
          refine lv_iload hx hb dL_law_890 (lv_at hl 16 rfl) ?_
          refine lv_lload hx hb dL_law_892 (lv_at hl 11 rfl) ?_
          refine qz_lst hx hb hG.1 hap qz_eA lz_eK hP hPK hS 5 2 rfl rfl (inb_in (inb_n (show n < 40 by omega) (by decide))) dL_law_894 (fun H locs hP hPK hS => ?_)
          rw [show (nI n).toNatClampNeg = n from ncl (by omega)] at hP
          have hP : va_P D vwCl (qz_A Y ar v h ev nn qq (vp_updL li n x) bb t uu) H := hP
          have hD : va_D (fun q => s.heap.size ≤ q) (qz_A Y ar v h ev nn qq (vp_updL li n x) bb t uu) := qz_apD hap qz_eA
          refine lv_aload hx hb dL_law_895 (lv_at hl 6 rfl) ?_
          refine lv_iload hx hb dL_law_897 (lv_at hl 16 rfl) ?_
          refine lv_aload hx hb dL_law_899 (lv_at hl 8 rfl) ?_
          refine lv_iconst (v := 0) hx hb dL_law_901 (by decide) ?_
          refine va_iald hx hb hG.1 hP 3 0 rfl rfl (inb_in (by decide)) dL_law_902 ?_
          refine lv_topi (fun w_145 ew_145 => ?_)
          obtain rfl : w_145 = nn 0 := ew_145.trans (congrArg nn (show ((0 : Int32).toNatClampNeg) = 0 by decide))
          refine lv_topi (fun w_146 ew_146 => ?_)
          obtain rfl : w_146 = nI (B + 1) := ew_146.trans hN.1
          refine lv_iconst (v := 1) hx hb dL_law_903 (by decide) ?_
          refine lv_isub hx hb dL_law_904 ?_
          refine lv_topi (fun w_147 ew_147 => ?_)
          obtain rfl : w_147 = nI B := ew_147.trans (nI_pred B)
          refine lv_bipush (v := 16) hx hb dL_law_905 (by decide) ?_
          refine lv_iload hx hb dL_law_907 (lv_at hl 17 rfl) ?_
          refine lv_imul hx hb dL_law_909 ?_
          refine lv_topi (fun w_148 ew_148 => ?_)
          obtain rfl : w_148 = nI (16 * (y % 5)) := ew_148.trans (pk_mul 16 (y % 5))
          refine lv_iadd hx hb dL_law_910 ?_
          refine lv_topi (fun w_149 ew_149 => ?_)
          obtain rfl : w_149 = nI (B + (16 * (y % 5))) := ew_149.trans (nI_add B (16 * (y % 5)))
          refine qz_ist hx hb hG.1 hap qz_eA lz_eK hP hPK hS 6 0 rfl rfl (inb_in (inb_n (show n < 40 by omega) (by decide))) dL_law_911 (fun H locs hP hPK hS => ?_)
          rw [show (nI n).toNatClampNeg = n from ncl (by omega)] at hP
          have hP : va_P D vwCl (qz_A Y ar v h ev nn qq (vp_updL li n x) (upd bb n (nI (B + (16 * (y % 5))))) t uu) H := hP
          have hD : va_D (fun q => s.heap.size ≤ q) (qz_A Y ar v h ev nn qq (vp_updL li n x) (upd bb n (nI (B + (16 * (y % 5))))) t uu) := qz_apD hap qz_eA
          refine lv_lconst (v := 0) hx hb dL_law_912 (by decide) ?_
          refine lv_lstore (lv' := [(11, .long 0), (0, .ref b), (1, .ref o0), (2, .ref (ar 0)), (3, .ref (ar 1)), (4, .ref (ar 2)), (5, .ref (ar 5)), (6, .ref (ar 6)), (7, .ref (ar 7)), (8, .ref (ar 3)), (9, .ref (ar 8)), (10, .ref (ar 4)), (13, .int 1), (14, .int (nI tn)), (17, .int (nI y)), (19, .int (-13)), (20, .int (nI n)), (21, .int (nI (y % 5))), (22, .int (nI 4))]) hx hb dL_law_913 hl (by decide) rfl (fun ls hl => ?_)
          refine lv_aload hx hb dL_law_915 (lv_at hl 9 rfl) ?_
          refine lv_iconst (v := 1) hx hb dL_law_917 (by decide) ?_
          refine lv_dup2_11 hx hb dL_law_918 rfl rfl ?_
          refine va_iald hx hb hG.1 hP 3 0 rfl rfl (inb_in (by decide)) dL_law_919 ?_
          refine lv_topi (fun w_150 ew_150 => ?_)
          obtain rfl : w_150 = nn 1 := ew_150.trans (congrArg nn (show ((1 : Int32).toNatClampNeg) = 1 by decide))
          refine lv_topi (fun w_151 ew_151 => ?_)
          obtain rfl : w_151 = nI n := ew_151.trans hN.2.1
          refine lv_iconst (v := 1) hx hb dL_law_920 (by decide) ?_
          refine lv_iadd hx hb dL_law_921 ?_
          refine lv_topi (fun w_152 ew_152 => ?_)
          obtain rfl : w_152 = nI (n + 1) := ew_152.trans (nI_add n 1)
          refine qz_ist hx hb hG.1 hap qz_eA lz_eK hP hPK hS 3 0 rfl rfl (inb_in (by decide)) dL_law_922 (fun H locs hP hPK hS => ?_)
          rw [show ((1 : Int32).toNatClampNeg) = 1 by decide] at hP
          have hP : va_P D vwCl (qz_A Y ar v h ev (upd nn 1 (nI (n + 1))) qq (vp_updL li n x) (upd bb n (nI (B + (16 * (y % 5))))) t uu) H := hP
          have hD : va_D (fun q => s.heap.size ≤ q) (qz_A Y ar v h ev (upd nn 1 (nI (n + 1))) qq (vp_updL li n x) (upd bb n (nI (B + (16 * (y % 5))))) t uu) := qz_apD hap qz_eA
          refine lv_aload hx hb dL_law_923 (lv_at hl 5 rfl) ?_
          refine lv_aload hx hb dL_law_925 (lv_at hl 9 rfl) ?_
          refine lv_iconst (v := 0) hx hb dL_law_927 (by decide) ?_
          refine lv_iload hx hb dL_law_928 (lv_at hl 16 rfl) ?_
          refine lv_iconst (v := 0) hx hb dL_law_930 (by decide) ?_
          refine qz_WS (R := room_1) (args := #[Value.ref b]) (y := yL_adds) (bytes := cL_adds) (cc := code) (maxL := 5) (nL := 23) (n := 5) (index := 153) (pc := 931) (ret := none) (ws := wsL_adds) (rm := cq_rm 0 0) (Ts := wsL_law) (own := RL) (D := D) (Y := Y) (W0 := [(ar 2, .inl (Y.1, 64, .inl ev)), (ar 3, .inl (Y.1, 4, .inl (upd nn 1 (nI (n + 1)))))]) (W1 := [(ar 2, .inl (Y.1, 64, .inl (upd ev d (nI (0 + 8 * n + 1024 * 0))))), (ar 3, .inl (Y.1, 4, .inl nn1))]) (wl := qz_A Y ar v h ev (upd nn 1 (nI (n + 1))) qq (vp_updL li n x) (upd bb n (nI (B + (16 * (y % 5))))) t uu) (Wr := lz_K Y o0 ast ald ahi act acd st ld hi ct cd) (v := none) (As := [.ref (ar 2), .ref (ar 3), .int 0, .int (nI n), .int 0]) (rest := []) (A := fun q => s.heap.size ≤ q) (qz_A Y ar v h (upd ev d (nI (0 + 8 * n + 1024 * 0))) nn1 qq (vp_updL li n x) (upd bb n (nI (B + (16 * (y % 5))))) t uu) [2, 3] [0, 1, 4, 5, 6, 7, 8] ⟨hx, hb, hml, hown, hts⟩ (ct_L_adds l D Y (ar 2) ev (ar 3) (upd nn 1 (nI (n + 1))) (0 : Int32) (nI n) (0 : Int32) (upd ev d (nI (0 + 8 * n + 1024 * 0)), nn1) hA) (va_cwS 5 hts gL_law_L_adds rfl rfl rfl (by decide +kernel) ⟨Nat.le_of_ble_eq_true rfl, Nat.le_of_ble_eq_true rfl⟩) hG hap qz_eA lz_eK hP hPK hS rfl (by decide +kernel) ⟨rfl, ⟨[(ar 0, .inl (Y.2.2, 40, .inr (.inl v))), (ar 1, .inl (Y.1, 40, .inl h)), (ar 4, .inl (Y.1, 12, .inl qq)), (ar 5, .inl (Y.2.2, 40, .inr (.inl (vp_updL li n x)))), (ar 6, .inl (Y.1, 40, .inl (upd bb n (nI (B + (16 * (y % 5))))))), (ar 7, .inl (Y.1, 40, .inl t)), (ar 8, .inl (Y.1, 1, .inl uu))], rfl, rfl⟩, 9, rfl, by decide +kernel⟩ rfl rfl hl.1 rfl (Nat.le_of_ble_eq_true rfl) dL_law_931 ⟨qz_f1 (k := 0) (show cells + 2000 ≤ 600130 by omega) (by decide), qz_f2 (k := 0) (show slots + 12000 ≤ 7301080 by omega) (by decide)⟩ (fun H locs hP hPK hS => ?_)
          have hP : va_P D vwCl (qz_A Y ar v h (upd ev d (nI (0 + 8 * n + 1024 * 0))) nn1 qq (vp_updL li n x) (upd bb n (nI (B + (16 * (y % 5))))) t uu) H := hP
          have hD : va_D (fun q => s.heap.size ≤ q) (qz_A Y ar v h (upd ev d (nI (0 + 8 * n + 1024 * 0))) nn1 qq (vp_updL li n x) (upd bb n (nI (B + (16 * (y % 5))))) t uu) := qz_apD hap qz_eA
          change W _ _ _ _ _ _ _ _ _ _ _ _ _ _ _ (F0 m 934 _ [])
          refine lv_aload_n hx hb dL_law_934 rfl (lv_at hl 3 rfl) ?_
          refine lv_aload_n hx hb dL_law_935 rfl (lv_at hl 4 rfl) ?_
          refine lv_aload hx hb dL_law_936 (lv_at hl 5 rfl) ?_
          refine lv_aload hx hb dL_law_938 (lv_at hl 9 rfl) ?_
          refine lv_aload hx hb dL_law_940 (lv_at hl 11 rfl) ?_
          refine lv_aload hx hb dL_law_942 (lv_at hl 6 rfl) ?_
          refine lv_aload hx hb dL_law_944 (lv_at hl 7 rfl) ?_
          refine lv_aload hx hb dL_law_946 (lv_at hl 8 rfl) ?_
          refine lv_aload hx hb dL_law_948 (lv_at hl 10 rfl) ?_
          refine qz_WS (R := room_1) (args := #[Value.ref b]) (y := yL_makes) (bytes := cL_makes) (cc := code) (maxL := 13) (nL := 23) (n := 9) (index := 157) (pc := 950) (ret := none) (ws := wsL_makes) (rm := cq_rm 3 85) (Ts := wsL_law) (own := RL) (D := D) (Y := Y) (W0 := [(ar 0, .inl (Y.2.2, 40, .inr (.inl v))), (ar 1, .inl (Y.1, 40, .inl h)), (ar 2, .inl (Y.1, 64, .inl (upd ev d (nI (0 + 8 * n + 1024 * 0))))), (ar 3, .inl (Y.1, 4, .inl nn1)), (ar 4, .inl (Y.1, 12, .inl qq)), (ar 5, .inl (Y.2.2, 40, .inr (.inl (vp_updL li n x)))), (ar 6, .inl (Y.1, 40, .inl (upd bb n (nI (B + (16 * (y % 5))))))), (ar 7, .inl (Y.1, 40, .inl t)), (ar 8, .inl (Y.1, 1, .inl uu))]) (W1 := [(ar 0, .inl (Y.2.2, 40, .inr (.inl v'))), (ar 1, .inl (Y.1, 40, .inl h')), (ar 2, .inl (Y.1, 64, .inl (upd ev d (nI (0 + 8 * n + 1024 * 0))))), (ar 3, .inl (Y.1, 4, .inl nn1)), (ar 4, .inl (Y.1, 12, .inl qq)), (ar 5, .inl (Y.2.2, 40, .inr (.inl (vp_updL li n x)))), (ar 6, .inl (Y.1, 40, .inl (upd bb n (nI (B + (16 * (y % 5))))))), (ar 7, .inl (Y.1, 40, .inl t')), (ar 8, .inl (Y.1, 1, .inl uu))]) (wl := qz_A Y ar v h (upd ev d (nI (0 + 8 * n + 1024 * 0))) nn1 qq (vp_updL li n x) (upd bb n (nI (B + (16 * (y % 5))))) t uu) (Wr := lz_K Y o0 ast ald ahi act acd st ld hi ct cd) (v := none) (As := [.ref (ar 0), .ref (ar 1), .ref (ar 2), .ref (ar 3), .ref (ar 4), .ref (ar 5), .ref (ar 6), .ref (ar 7), .ref (ar 8)]) (rest := []) (A := fun q => s.heap.size ≤ q) (qz_A Y ar v' h' (upd ev d (nI (0 + 8 * n + 1024 * 0))) nn1 qq (vp_updL li n x) (upd bb n (nI (B + (16 * (y % 5))))) t' uu) [0, 1, 2, 3, 4, 5, 6, 7, 8] [] ⟨hx, hb, hml, hown, hts⟩ (ct_L_makes l D Y (ar 0) v (ar 1) h (ar 2) (upd ev d (nI (0 + 8 * n + 1024 * 0))) (ar 3) nn1 (ar 4) qq (ar 5) (vp_updL li n x) (ar 6) (upd bb n (nI (B + (16 * (y % 5))))) (ar 7) t (ar 8) uu  (v', h', t') hM) (va_cwS 9 hts gL_law_L_makes rfl rfl rfl (by decide +kernel) ⟨Nat.le_of_ble_eq_true rfl, Nat.le_of_ble_eq_true rfl⟩) hG hap qz_eA lz_eK hP hPK hS rfl (by decide +kernel) ⟨rfl, ⟨[], rfl, rfl⟩, 9, rfl, by decide +kernel⟩ rfl rfl hl.1 rfl (Nat.le_of_ble_eq_true rfl) dL_law_950 ⟨qz_f1 (k := 0) (show cells + 2000 ≤ 600130 by omega) (by decide), qz_f2 (k := 0) (show slots + 12000 ≤ 7301080 by omega) (by decide)⟩ (fun H locs hP hPK hS => ?_)
          have hP : va_P D vwCl (qz_A Y ar v' h' (upd ev d (nI (0 + 8 * n + 1024 * 0))) nn1 qq (vp_updL li n x) (upd bb n (nI (B + (16 * (y % 5))))) t' uu) H := hP
          have hD : va_D (fun q => s.heap.size ≤ q) (qz_A Y ar v' h' (upd ev d (nI (0 + 8 * n + 1024 * 0))) nn1 qq (vp_updL li n x) (upd bb n (nI (B + (16 * (y % 5))))) t' uu) := qz_apD hap qz_eA
          change W _ _ _ _ _ _ _ _ _ _ _ _ _ _ _ (F0 m 953 _ [])
          refine lv_aload hx hb dL_law_953 (lv_at hl 8 rfl) ?_
          refine lv_iload hx hb dL_law_955 (lv_at hl 16 rfl) ?_
          refine va_iald hx hb hG.1 hP 7 0 rfl rfl (inb_in (inb_n (show n < 40 by omega) (by decide))) dL_law_957 ?_
          refine lv_topi (fun w_153 ew_153 => ?_)
          obtain rfl : w_153 = t' n := ew_153.trans (congrArg t' (ncl (show n < 2147483648 by omega)))
          refine lv_istore (lv' := [(19, .int (t' n)), (11, .long 0), (0, .ref b), (1, .ref o0), (2, .ref (ar 0)), (3, .ref (ar 1)), (4, .ref (ar 2)), (5, .ref (ar 5)), (6, .ref (ar 6)), (7, .ref (ar 7)), (8, .ref (ar 3)), (9, .ref (ar 8)), (10, .ref (ar 4)), (13, .int 1), (14, .int (nI tn)), (17, .int (nI y)), (20, .int (nI n)), (21, .int (nI (y % 5))), (22, .int (nI 4))]) hx hb dL_law_958 hl (by decide) rfl (fun ls hl => ?_)
          refine lv_aload_n hx hb dL_law_960 rfl (lv_at hl 3 rfl) ?_
          refine lv_iconst (v := 3) hx hb dL_law_961 (by decide) ?_
          refine lv_iload hx hb dL_law_962 (lv_at hl 15 rfl) ?_
          refine lv_iconst (v := 5) hx hb dL_law_964 (by decide) ?_
          refine lv_irem hx hb dL_law_965 (by decide) ?_
          refine lv_topi (fun w_154 ew_154 => ?_)
          obtain rfl : w_154 = nI (y % 5) := ew_154.trans (nI_md (a := y) (b := 5) (by omega) (by omega))
          refine lv_iconst (v := 0) hx hb dL_law_966 (by decide) ?_
          refine lz_callL (l := l) (pc := 967) (n := 4) (W0 := lz_K Y o0 ast ald ahi act acd st ld hi ct cd) (Wr := qz_A Y ar v' h' (upd ev d (nI (0 + 8 * n + 1024 * 0))) nn1 qq (vp_updL li n x) (upd bb n (nI (B + (16 * (y % 5))))) t' uu) (As := [.ref o0, .int 3, .int (nI (y % 5)), .int 0]) (rest := []) C0 hG hB hNC hap.app.2.1 lz_eK qz_eA hap.swap (ct_does_load_ok l D Y o0 ast st ald ld ahi hi act ct acd cd (nI (y % 5)) (0 : Int32) z hE hl0) gL_law_L_does rfl rfl rfl (by decide +kernel) ⟨Nat.le_of_ble_eq_true rfl, Nat.le_of_ble_eq_true rfl⟩ rfl hl.1 rfl (Nat.le_of_ble_eq_true rfl) dL_law_967 ⟨qz_f1 (k := 2) (show cells + 2000 ≤ 600130 by omega) (by decide), qz_f2 (k := 12) (show slots + 12000 ≤ 7301080 by omega) (by decide)⟩ hPK hP hS (fun H locs hPK hP hS => ?_)
          have hPK : va_P D vwCl (lz_K Y o0 ast ald ahi act acd st z.1.1 z.1.2.1 z.1.2.2 cd) H := hPK
          have hP : va_P D vwCl (qz_A Y ar v' h' (upd ev d (nI (0 + 8 * n + 1024 * 0))) nn1 qq (vp_updL li n x) (upd bb n (nI (B + (16 * (y % 5))))) t' uu) H := hP
          have hD : va_D (fun q => s.heap.size ≤ q) (qz_A Y ar v' h' (upd ev d (nI (0 + 8 * n + 1024 * 0))) nn1 qq (vp_updL li n x) (upd bb n (nI (B + (16 * (y % 5))))) t' uu) := qz_apD hap qz_eA
          change W _ _ _ _ _ _ _ _ _ _ _ _ _ _ _ (F0 m 970 _ (.int z.2 :: []))
          refine lv_topi (fun w_155 ew_155 => ?_)
          obtain rfl : w_155 = t' n := ew_155.trans hz
          refine lv_iload hx hb dL_law_970 (lv_at hl 0 rfl) ?_
          refine lv_icmp_ne (tgt := 979) hx hb dL_law_972 (by decide) (fun c_156 => ?_) (fun c_156 => ?_)
          · exact absurd (Eq.refl (t' n)) c_156
          · refine lv_iconst (v := 1) hx hb dL_law_975 (by decide) ?_
            refine lv_goto (tgt := 980) hx hb dL_law_976 (by decide) ?_
            refine lv_istore (lv' := [(13, .int 1), (19, .int (t' n)), (11, .long 0), (0, .ref b), (1, .ref o0), (2, .ref (ar 0)), (3, .ref (ar 1)), (4, .ref (ar 2)), (5, .ref (ar 5)), (6, .ref (ar 6)), (7, .ref (ar 7)), (8, .ref (ar 3)), (9, .ref (ar 8)), (10, .ref (ar 4)), (14, .int (nI tn)), (17, .int (nI y)), (20, .int (nI n)), (21, .int (nI (y % 5))), (22, .int (nI 4))]) hx hb dL_law_980 hl (by decide) rfl (fun ls hl => ?_)
            refine lv_goto (tgt := 1522) hx hb dL_law_982 (by decide) ?_
            exact W.widen (by omega) (by omega) (go _ _ _ _ _ _ _ _ _ _ _ _ _ _ _ _ _ _ _ _ H locs ls (fun h9 => absurd h9 (by omega)) I' hP hPK hS (lv_sub hl [3, 4, 5, 6, 7, 8, 9, 10, 11, 12, 13, 2, 0, 14] rfl))
        · exact absurd (show (4 : Int32) ≤ nI 4 by decide) c_144
      | succ q ih =>
        intro k x ls hk9 hp hl
        have hk : k < 4 := by omega
        by_cases hz0 : fx x k = 0
        · refine lv_iload hx hb dL_law_844 (lv_at hl 18 rfl) ?_
          refine lv_iconst (v := 4) hx hb dL_law_846 (by decide) ?_
          refine lv_icmp_ge (tgt := 888) hx hb dL_law_847 (by decide) (fun c_157 => ?_) (fun c_157 => ?_)
          · exact absurd c_157 (nI_ge (a := k) (b := 4) (by omega) (by decide))
          · refine lv_lload hx hb dL_law_850 (lv_at hl 11 rfl) ?_
            refine lv_iload hx hb dL_law_852 (lv_at hl 18 rfl) ?_
            refine lv_lload hx hb dL_law_854 (lv_at hl 11 rfl) ?_
            refine lv_iload hx hb dL_law_856 (lv_at hl 18 rfl) ?_
            refine cq_RS (R := room_1) (args := #[Value.ref b]) (y := yL_field) (bytes := cL_field) (cc := code) (maxL := 3) (nL := 23) (n := 2) (index := 35) (ret := (some .int)) (ws := wsL_field) (rm := cq_rm 0 0) (Ts := wsL_law) (own := RL) (D := D) (Y := Y) (W0 := ([] : va_W)) (wl := qz_A Y ar v h ev nn qq li bb t uu) (v := some (.int (m_L_field x (nI k)))) (st0 := [.int (nI k), .long x, .int (nI k), .long x]) (As := [.long x, .int (nI k)]) (rest := [.int (nI k), .long x]) ⟨hx, hb, hml, hown, hts⟩ (ct_L_field l D Y  x (nI k)) (va_cwS 2 hts gL_law_L_field rfl rfl rfl (by decide +kernel) ⟨Nat.le_of_ble_eq_true rfl, Nat.le_of_ble_eq_true rfl⟩) hG hP hD [] rfl (by decide +kernel) rfl hl.1 rfl (Nat.le_of_ble_eq_true rfl) dL_law_858 ⟨qz_f1 (k := 0) (show cells + 2000 ≤ 600130 by omega) (by decide), qz_f2 (k := 0) (show slots + 12000 ≤ 7301080 by omega) (by decide)⟩ ?_
            change W _ _ _ _ _ _ _ _ _ _ _ _ _ _ _ (F0 m 861 _ (.int (m_L_field x (nI k)) :: [.int (nI k), .long x]))
            refine lv_topi (fun w_158 ew_158 => ?_)
            obtain rfl : w_158 = nI (fx x k) := ew_158.trans (L_field hk)
            refine lv_lload hx hb dL_law_861 (lv_at hl 11 rfl) ?_
            refine lv_iload hx hb dL_law_863 (lv_at hl 18 rfl) ?_
            refine cq_RS (R := room_1) (args := #[Value.ref b]) (y := yL_field) (bytes := cL_field) (cc := code) (maxL := 3) (nL := 23) (n := 2) (index := 35) (ret := (some .int)) (ws := wsL_field) (rm := cq_rm 0 0) (Ts := wsL_law) (own := RL) (D := D) (Y := Y) (W0 := ([] : va_W)) (wl := qz_A Y ar v h ev nn qq li bb t uu) (v := some (.int (m_L_field x (nI k)))) (st0 := [.int (nI k), .long x, .int (nI (fx x k)), .int (nI k), .long x]) (As := [.long x, .int (nI k)]) (rest := [.int (nI (fx x k)), .int (nI k), .long x]) ⟨hx, hb, hml, hown, hts⟩ (ct_L_field l D Y  x (nI k)) (va_cwS 2 hts gL_law_L_field rfl rfl rfl (by decide +kernel) ⟨Nat.le_of_ble_eq_true rfl, Nat.le_of_ble_eq_true rfl⟩) hG hP hD [] rfl (by decide +kernel) rfl hl.1 rfl (Nat.le_of_ble_eq_true rfl) dL_law_865 ⟨qz_f1 (k := 0) (show cells + 2000 ≤ 600130 by omega) (by decide), qz_f2 (k := 0) (show slots + 12000 ≤ 7301080 by omega) (by decide)⟩ ?_
            change W _ _ _ _ _ _ _ _ _ _ _ _ _ _ _ (F0 m 868 _ (.int (m_L_field x (nI k)) :: [.int (nI (fx x k)), .int (nI k), .long x]))
            refine lv_topi (fun w_159 ew_159 => ?_)
            obtain rfl : w_159 = nI (fx x k) := ew_159.trans (L_field hk)
            refine lv_if_le (tgt := 876) hx hb dL_law_868 (by decide) (fun c_160 => ?_) (fun c_160 => ?_)
            · refine lv_iconst (v := 0) hx hb dL_law_876 (by decide) ?_
              refine lv_topi (fun w_161 ew_161 => ?_)
              obtain rfl : w_161 = nI 0 := ew_161.trans (show (0 : Int32) = nI 0 from rfl)
              refine cq_RS (R := room_1) (args := #[Value.ref b]) (y := yL_withField) (bytes := cL_withField) (cc := code) (maxL := 7) (nL := 23) (n := 4) (index := 45) (ret := (some .long)) (ws := wsL_withField) (rm := cq_rm 0 0) (Ts := wsL_law) (own := RL) (D := D) (Y := Y) (W0 := ([] : va_W)) (wl := qz_A Y ar v h ev nn qq li bb t uu) (v := some (.long (m_L_withField x (nI k) (nI (fx x k)) (nI 0)))) (st0 := [.int (nI 0), .int (nI (fx x k)), .int (nI k), .long x]) (As := [.long x, .int (nI k), .int (nI (fx x k)), .int (nI 0)]) (rest := []) ⟨hx, hb, hml, hown, hts⟩ (ct_L_withField l D Y  x (nI k) (nI (fx x k)) (nI 0)) (va_cwS 4 hts gL_law_L_withField rfl rfl rfl (by decide +kernel) ⟨Nat.le_of_ble_eq_true rfl, Nat.le_of_ble_eq_true rfl⟩) hG hP hD [] rfl (by decide +kernel) rfl hl.1 rfl (Nat.le_of_ble_eq_true rfl) dL_law_877 ⟨qz_f1 (k := 0) (show cells + 2000 ≤ 600130 by omega) (by decide), qz_f2 (k := 0) (show slots + 12000 ≤ 7301080 by omega) (by decide)⟩ ?_
              change W _ _ _ _ _ _ _ _ _ _ _ _ _ _ _ (F0 m 880 _ (.long (m_L_withField x (nI k) (nI (fx x k)) (nI 0)) :: []))
              refine lv_lstore (lv' := [(11, .long (m_L_withField x (nI k) (nI (fx x k)) (nI 0))), (0, .ref b), (1, .ref o0), (2, .ref (ar 0)), (3, .ref (ar 1)), (4, .ref (ar 2)), (5, .ref (ar 5)), (6, .ref (ar 6)), (7, .ref (ar 7)), (8, .ref (ar 3)), (9, .ref (ar 8)), (10, .ref (ar 4)), (13, .int 1), (14, .int (nI tn)), (17, .int (nI y)), (19, .int (-13)), (20, .int (nI n)), (21, .int (nI (y % 5))), (22, .int (nI k))]) hx hb dL_law_880 hl (by decide) rfl (fun ls hl => ?_)
              refine lv_iinc (v := nI (k + 1)) (lv' := [(22, .int (nI (k + 1))), (11, .long (m_L_withField x (nI k) (nI (fx x k)) (nI 0))), (0, .ref b), (1, .ref o0), (2, .ref (ar 0)), (3, .ref (ar 1)), (4, .ref (ar 2)), (5, .ref (ar 5)), (6, .ref (ar 6)), (7, .ref (ar 7)), (8, .ref (ar 3)), (9, .ref (ar 8)), (10, .ref (ar 4)), (13, .int 1), (14, .int (nI tn)), (17, .int (nI y)), (19, .int (-13)), (20, .int (nI n)), (21, .int (nI (y % 5)))]) hx hb dL_law_882 hl (k := 18) rfl (nI_1 k) (by decide) rfl (fun ls hl => ?_)
              refine lv_goto (tgt := 844) hx hb dL_law_885 (by decide) ?_
              exact ih (k + 1) _ ls (by omega) (hp.step (s' := 0) hk (by omega) (fun h9 => absurd hz0 h9)) (lv_sub hl [2, 3, 4, 5, 6, 7, 8, 9, 10, 11, 12, 1, 13, 14, 15, 16, 17, 18, 0] rfl)
            · exact absurd ((nle0 (by have := fx_lt (x := x) (k := k); omega)).mpr hz0) c_160
        · refine lv_iload hx hb dL_law_844 (lv_at hl 18 rfl) ?_
          refine lv_iconst (v := 4) hx hb dL_law_846 (by decide) ?_
          refine lv_icmp_ge (tgt := 888) hx hb dL_law_847 (by decide) (fun c_162 => ?_) (fun c_162 => ?_)
          · exact absurd c_162 (nI_ge (a := k) (b := 4) (by omega) (by decide))
          · refine lv_lload hx hb dL_law_850 (lv_at hl 11 rfl) ?_
            refine lv_iload hx hb dL_law_852 (lv_at hl 18 rfl) ?_
            refine lv_lload hx hb dL_law_854 (lv_at hl 11 rfl) ?_
            refine lv_iload hx hb dL_law_856 (lv_at hl 18 rfl) ?_
            refine cq_RS (R := room_1) (args := #[Value.ref b]) (y := yL_field) (bytes := cL_field) (cc := code) (maxL := 3) (nL := 23) (n := 2) (index := 35) (ret := (some .int)) (ws := wsL_field) (rm := cq_rm 0 0) (Ts := wsL_law) (own := RL) (D := D) (Y := Y) (W0 := ([] : va_W)) (wl := qz_A Y ar v h ev nn qq li bb t uu) (v := some (.int (m_L_field x (nI k)))) (st0 := [.int (nI k), .long x, .int (nI k), .long x]) (As := [.long x, .int (nI k)]) (rest := [.int (nI k), .long x]) ⟨hx, hb, hml, hown, hts⟩ (ct_L_field l D Y  x (nI k)) (va_cwS 2 hts gL_law_L_field rfl rfl rfl (by decide +kernel) ⟨Nat.le_of_ble_eq_true rfl, Nat.le_of_ble_eq_true rfl⟩) hG hP hD [] rfl (by decide +kernel) rfl hl.1 rfl (Nat.le_of_ble_eq_true rfl) dL_law_858 ⟨qz_f1 (k := 0) (show cells + 2000 ≤ 600130 by omega) (by decide), qz_f2 (k := 0) (show slots + 12000 ≤ 7301080 by omega) (by decide)⟩ ?_
            change W _ _ _ _ _ _ _ _ _ _ _ _ _ _ _ (F0 m 861 _ (.int (m_L_field x (nI k)) :: [.int (nI k), .long x]))
            refine lv_topi (fun w_163 ew_163 => ?_)
            obtain rfl : w_163 = nI (fx x k) := ew_163.trans (L_field hk)
            refine lv_lload hx hb dL_law_861 (lv_at hl 11 rfl) ?_
            refine lv_iload hx hb dL_law_863 (lv_at hl 18 rfl) ?_
            refine cq_RS (R := room_1) (args := #[Value.ref b]) (y := yL_field) (bytes := cL_field) (cc := code) (maxL := 3) (nL := 23) (n := 2) (index := 35) (ret := (some .int)) (ws := wsL_field) (rm := cq_rm 0 0) (Ts := wsL_law) (own := RL) (D := D) (Y := Y) (W0 := ([] : va_W)) (wl := qz_A Y ar v h ev nn qq li bb t uu) (v := some (.int (m_L_field x (nI k)))) (st0 := [.int (nI k), .long x, .int (nI (fx x k)), .int (nI k), .long x]) (As := [.long x, .int (nI k)]) (rest := [.int (nI (fx x k)), .int (nI k), .long x]) ⟨hx, hb, hml, hown, hts⟩ (ct_L_field l D Y  x (nI k)) (va_cwS 2 hts gL_law_L_field rfl rfl rfl (by decide +kernel) ⟨Nat.le_of_ble_eq_true rfl, Nat.le_of_ble_eq_true rfl⟩) hG hP hD [] rfl (by decide +kernel) rfl hl.1 rfl (Nat.le_of_ble_eq_true rfl) dL_law_865 ⟨qz_f1 (k := 0) (show cells + 2000 ≤ 600130 by omega) (by decide), qz_f2 (k := 0) (show slots + 12000 ≤ 7301080 by omega) (by decide)⟩ ?_
            change W _ _ _ _ _ _ _ _ _ _ _ _ _ _ _ (F0 m 868 _ (.int (m_L_field x (nI k)) :: [.int (nI (fx x k)), .int (nI k), .long x]))
            refine lv_topi (fun w_164 ew_164 => ?_)
            obtain rfl : w_164 = nI (fx x k) := ew_164.trans (L_field hk)
            refine lv_if_le (tgt := 876) hx hb dL_law_868 (by decide) (fun c_165 => ?_) (fun c_165 => ?_)
            · exact absurd c_165 (fun h9 => hz0 ((nle0 (by have := fx_lt (x := x) (k := k); omega)).mp h9))
            · refine lv_iload hx hb dL_law_871 (lv_at hl 17 rfl) ?_
              refine lv_goto (tgt := 877) hx hb dL_law_873 (by decide) ?_
              refine cq_RS (R := room_1) (args := #[Value.ref b]) (y := yL_withField) (bytes := cL_withField) (cc := code) (maxL := 7) (nL := 23) (n := 4) (index := 45) (ret := (some .long)) (ws := wsL_withField) (rm := cq_rm 0 0) (Ts := wsL_law) (own := RL) (D := D) (Y := Y) (W0 := ([] : va_W)) (wl := qz_A Y ar v h ev nn qq li bb t uu) (v := some (.long (m_L_withField x (nI k) (nI (fx x k)) (nI (y % 5))))) (st0 := [.int (nI (y % 5)), .int (nI (fx x k)), .int (nI k), .long x]) (As := [.long x, .int (nI k), .int (nI (fx x k)), .int (nI (y % 5))]) (rest := []) ⟨hx, hb, hml, hown, hts⟩ (ct_L_withField l D Y  x (nI k) (nI (fx x k)) (nI (y % 5))) (va_cwS 4 hts gL_law_L_withField rfl rfl rfl (by decide +kernel) ⟨Nat.le_of_ble_eq_true rfl, Nat.le_of_ble_eq_true rfl⟩) hG hP hD [] rfl (by decide +kernel) rfl hl.1 rfl (Nat.le_of_ble_eq_true rfl) dL_law_877 ⟨qz_f1 (k := 0) (show cells + 2000 ≤ 600130 by omega) (by decide), qz_f2 (k := 0) (show slots + 12000 ≤ 7301080 by omega) (by decide)⟩ ?_
              change W _ _ _ _ _ _ _ _ _ _ _ _ _ _ _ (F0 m 880 _ (.long (m_L_withField x (nI k) (nI (fx x k)) (nI (y % 5))) :: []))
              refine lv_lstore (lv' := [(11, .long (m_L_withField x (nI k) (nI (fx x k)) (nI (y % 5)))), (0, .ref b), (1, .ref o0), (2, .ref (ar 0)), (3, .ref (ar 1)), (4, .ref (ar 2)), (5, .ref (ar 5)), (6, .ref (ar 6)), (7, .ref (ar 7)), (8, .ref (ar 3)), (9, .ref (ar 8)), (10, .ref (ar 4)), (13, .int 1), (14, .int (nI tn)), (17, .int (nI y)), (19, .int (-13)), (20, .int (nI n)), (21, .int (nI (y % 5))), (22, .int (nI k))]) hx hb dL_law_880 hl (by decide) rfl (fun ls hl => ?_)
              refine lv_iinc (v := nI (k + 1)) (lv' := [(22, .int (nI (k + 1))), (11, .long (m_L_withField x (nI k) (nI (fx x k)) (nI (y % 5)))), (0, .ref b), (1, .ref o0), (2, .ref (ar 0)), (3, .ref (ar 1)), (4, .ref (ar 2)), (5, .ref (ar 5)), (6, .ref (ar 6)), (7, .ref (ar 7)), (8, .ref (ar 3)), (9, .ref (ar 8)), (10, .ref (ar 4)), (13, .int 1), (14, .int (nI tn)), (17, .int (nI y)), (19, .int (-13)), (20, .int (nI n)), (21, .int (nI (y % 5)))]) hx hb dL_law_882 hl (k := 18) rfl (nI_1 k) (by decide) rfl (fun ls hl => ?_)
              refine lv_goto (tgt := 844) hx hb dL_law_885 (by decide) ?_
              exact ih (k + 1) _ ls (by omega) (hp.step (s' := (y % 5)) hk (by omega) (fun _ => rfl)) (lv_sub hl [2, 3, 4, 5, 6, 7, 8, 9, 10, 11, 12, 1, 13, 14, 15, 16, 17, 18, 0] rfl)
    refine lv_bipush (v := (-13)) hx hb dL_law_818 (by decide) ?_
    refine lv_istore (lv' := [(19, .int (-13)), (0, .ref b), (1, .ref o0), (2, .ref (ar 0)), (3, .ref (ar 1)), (4, .ref (ar 2)), (5, .ref (ar 5)), (6, .ref (ar 6)), (7, .ref (ar 7)), (8, .ref (ar 3)), (9, .ref (ar 8)), (10, .ref (ar 4)), (11, .long dr), (13, .int 1), (14, .int (nI tn)), (17, .int (nI y))]) hx hb dL_law_820 hl (by decide) rfl (fun ls hl => ?_)
    refine lv_aload hx hb dL_law_822 (lv_at hl 9 rfl) ?_
    refine lv_iconst (v := 0) hx hb dL_law_824 (by decide) ?_
    refine va_iald hx hb hG.1 hP 3 0 rfl rfl (inb_in (by decide)) dL_law_825 ?_
    refine lv_topi (fun w_138 ew_138 => ?_)
    obtain rfl : w_138 = nn 0 := ew_138.trans (congrArg nn (show ((0 : Int32).toNatClampNeg) = 0 by decide))
    refine lv_topi (fun w_139 ew_139 => ?_)
    obtain rfl : w_139 = nI (B + 1) := ew_139.trans hN.1
    refine lv_if_le (tgt := 960) hx hb dL_law_826 (by decide) (fun c_140 => ?_) (fun c_140 => ?_)
    · exact absurd c_140 (nI_nle (by omega) (by omega))
    · refine lv_aload hx hb dL_law_829 (lv_at hl 9 rfl) ?_
      refine lv_iconst (v := 1) hx hb dL_law_831 (by decide) ?_
      refine va_iald hx hb hG.1 hP 3 0 rfl rfl (inb_in (by decide)) dL_law_832 ?_
      refine lv_topi (fun w_141 ew_141 => ?_)
      obtain rfl : w_141 = nn 1 := ew_141.trans (congrArg nn (show ((1 : Int32).toNatClampNeg) = 1 by decide))
      refine lv_topi (fun w_142 ew_142 => ?_)
      obtain rfl : w_142 = nI n := ew_142.trans hN.2.1
      refine lv_istore (lv' := [(20, .int (nI n)), (19, .int (-13)), (0, .ref b), (1, .ref o0), (2, .ref (ar 0)), (3, .ref (ar 1)), (4, .ref (ar 2)), (5, .ref (ar 5)), (6, .ref (ar 6)), (7, .ref (ar 7)), (8, .ref (ar 3)), (9, .ref (ar 8)), (10, .ref (ar 4)), (11, .long dr), (13, .int 1), (14, .int (nI tn)), (17, .int (nI y))]) hx hb dL_law_833 hl (by decide) rfl (fun ls hl => ?_)
      refine lv_iload hx hb dL_law_835 (lv_at hl 16 rfl) ?_
      refine lv_iconst (v := 5) hx hb dL_law_837 (by decide) ?_
      refine lv_irem hx hb dL_law_838 (by decide) ?_
      refine lv_topi (fun w_143 ew_143 => ?_)
      obtain rfl : w_143 = nI (y % 5) := ew_143.trans (nI_md (a := y) (b := 5) (by omega) (by omega))
      refine lv_istore (lv' := [(21, .int (nI (y % 5))), (20, .int (nI n)), (19, .int (-13)), (0, .ref b), (1, .ref o0), (2, .ref (ar 0)), (3, .ref (ar 1)), (4, .ref (ar 2)), (5, .ref (ar 5)), (6, .ref (ar 6)), (7, .ref (ar 7)), (8, .ref (ar 3)), (9, .ref (ar 8)), (10, .ref (ar 4)), (11, .long dr), (13, .int 1), (14, .int (nI tn)), (17, .int (nI y))]) hx hb dL_law_839 hl (by decide) rfl (fun ls hl => ?_)
      refine lv_iconst (v := 0) hx hb dL_law_841 (by decide) ?_
      refine lv_istore (lv' := [(22, .int 0), (21, .int (nI (y % 5))), (20, .int (nI n)), (19, .int (-13)), (0, .ref b), (1, .ref o0), (2, .ref (ar 0)), (3, .ref (ar 1)), (4, .ref (ar 2)), (5, .ref (ar 5)), (6, .ref (ar 6)), (7, .ref (ar 7)), (8, .ref (ar 3)), (9, .ref (ar 8)), (10, .ref (ar 4)), (11, .long dr), (13, .int 1), (14, .int (nI tn)), (17, .int (nI y))]) hx hb dL_law_842 hl (by decide) rfl (fun ls hl => ?_)
      exact lp 4 0 dr ls rfl ⟨I.2.2.2.2.2.2.2.2.1, fun j hj => rfl, fun j hj => ⟨rfl, (I.2.2.2.2.2.2.2.2.2.2 j hj).2⟩, fun j hj => absurd hj (Nat.not_lt_zero j)⟩ (lv_sub hl [4, 5, 6, 7, 8, 9, 10, 11, 12, 13, 14, 15, 16, 17, 18, 3, 2, 1, 0] rfl)
end LAW
