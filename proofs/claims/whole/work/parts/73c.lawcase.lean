/-! THE LAW'S CASES -/
section CASES
variable {p : Program} {l : Launch} {e : Env} {s : State} {m : MethodId} {below : List Frame} {meth : Method} {c : Code} {cells slots : Nat} {D : va_G} {Y : cq_Y} {b L : Nat} {xs : Nat → Int32} {o0 bo : Nat} {ast ald ahi act acd am : Nat → Nat} {i : Int32}
set_option maxHeartbeats 4000000 in
set_option maxRecDepth 100000 in
theorem lz_c_merge (X : lz_X p l s m meth c b L xs D Y o0 ast ald ahi act acd bo am) (g1 : vp_in (i + 1) L) (g2 : vp_in (i + 2) L) (g3 : vp_in (i + 3) L) (hc : cells + 4 ≤ 601024) (hs : slots + 24 ≤ 7293034) (K : lz_go p l e s m below meth c b D Y o0 ast ald ahi act acd bo am 1356 i (cells + 4) (slots + 24)) : lz_go p l e s m below meth c b D Y o0 ast ald ahi act acd bo am 735 i cells slots := by
  obtain ⟨C0, hl0, hG, hB, hNC, hapC, hapM, hdMC⟩ := X
  obtain ⟨hx, hb, -⟩ := id C0
  intro n bb d st ld hi ct cd u fo H locs ls R hPC hPM hS hl
  obtain ⟨u', r, k, n', bb', d', st', ld', hi', ct', cd', fo', hm, R', ek, er, hML⟩ := lz_u_merge (D := D) (Y := Y) (o0 := o0) (bo := bo) (fo := fo) (ast := ast) (ald := ald) (ahi := ahi) (act := act) (acd := acd) R hl0 (xs (i + 1).toNatClampNeg) (xs (i + 2).toNatClampNeg)
  refine lv_aload_n hx hb dL_law_735 rfl (lv_at hl 1 rfl) ?_
  refine lz_arg 736 C0 hS (lv_at hl 0 rfl) (lv_at hl 4 rfl) dL_law_736 dL_law_737 dL_law_739 dL_law_740 dL_law_741 (v := 1) (by decide) g1 ?_
  refine lz_arg 742 C0 hS (lv_at hl 0 rfl) (lv_at hl 4 rfl) dL_law_742 dL_law_743 dL_law_745 dL_law_746 dL_law_747 (v := 2) (by decide) g2 ?_
  refine lv_aload_n hx hb dL_law_748 rfl (lv_at hl 3 rfl) ?_
  refine lz_callL (pc := 749) (index := 114) (n := 4) (rest := []) (Wr := cl_mdl Y am u) C0 hG hB hNC hapC lz_eC lz_eM hdMC hML gL_law_L_merge rfl rfl rfl (by decide +kernel) ⟨Nat.le_of_ble_eq_true rfl, Nat.le_of_ble_eq_true rfl⟩ rfl hl.1 rfl (Nat.le_of_ble_eq_true rfl) dL_law_749 ⟨Nat.le_trans (by omega) hc, Nat.le_trans (by omega) hs⟩ hPC hPM hS (fun H locs hPC hPM hS => ?_)
  change W _ _ _ _ _ _ _ _ _ _ _ _ _ _ _ (F0 m 752 _ [.int k])
  refine W.widen (k := cells + 4) (n := slots + 24) (by omega) (by omega) ?_
  refine lv_istore (lv' := [(5, .int k), (0, .ref b), (1, .ref o0), (2, .ref (am 0)), (3, .ref bo), (4, .int i)]) hx hb dL_law_752 hl (by decide) rfl (fun ls hl => ?_)
  refine lv_aload_n hx hb dL_law_754 rfl (lv_at hl 3 rfl) ?_
  refine lz_arg 755 C0 hS (lv_at hl 1 rfl) (lv_at hl 5 rfl) dL_law_755 dL_law_756 dL_law_758 dL_law_759 dL_law_760 (v := 1) (by decide) g1 ?_
  refine lz_arg 761 C0 hS (lv_at hl 1 rfl) (lv_at hl 5 rfl) dL_law_761 dL_law_762 dL_law_764 dL_law_765 dL_law_766 (v := 2) (by decide) g2 ?_
  obtain ⟨fs, hfs⟩ := lz_hM (Y := Y) (am := am) (u := u)
  refine lz_callV (pc := 767) (index := 116) (n := 2) (rest := []) (W0 := cl_mdl Y am u) (Wr := lz_C Y o0 ast ald ahi act acd bo st' ld' hi' ct' cd' fo') (As := [.int (xs (i + 1).toNatClampNeg), .int (xs (i + 2).toNatClampNeg)]) C0 hG hapM lz_eM lz_eC (lz_d2 hdMC) (ct_X7_merge l D Y am u (xs (i + 1).toNatClampNeg) (xs (i + 2).toNatClampNeg) (u', r) hm) gL_law_X7_merge rfl rfl rfl (by decide +kernel) ⟨Nat.le_of_ble_eq_true rfl, Nat.le_of_ble_eq_true rfl⟩ (qc := (RX7, TX7, 25)) rfl hfs rfl rfl hl.1 rfl (Nat.le_of_ble_eq_true rfl) dL_law_767 ⟨hc, hs⟩ hPM hPC hS (fun H locs hPM hPC hS => ?_)
  change W _ _ _ _ _ _ _ _ _ _ _ _ _ _ _ (F0 m 770 _ [.int r])
  refine lv_istore (lv' := [(6, .int r), (5, .int k), (0, .ref b), (1, .ref o0), (2, .ref (am 0)), (3, .ref bo), (4, .int i)]) hx hb dL_law_770 hl (by decide) rfl (fun ls hl => ?_)
  exact lz_tailI 772 C0 hG hapM ⟨hc, hs⟩ hPM ek hPC er hl dL_law_772 dL_law_773 dL_law_776 dL_law_778 dL_law_783 dL_law_785 dL_law_788 dL_law_789 dL_law_790 dL_law_791 dL_law_793 dL_law_794 dL_law_795 dL_law_800 (by decide) (fun ls hl => K n' bb' d' st' ld' hi' ct' cd' u' fo' H locs ls R' hPC hPM hS hl)
set_option maxHeartbeats 4000000 in
set_option maxRecDepth 100000 in
theorem lz_c_undo (X : lz_X p l s m meth c b L xs D Y o0 ast ald ahi act acd bo am) (g1 : vp_in (i + 1) L) (g2 : vp_in (i + 2) L) (g3 : vp_in (i + 3) L) (hc : cells + 4 ≤ 601024) (hs : slots + 24 ≤ 7293034) (K : lz_go p l e s m below meth c b D Y o0 ast ald ahi act acd bo am 1356 i (cells + 4) (slots + 24)) : lz_go p l e s m below meth c b D Y o0 ast ald ahi act acd bo am 803 i cells slots := by
  obtain ⟨C0, hl0, hG, hB, hNC, hapC, hapM, hdMC⟩ := X
  obtain ⟨hx, hb, -⟩ := id C0
  intro n bb d st ld hi ct cd u fo H locs ls R hPC hPM hS hl
  obtain ⟨u', r, k, n', bb', d', st', ld', hi', ct', cd', fo', hm, R', ek, er, hML⟩ := lz_u_undo (D := D) (Y := Y) (o0 := o0) (bo := bo) (fo := fo) (ast := ast) (ald := ald) (ahi := ahi) (act := act) (acd := acd) R hl0 (xs (i + 1).toNatClampNeg) (if xs (i + 2).toNatClampNeg = 0 then 0 else 1) lz_z01
  refine lv_aload_n hx hb dL_law_803 rfl (lv_at hl 1 rfl) ?_
  refine lz_arg 804 C0 hS (lv_at hl 0 rfl) (lv_at hl 4 rfl) dL_law_804 dL_law_805 dL_law_807 dL_law_808 dL_law_809 (v := 1) (by decide) g1 ?_
  refine lz_arg 810 C0 hS (lv_at hl 0 rfl) (lv_at hl 4 rfl) dL_law_810 dL_law_811 dL_law_813 dL_law_814 dL_law_815 (v := 2) (by decide) g2 ?_
  refine lz_bool 816 C0 dL_law_816 dL_law_819 dL_law_820 dL_law_823 ?_
  refine lv_aload_n hx hb dL_law_824 rfl (lv_at hl 3 rfl) ?_
  refine lz_callL (pc := 825) (index := 117) (n := 4) (rest := []) (Wr := cl_mdl Y am u) C0 hG hB hNC hapC lz_eC lz_eM hdMC hML gL_law_L_undo rfl rfl rfl (by decide +kernel) ⟨Nat.le_of_ble_eq_true rfl, Nat.le_of_ble_eq_true rfl⟩ rfl hl.1 rfl (Nat.le_of_ble_eq_true rfl) dL_law_825 ⟨Nat.le_trans (by omega) hc, Nat.le_trans (by omega) hs⟩ hPC hPM hS (fun H locs hPC hPM hS => ?_)
  change W _ _ _ _ _ _ _ _ _ _ _ _ _ _ _ (F0 m 828 _ [.int k])
  refine W.widen (k := cells + 4) (n := slots + 24) (by omega) (by omega) ?_
  refine lv_istore (lv' := [(5, .int k), (0, .ref b), (1, .ref o0), (2, .ref (am 0)), (3, .ref bo), (4, .int i)]) hx hb dL_law_828 hl (by decide) rfl (fun ls hl => ?_)
  refine lv_aload_n hx hb dL_law_830 rfl (lv_at hl 3 rfl) ?_
  refine lz_arg 831 C0 hS (lv_at hl 1 rfl) (lv_at hl 5 rfl) dL_law_831 dL_law_832 dL_law_834 dL_law_835 dL_law_836 (v := 1) (by decide) g1 ?_
  refine lz_arg 837 C0 hS (lv_at hl 1 rfl) (lv_at hl 5 rfl) dL_law_837 dL_law_838 dL_law_840 dL_law_841 dL_law_842 (v := 2) (by decide) g2 ?_
  refine lz_bool 843 C0 dL_law_843 dL_law_846 dL_law_847 dL_law_850 ?_
  obtain ⟨fs, hfs⟩ := lz_hM (Y := Y) (am := am) (u := u)
  refine lz_callV (pc := 851) (index := 120) (n := 2) (rest := []) (W0 := cl_mdl Y am u) (Wr := lz_C Y o0 ast ald ahi act acd bo st' ld' hi' ct' cd' fo') (As := [.int (xs (i + 1).toNatClampNeg), .int (if xs (i + 2).toNatClampNeg = 0 then 0 else 1)]) C0 hG hapM lz_eM lz_eC (lz_d2 hdMC) (ct_X7_undo l D Y am u (xs (i + 1).toNatClampNeg) (if xs (i + 2).toNatClampNeg = 0 then 0 else 1) (u', r) hm) gL_law_X7_undo rfl rfl rfl (by decide +kernel) ⟨Nat.le_of_ble_eq_true rfl, Nat.le_of_ble_eq_true rfl⟩ (qc := (RX7, TX7, 25)) rfl hfs rfl rfl hl.1 rfl (Nat.le_of_ble_eq_true rfl) dL_law_851 ⟨hc, hs⟩ hPM hPC hS (fun H locs hPM hPC hS => ?_)
  change W _ _ _ _ _ _ _ _ _ _ _ _ _ _ _ (F0 m 854 _ [.int r])
  refine lv_istore (lv' := [(6, .int r), (5, .int k), (0, .ref b), (1, .ref o0), (2, .ref (am 0)), (3, .ref bo), (4, .int i)]) hx hb dL_law_854 hl (by decide) rfl (fun ls hl => ?_)
  exact lz_tailI 856 C0 hG hapM ⟨hc, hs⟩ hPM ek hPC er hl dL_law_856 dL_law_857 dL_law_860 dL_law_862 dL_law_867 dL_law_869 dL_law_872 dL_law_873 dL_law_874 dL_law_875 dL_law_877 dL_law_878 dL_law_879 dL_law_884 (by decide) (fun ls hl => K n' bb' d' st' ld' hi' ct' cd' u' fo' H locs ls R' hPC hPM hS hl)
set_option maxHeartbeats 4000000 in
set_option maxRecDepth 100000 in
theorem lz_c_isUndone (X : lz_X p l s m meth c b L xs D Y o0 ast ald ahi act acd bo am) (g1 : vp_in (i + 1) L) (g2 : vp_in (i + 2) L) (g3 : vp_in (i + 3) L) (hc : cells + 4 ≤ 601024) (hs : slots + 24 ≤ 7293034) (K : lz_go p l e s m below meth c b D Y o0 ast ald ahi act acd bo am 1356 i (cells + 4) (slots + 24)) : lz_go p l e s m below meth c b D Y o0 ast ald ahi act acd bo am 926 i cells slots := by
  obtain ⟨C0, hl0, hG, hB, hNC, hapC, hapM, hdMC⟩ := X
  obtain ⟨hx, hb, -⟩ := id C0
  intro n bb d st ld hi ct cd u fo H locs ls R hPC hPM hS hl
  obtain ⟨u', r, k, n', bb', d', st', ld', hi', ct', cd', fo', hm, R', ek, er, hML⟩ := lz_u_isUndone (D := D) (Y := Y) (o0 := o0) (bo := bo) (fo := fo) (ast := ast) (ald := ald) (ahi := ahi) (act := act) (acd := acd) R hl0 (xs (i + 1).toNatClampNeg)
  refine lv_aload_n hx hb dL_law_926 rfl (lv_at hl 1 rfl) ?_
  refine lz_arg 927 C0 hS (lv_at hl 0 rfl) (lv_at hl 4 rfl) dL_law_927 dL_law_928 dL_law_930 dL_law_931 dL_law_932 (v := 1) (by decide) g1 ?_
  refine lv_aload_n hx hb dL_law_933 rfl (lv_at hl 3 rfl) ?_
  refine lz_callL (pc := 934) (index := 133) (n := 3) (rest := []) (Wr := cl_mdl Y am u) C0 hG hB hNC hapC lz_eC lz_eM hdMC hML gL_law_L_isUndone rfl rfl rfl (by decide +kernel) ⟨Nat.le_of_ble_eq_true rfl, Nat.le_of_ble_eq_true rfl⟩ rfl hl.1 rfl (Nat.le_of_ble_eq_true rfl) dL_law_934 ⟨Nat.le_trans (by omega) hc, Nat.le_trans (by omega) hs⟩ hPC hPM hS (fun H locs hPC hPM hS => ?_)
  change W _ _ _ _ _ _ _ _ _ _ _ _ _ _ _ (F0 m 937 _ [.int k])
  refine W.widen (k := cells + 4) (n := slots + 24) (by omega) (by omega) ?_
  refine lv_istore (lv' := [(5, .int k), (0, .ref b), (1, .ref o0), (2, .ref (am 0)), (3, .ref bo), (4, .int i)]) hx hb dL_law_937 hl (by decide) rfl (fun ls hl => ?_)
  refine lv_aload_n hx hb dL_law_939 rfl (lv_at hl 3 rfl) ?_
  refine lz_arg 940 C0 hS (lv_at hl 1 rfl) (lv_at hl 5 rfl) dL_law_940 dL_law_941 dL_law_943 dL_law_944 dL_law_945 (v := 1) (by decide) g1 ?_
  obtain ⟨fs, hfs⟩ := lz_hM (Y := Y) (am := am) (u := u)
  refine lz_callV (pc := 946) (index := 135) (n := 1) (rest := []) (W0 := cl_mdl Y am u) (Wr := lz_C Y o0 ast ald ahi act acd bo st' ld' hi' ct' cd' fo') (As := [.int (xs (i + 1).toNatClampNeg)]) C0 hG hapM lz_eM lz_eC (lz_d2 hdMC) (ct_X7_isUndone l D Y am u (xs (i + 1).toNatClampNeg) (u', r) hm) gL_law_X7_isUndone rfl rfl rfl (by decide +kernel) ⟨Nat.le_of_ble_eq_true rfl, Nat.le_of_ble_eq_true rfl⟩ (qc := (RX7, TX7, 25)) rfl hfs rfl rfl hl.1 rfl (Nat.le_of_ble_eq_true rfl) dL_law_946 ⟨hc, hs⟩ hPM hPC hS (fun H locs hPM hPC hS => ?_)
  change W _ _ _ _ _ _ _ _ _ _ _ _ _ _ _ (F0 m 949 _ [.int r])
  refine lv_istore (lv' := [(6, .int r), (5, .int k), (0, .ref b), (1, .ref o0), (2, .ref (am 0)), (3, .ref bo), (4, .int i)]) hx hb dL_law_949 hl (by decide) rfl (fun ls hl => ?_)
  exact lz_tailZ 951 C0 hG hapM ⟨hc, hs⟩ hPM ek hPC er hl dL_law_951 dL_law_952 dL_law_955 dL_law_957 dL_law_962 dL_law_964 dL_law_967 dL_law_968 dL_law_969 dL_law_970 dL_law_972 dL_law_975 dL_law_976 dL_law_979 dL_law_980 dL_law_981 dL_law_986 (by decide) (fun ls hl => K n' bb' d' st' ld' hi' ct' cd' u' fo' H locs ls R' hPC hPM hS hl)
set_option maxHeartbeats 4000000 in
set_option maxRecDepth 100000 in
theorem lz_c_hit (X : lz_X p l s m meth c b L xs D Y o0 ast ald ahi act acd bo am) (g1 : vp_in (i + 1) L) (g2 : vp_in (i + 2) L) (g3 : vp_in (i + 3) L) (hc : cells + 4 ≤ 601024) (hs : slots + 24 ≤ 7293034) (K : lz_go p l e s m below meth c b D Y o0 ast ald ahi act acd bo am 1356 i (cells + 4) (slots + 24)) : lz_go p l e s m below meth c b D Y o0 ast ald ahi act acd bo am 1014 i cells slots := by
  obtain ⟨C0, hl0, hG, hB, hNC, hapC, hapM, hdMC⟩ := X
  obtain ⟨hx, hb, -⟩ := id C0
  intro n bb d st ld hi ct cd u fo H locs ls R hPC hPM hS hl
  obtain ⟨u', r, k, n', bb', d', st', ld', hi', ct', cd', fo', hm, R', ek, er, hML⟩ := lz_u_hit (D := D) (Y := Y) (o0 := o0) (bo := bo) (fo := fo) (ast := ast) (ald := ald) (ahi := ahi) (act := act) (acd := acd) R hl0 (xs (i + 1).toNatClampNeg)
  refine lv_aload_n hx hb dL_law_1014 rfl (lv_at hl 1 rfl) ?_
  refine lz_arg 1015 C0 hS (lv_at hl 0 rfl) (lv_at hl 4 rfl) dL_law_1015 dL_law_1016 dL_law_1018 dL_law_1019 dL_law_1020 (v := 1) (by decide) g1 ?_
  refine lv_aload_n hx hb dL_law_1021 rfl (lv_at hl 3 rfl) ?_
  refine lz_callL (pc := 1022) (index := 140) (n := 3) (rest := []) (Wr := cl_mdl Y am u) C0 hG hB hNC hapC lz_eC lz_eM hdMC hML gL_law_L_hit rfl rfl rfl (by decide +kernel) ⟨Nat.le_of_ble_eq_true rfl, Nat.le_of_ble_eq_true rfl⟩ rfl hl.1 rfl (Nat.le_of_ble_eq_true rfl) dL_law_1022 ⟨Nat.le_trans (by omega) hc, Nat.le_trans (by omega) hs⟩ hPC hPM hS (fun H locs hPC hPM hS => ?_)
  change W _ _ _ _ _ _ _ _ _ _ _ _ _ _ _ (F0 m 1025 _ [.int k])
  refine W.widen (k := cells + 4) (n := slots + 24) (by omega) (by omega) ?_
  refine lv_istore (lv' := [(5, .int k), (0, .ref b), (1, .ref o0), (2, .ref (am 0)), (3, .ref bo), (4, .int i)]) hx hb dL_law_1025 hl (by decide) rfl (fun ls hl => ?_)
  refine lv_aload_n hx hb dL_law_1027 rfl (lv_at hl 3 rfl) ?_
  refine lz_arg 1028 C0 hS (lv_at hl 1 rfl) (lv_at hl 5 rfl) dL_law_1028 dL_law_1029 dL_law_1031 dL_law_1032 dL_law_1033 (v := 1) (by decide) g1 ?_
  obtain ⟨fs, hfs⟩ := lz_hM (Y := Y) (am := am) (u := u)
  refine lz_callV (pc := 1034) (index := 142) (n := 1) (rest := []) (W0 := cl_mdl Y am u) (Wr := lz_C Y o0 ast ald ahi act acd bo st' ld' hi' ct' cd' fo') (As := [.int (xs (i + 1).toNatClampNeg)]) C0 hG hapM lz_eM lz_eC (lz_d2 hdMC) (ct_X7_hit l D Y am u (xs (i + 1).toNatClampNeg) (u', r) hm) gL_law_X7_hit rfl rfl rfl (by decide +kernel) ⟨Nat.le_of_ble_eq_true rfl, Nat.le_of_ble_eq_true rfl⟩ (qc := (RX7, TX7, 25)) rfl hfs rfl rfl hl.1 rfl (Nat.le_of_ble_eq_true rfl) dL_law_1034 ⟨hc, hs⟩ hPM hPC hS (fun H locs hPM hPC hS => ?_)
  change W _ _ _ _ _ _ _ _ _ _ _ _ _ _ _ (F0 m 1037 _ [.int r])
  refine lv_istore (lv' := [(6, .int r), (5, .int k), (0, .ref b), (1, .ref o0), (2, .ref (am 0)), (3, .ref bo), (4, .int i)]) hx hb dL_law_1037 hl (by decide) rfl (fun ls hl => ?_)
  exact lz_tailI 1039 C0 hG hapM ⟨hc, hs⟩ hPM ek hPC er hl dL_law_1039 dL_law_1040 dL_law_1043 dL_law_1045 dL_law_1050 dL_law_1052 dL_law_1055 dL_law_1056 dL_law_1057 dL_law_1058 dL_law_1060 dL_law_1061 dL_law_1062 dL_law_1067 (by decide) (fun ls hl => K n' bb' d' st' ld' hi' ct' cd' u' fo' H locs ls R' hPC hPM hS hl)
set_option maxHeartbeats 4000000 in
set_option maxRecDepth 100000 in
theorem lz_c_keyOf (X : lz_X p l s m meth c b L xs D Y o0 ast ald ahi act acd bo am) (g1 : vp_in (i + 1) L) (g2 : vp_in (i + 2) L) (g3 : vp_in (i + 3) L) (hc : cells + 4 ≤ 601024) (hs : slots + 24 ≤ 7293034) (K : lz_go p l e s m below meth c b D Y o0 ast ald ahi act acd bo am 1356 i (cells + 4) (slots + 24)) : lz_go p l e s m below meth c b D Y o0 ast ald ahi act acd bo am 1070 i cells slots := by
  obtain ⟨C0, hl0, hG, hB, hNC, hapC, hapM, hdMC⟩ := X
  obtain ⟨hx, hb, -⟩ := id C0
  intro n bb d st ld hi ct cd u fo H locs ls R hPC hPM hS hl
  obtain ⟨u', r, k, n', bb', d', st', ld', hi', ct', cd', fo', hm, R', ek, er, hML⟩ := lz_u_keyOf (D := D) (Y := Y) (o0 := o0) (bo := bo) (fo := fo) (ast := ast) (ald := ald) (ahi := ahi) (act := act) (acd := acd) R hl0 (xs (i + 1).toNatClampNeg) (xs (i + 2).toNatClampNeg)
  refine lv_aload_n hx hb dL_law_1070 rfl (lv_at hl 1 rfl) ?_
  refine lz_arg 1071 C0 hS (lv_at hl 0 rfl) (lv_at hl 4 rfl) dL_law_1071 dL_law_1072 dL_law_1074 dL_law_1075 dL_law_1076 (v := 1) (by decide) g1 ?_
  refine lz_arg 1077 C0 hS (lv_at hl 0 rfl) (lv_at hl 4 rfl) dL_law_1077 dL_law_1078 dL_law_1080 dL_law_1081 dL_law_1082 (v := 2) (by decide) g2 ?_
  refine lv_aload_n hx hb dL_law_1083 rfl (lv_at hl 3 rfl) ?_
  refine lz_callL (pc := 1084) (index := 143) (n := 4) (rest := []) (Wr := cl_mdl Y am u) C0 hG hB hNC hapC lz_eC lz_eM hdMC hML gL_law_L_keyOf rfl rfl rfl (by decide +kernel) ⟨Nat.le_of_ble_eq_true rfl, Nat.le_of_ble_eq_true rfl⟩ rfl hl.1 rfl (Nat.le_of_ble_eq_true rfl) dL_law_1084 ⟨Nat.le_trans (by omega) hc, Nat.le_trans (by omega) hs⟩ hPC hPM hS (fun H locs hPC hPM hS => ?_)
  change W _ _ _ _ _ _ _ _ _ _ _ _ _ _ _ (F0 m 1087 _ [.int k])
  refine W.widen (k := cells + 4) (n := slots + 24) (by omega) (by omega) ?_
  refine lv_istore (lv' := [(5, .int k), (0, .ref b), (1, .ref o0), (2, .ref (am 0)), (3, .ref bo), (4, .int i)]) hx hb dL_law_1087 hl (by decide) rfl (fun ls hl => ?_)
  refine lv_aload_n hx hb dL_law_1089 rfl (lv_at hl 3 rfl) ?_
  refine lz_arg 1090 C0 hS (lv_at hl 1 rfl) (lv_at hl 5 rfl) dL_law_1090 dL_law_1091 dL_law_1093 dL_law_1094 dL_law_1095 (v := 1) (by decide) g1 ?_
  refine lz_arg 1096 C0 hS (lv_at hl 1 rfl) (lv_at hl 5 rfl) dL_law_1096 dL_law_1097 dL_law_1099 dL_law_1100 dL_law_1101 (v := 2) (by decide) g2 ?_
  obtain ⟨fs, hfs⟩ := lz_hM (Y := Y) (am := am) (u := u)
  refine lz_callV (pc := 1102) (index := 145) (n := 2) (rest := []) (W0 := cl_mdl Y am u) (Wr := lz_C Y o0 ast ald ahi act acd bo st' ld' hi' ct' cd' fo') (As := [.int (xs (i + 1).toNatClampNeg), .int (xs (i + 2).toNatClampNeg)]) C0 hG hapM lz_eM lz_eC (lz_d2 hdMC) (ct_X7_keyOf l D Y am u (xs (i + 1).toNatClampNeg) (xs (i + 2).toNatClampNeg) (u', r) hm) gL_law_X7_keyOf rfl rfl rfl (by decide +kernel) ⟨Nat.le_of_ble_eq_true rfl, Nat.le_of_ble_eq_true rfl⟩ (qc := (RX7, TX7, 25)) rfl hfs rfl rfl hl.1 rfl (Nat.le_of_ble_eq_true rfl) dL_law_1102 ⟨hc, hs⟩ hPM hPC hS (fun H locs hPM hPC hS => ?_)
  change W _ _ _ _ _ _ _ _ _ _ _ _ _ _ _ (F0 m 1105 _ [.int r])
  refine lv_istore (lv' := [(6, .int r), (5, .int k), (0, .ref b), (1, .ref o0), (2, .ref (am 0)), (3, .ref bo), (4, .int i)]) hx hb dL_law_1105 hl (by decide) rfl (fun ls hl => ?_)
  exact lz_tailI 1107 C0 hG hapM ⟨hc, hs⟩ hPM ek hPC er hl dL_law_1107 dL_law_1108 dL_law_1111 dL_law_1113 dL_law_1118 dL_law_1120 dL_law_1123 dL_law_1124 dL_law_1125 dL_law_1126 dL_law_1128 dL_law_1129 dL_law_1130 dL_law_1135 (by decide) (fun ls hl => K n' bb' d' st' ld' hi' ct' cd' u' fo' H locs ls R' hPC hPM hS hl)
set_option maxHeartbeats 4000000 in
set_option maxRecDepth 100000 in
theorem lz_c_fieldOf (X : lz_X p l s m meth c b L xs D Y o0 ast ald ahi act acd bo am) (g1 : vp_in (i + 1) L) (g2 : vp_in (i + 2) L) (g3 : vp_in (i + 3) L) (hc : cells + 4 ≤ 601024) (hs : slots + 24 ≤ 7293034) (K : lz_go p l e s m below meth c b D Y o0 ast ald ahi act acd bo am 1356 i (cells + 4) (slots + 24)) : lz_go p l e s m below meth c b D Y o0 ast ald ahi act acd bo am 1138 i cells slots := by
  obtain ⟨C0, hl0, hG, hB, hNC, hapC, hapM, hdMC⟩ := X
  obtain ⟨hx, hb, -⟩ := id C0
  intro n bb d st ld hi ct cd u fo H locs ls R hPC hPM hS hl
  obtain ⟨u', r, k, n', bb', d', st', ld', hi', ct', cd', fo', hm, R', ek, er, hML⟩ := lz_u_fieldOf (D := D) (Y := Y) (o0 := o0) (bo := bo) (fo := fo) (ast := ast) (ald := ald) (ahi := ahi) (act := act) (acd := acd) R hl0 (xs (i + 1).toNatClampNeg) (xs (i + 2).toNatClampNeg)
  refine lv_aload_n hx hb dL_law_1138 rfl (lv_at hl 1 rfl) ?_
  refine lz_arg 1139 C0 hS (lv_at hl 0 rfl) (lv_at hl 4 rfl) dL_law_1139 dL_law_1140 dL_law_1142 dL_law_1143 dL_law_1144 (v := 1) (by decide) g1 ?_
  refine lz_arg 1145 C0 hS (lv_at hl 0 rfl) (lv_at hl 4 rfl) dL_law_1145 dL_law_1146 dL_law_1148 dL_law_1149 dL_law_1150 (v := 2) (by decide) g2 ?_
  refine lv_aload_n hx hb dL_law_1151 rfl (lv_at hl 3 rfl) ?_
  refine lz_callL (pc := 1152) (index := 146) (n := 4) (rest := []) (Wr := cl_mdl Y am u) C0 hG hB hNC hapC lz_eC lz_eM hdMC hML gL_law_L_fieldOf rfl rfl rfl (by decide +kernel) ⟨Nat.le_of_ble_eq_true rfl, Nat.le_of_ble_eq_true rfl⟩ rfl hl.1 rfl (Nat.le_of_ble_eq_true rfl) dL_law_1152 ⟨Nat.le_trans (by omega) hc, Nat.le_trans (by omega) hs⟩ hPC hPM hS (fun H locs hPC hPM hS => ?_)
  change W _ _ _ _ _ _ _ _ _ _ _ _ _ _ _ (F0 m 1155 _ [.int k])
  refine W.widen (k := cells + 4) (n := slots + 24) (by omega) (by omega) ?_
  refine lv_istore (lv' := [(5, .int k), (0, .ref b), (1, .ref o0), (2, .ref (am 0)), (3, .ref bo), (4, .int i)]) hx hb dL_law_1155 hl (by decide) rfl (fun ls hl => ?_)
  refine lv_aload_n hx hb dL_law_1157 rfl (lv_at hl 3 rfl) ?_
  refine lz_arg 1158 C0 hS (lv_at hl 1 rfl) (lv_at hl 5 rfl) dL_law_1158 dL_law_1159 dL_law_1161 dL_law_1162 dL_law_1163 (v := 1) (by decide) g1 ?_
  refine lz_arg 1164 C0 hS (lv_at hl 1 rfl) (lv_at hl 5 rfl) dL_law_1164 dL_law_1165 dL_law_1167 dL_law_1168 dL_law_1169 (v := 2) (by decide) g2 ?_
  obtain ⟨fs, hfs⟩ := lz_hM (Y := Y) (am := am) (u := u)
  refine lz_callV (pc := 1170) (index := 148) (n := 2) (rest := []) (W0 := cl_mdl Y am u) (Wr := lz_C Y o0 ast ald ahi act acd bo st' ld' hi' ct' cd' fo') (As := [.int (xs (i + 1).toNatClampNeg), .int (xs (i + 2).toNatClampNeg)]) C0 hG hapM lz_eM lz_eC (lz_d2 hdMC) (ct_X7_fieldOf l D Y am u (xs (i + 1).toNatClampNeg) (xs (i + 2).toNatClampNeg) (u', r) hm) gL_law_X7_fieldOf rfl rfl rfl (by decide +kernel) ⟨Nat.le_of_ble_eq_true rfl, Nat.le_of_ble_eq_true rfl⟩ (qc := (RX7, TX7, 25)) rfl hfs rfl rfl hl.1 rfl (Nat.le_of_ble_eq_true rfl) dL_law_1170 ⟨hc, hs⟩ hPM hPC hS (fun H locs hPM hPC hS => ?_)
  change W _ _ _ _ _ _ _ _ _ _ _ _ _ _ _ (F0 m 1173 _ [.int r])
  refine lv_istore (lv' := [(6, .int r), (5, .int k), (0, .ref b), (1, .ref o0), (2, .ref (am 0)), (3, .ref bo), (4, .int i)]) hx hb dL_law_1173 hl (by decide) rfl (fun ls hl => ?_)
  exact lz_tailI 1175 C0 hG hapM ⟨hc, hs⟩ hPM ek hPC er hl dL_law_1175 dL_law_1176 dL_law_1179 dL_law_1181 dL_law_1186 dL_law_1188 dL_law_1191 dL_law_1192 dL_law_1193 dL_law_1194 dL_law_1196 dL_law_1197 dL_law_1198 dL_law_1203 (by decide) (fun ls hl => K n' bb' d' st' ld' hi' ct' cd' u' fo' H locs ls R' hPC hPM hS hl)
set_option maxHeartbeats 4000000 in
set_option maxRecDepth 100000 in
theorem lz_c_sourceOf (X : lz_X p l s m meth c b L xs D Y o0 ast ald ahi act acd bo am) (g1 : vp_in (i + 1) L) (g2 : vp_in (i + 2) L) (g3 : vp_in (i + 3) L) (hc : cells + 4 ≤ 601024) (hs : slots + 24 ≤ 7293034) (K : lz_go p l e s m below meth c b D Y o0 ast ald ahi act acd bo am 1356 i (cells + 4) (slots + 24)) : lz_go p l e s m below meth c b D Y o0 ast ald ahi act acd bo am 1206 i cells slots := by
  obtain ⟨C0, hl0, hG, hB, hNC, hapC, hapM, hdMC⟩ := X
  obtain ⟨hx, hb, -⟩ := id C0
  intro n bb d st ld hi ct cd u fo H locs ls R hPC hPM hS hl
  obtain ⟨u', r, k, n', bb', d', st', ld', hi', ct', cd', fo', hm, R', ek, er, hML⟩ := lz_u_sourceOf (D := D) (Y := Y) (o0 := o0) (bo := bo) (fo := fo) (ast := ast) (ald := ald) (ahi := ahi) (act := act) (acd := acd) R hl0 (xs (i + 1).toNatClampNeg) (xs (i + 2).toNatClampNeg)
  refine lv_aload_n hx hb dL_law_1206 rfl (lv_at hl 1 rfl) ?_
  refine lz_arg 1207 C0 hS (lv_at hl 0 rfl) (lv_at hl 4 rfl) dL_law_1207 dL_law_1208 dL_law_1210 dL_law_1211 dL_law_1212 (v := 1) (by decide) g1 ?_
  refine lz_arg 1213 C0 hS (lv_at hl 0 rfl) (lv_at hl 4 rfl) dL_law_1213 dL_law_1214 dL_law_1216 dL_law_1217 dL_law_1218 (v := 2) (by decide) g2 ?_
  refine lv_aload_n hx hb dL_law_1219 rfl (lv_at hl 3 rfl) ?_
  refine lz_callL (pc := 1220) (index := 149) (n := 4) (rest := []) (Wr := cl_mdl Y am u) C0 hG hB hNC hapC lz_eC lz_eM hdMC hML gL_law_L_sourceOf rfl rfl rfl (by decide +kernel) ⟨Nat.le_of_ble_eq_true rfl, Nat.le_of_ble_eq_true rfl⟩ rfl hl.1 rfl (Nat.le_of_ble_eq_true rfl) dL_law_1220 ⟨Nat.le_trans (by omega) hc, Nat.le_trans (by omega) hs⟩ hPC hPM hS (fun H locs hPC hPM hS => ?_)
  change W _ _ _ _ _ _ _ _ _ _ _ _ _ _ _ (F0 m 1223 _ [.int k])
  refine W.widen (k := cells + 4) (n := slots + 24) (by omega) (by omega) ?_
  refine lv_istore (lv' := [(5, .int k), (0, .ref b), (1, .ref o0), (2, .ref (am 0)), (3, .ref bo), (4, .int i)]) hx hb dL_law_1223 hl (by decide) rfl (fun ls hl => ?_)
  refine lv_aload_n hx hb dL_law_1225 rfl (lv_at hl 3 rfl) ?_
  refine lz_arg 1226 C0 hS (lv_at hl 1 rfl) (lv_at hl 5 rfl) dL_law_1226 dL_law_1227 dL_law_1229 dL_law_1230 dL_law_1231 (v := 1) (by decide) g1 ?_
  refine lz_arg 1232 C0 hS (lv_at hl 1 rfl) (lv_at hl 5 rfl) dL_law_1232 dL_law_1233 dL_law_1235 dL_law_1236 dL_law_1237 (v := 2) (by decide) g2 ?_
  obtain ⟨fs, hfs⟩ := lz_hM (Y := Y) (am := am) (u := u)
  refine lz_callV (pc := 1238) (index := 151) (n := 2) (rest := []) (W0 := cl_mdl Y am u) (Wr := lz_C Y o0 ast ald ahi act acd bo st' ld' hi' ct' cd' fo') (As := [.int (xs (i + 1).toNatClampNeg), .int (xs (i + 2).toNatClampNeg)]) C0 hG hapM lz_eM lz_eC (lz_d2 hdMC) (ct_X7_sourceOf l D Y am u (xs (i + 1).toNatClampNeg) (xs (i + 2).toNatClampNeg) (u', r) hm) gL_law_X7_sourceOf rfl rfl rfl (by decide +kernel) ⟨Nat.le_of_ble_eq_true rfl, Nat.le_of_ble_eq_true rfl⟩ (qc := (RX7, TX7, 25)) rfl hfs rfl rfl hl.1 rfl (Nat.le_of_ble_eq_true rfl) dL_law_1238 ⟨hc, hs⟩ hPM hPC hS (fun H locs hPM hPC hS => ?_)
  change W _ _ _ _ _ _ _ _ _ _ _ _ _ _ _ (F0 m 1241 _ [.int r])
  refine lv_istore (lv' := [(6, .int r), (5, .int k), (0, .ref b), (1, .ref o0), (2, .ref (am 0)), (3, .ref bo), (4, .int i)]) hx hb dL_law_1241 hl (by decide) rfl (fun ls hl => ?_)
  exact lz_tailI 1243 C0 hG hapM ⟨hc, hs⟩ hPM ek hPC er hl dL_law_1243 dL_law_1244 dL_law_1247 dL_law_1249 dL_law_1254 dL_law_1256 dL_law_1259 dL_law_1260 dL_law_1261 dL_law_1262 dL_law_1264 dL_law_1265 dL_law_1266 dL_law_1271 (by decide) (fun ls hl => K n' bb' d' st' ld' hi' ct' cd' u' fo' H locs ls R' hPC hPM hS hl)
set_option maxHeartbeats 4000000 in
set_option maxRecDepth 100000 in
theorem lz_c_holdings (X : lz_X p l s m meth c b L xs D Y o0 ast ald ahi act acd bo am) (g1 : vp_in (i + 1) L) (g2 : vp_in (i + 2) L) (g3 : vp_in (i + 3) L) (hc : cells + 4 ≤ 601024) (hs : slots + 24 ≤ 7293034) (K : lz_go p l e s m below meth c b D Y o0 ast ald ahi act acd bo am 1356 i (cells + 4) (slots + 24)) : lz_go p l e s m below meth c b D Y o0 ast ald ahi act acd bo am 1274 i cells slots := by
  obtain ⟨C0, hl0, hG, hB, hNC, hapC, hapM, hdMC⟩ := X
  obtain ⟨hx, hb, -⟩ := id C0
  intro n bb d st ld hi ct cd u fo H locs ls R hPC hPM hS hl
  obtain ⟨u', r, k, n', bb', d', st', ld', hi', ct', cd', fo', hm, R', ek, er, hML⟩ := lz_u_holdings (D := D) (Y := Y) (o0 := o0) (bo := bo) (fo := fo) (ast := ast) (ald := ald) (ahi := ahi) (act := act) (acd := acd) R hl0 (xs (i + 1).toNatClampNeg)
  refine lv_aload_n hx hb dL_law_1274 rfl (lv_at hl 1 rfl) ?_
  refine lz_arg 1275 C0 hS (lv_at hl 0 rfl) (lv_at hl 4 rfl) dL_law_1275 dL_law_1276 dL_law_1278 dL_law_1279 dL_law_1280 (v := 1) (by decide) g1 ?_
  refine lv_aload_n hx hb dL_law_1281 rfl (lv_at hl 3 rfl) ?_
  refine lz_callL (pc := 1282) (index := 152) (n := 3) (rest := []) (Wr := cl_mdl Y am u) C0 hG hB hNC hapC lz_eC lz_eM hdMC hML gL_law_L_holdings rfl rfl rfl (by decide +kernel) ⟨Nat.le_of_ble_eq_true rfl, Nat.le_of_ble_eq_true rfl⟩ rfl hl.1 rfl (Nat.le_of_ble_eq_true rfl) dL_law_1282 ⟨Nat.le_trans (by omega) hc, Nat.le_trans (by omega) hs⟩ hPC hPM hS (fun H locs hPC hPM hS => ?_)
  change W _ _ _ _ _ _ _ _ _ _ _ _ _ _ _ (F0 m 1285 _ [.int k])
  refine W.widen (k := cells + 4) (n := slots + 24) (by omega) (by omega) ?_
  refine lv_istore (lv' := [(5, .int k), (0, .ref b), (1, .ref o0), (2, .ref (am 0)), (3, .ref bo), (4, .int i)]) hx hb dL_law_1285 hl (by decide) rfl (fun ls hl => ?_)
  refine lv_aload_n hx hb dL_law_1287 rfl (lv_at hl 3 rfl) ?_
  refine lz_arg 1288 C0 hS (lv_at hl 1 rfl) (lv_at hl 5 rfl) dL_law_1288 dL_law_1289 dL_law_1291 dL_law_1292 dL_law_1293 (v := 1) (by decide) g1 ?_
  obtain ⟨fs, hfs⟩ := lz_hM (Y := Y) (am := am) (u := u)
  refine lz_callV (pc := 1294) (index := 154) (n := 1) (rest := []) (W0 := cl_mdl Y am u) (Wr := lz_C Y o0 ast ald ahi act acd bo st' ld' hi' ct' cd' fo') (As := [.int (xs (i + 1).toNatClampNeg)]) C0 hG hapM lz_eM lz_eC (lz_d2 hdMC) (ct_X7_holdings l D Y am u (xs (i + 1).toNatClampNeg) (u', r) hm) gL_law_X7_holdings rfl rfl rfl (by decide +kernel) ⟨Nat.le_of_ble_eq_true rfl, Nat.le_of_ble_eq_true rfl⟩ (qc := (RX7, TX7, 25)) rfl hfs rfl rfl hl.1 rfl (Nat.le_of_ble_eq_true rfl) dL_law_1294 ⟨hc, hs⟩ hPM hPC hS (fun H locs hPM hPC hS => ?_)
  change W _ _ _ _ _ _ _ _ _ _ _ _ _ _ _ (F0 m 1297 _ [.int r])
  refine lv_istore (lv' := [(6, .int r), (5, .int k), (0, .ref b), (1, .ref o0), (2, .ref (am 0)), (3, .ref bo), (4, .int i)]) hx hb dL_law_1297 hl (by decide) rfl (fun ls hl => ?_)
  exact lz_tailI 1299 C0 hG hapM ⟨hc, hs⟩ hPM ek hPC er hl dL_law_1299 dL_law_1300 dL_law_1303 dL_law_1305 dL_law_1310 dL_law_1312 dL_law_1315 dL_law_1316 dL_law_1317 dL_law_1318 dL_law_1320 dL_law_1321 dL_law_1322 dL_law_1327 (by decide) (fun ls hl => K n' bb' d' st' ld' hi' ct' cd' u' fo' H locs ls R' hPC hPM hS hl)
end CASES
