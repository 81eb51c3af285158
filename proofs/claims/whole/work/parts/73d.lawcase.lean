/-! THE LAW'S CASES -/
section CASES
variable {p : Program} {l : Launch} {e : Env} {s : State} {m : MethodId} {below : List Frame} {meth : Method} {c : Code} {cells slots : Nat} {D : va_G} {Y : cq_Y} {b L : Nat} {xs : Nat → Int32} {o0 bo : Nat} {ast ald ahi act acd am : Nat → Nat} {i : Int32}
set_option maxHeartbeats 4000000 in
set_option maxRecDepth 100000 in
theorem lz_c_batches (X : lz_X p l s m meth c b L xs D Y o0 ast ald ahi act acd bo am) (g1 : vp_in (i + 1) L) (g2 : vp_in (i + 2) L) (g3 : vp_in (i + 3) L) (hc : cells + 4 ≤ 601024) (hs : slots + 24 ≤ 7293034) (K : lz_go p l e s m below meth c b D Y o0 ast ald ahi act acd bo am 1356 i (cells + 4) (slots + 24)) : lz_go p l e s m below meth c b D Y o0 ast ald ahi act acd bo am 887 i cells slots := by
  obtain ⟨C0, hl0, hG, hB, hNC, hapC, hapM, hdMC⟩ := X
  obtain ⟨hx, hb, -⟩ := id C0
  intro n bb d st ld hi ct cd u fo H locs ls R hPC hPM hS hl
  obtain ⟨u', hm, R', -⟩ := op_batches R
  obtain ⟨hPK, hPO⟩ := lz_apP (show va_P D vwCl (lz_K Y o0 ast ald ahi act acd st ld hi ct cd ++ cl_out Y bo fo) H by rw [← lz_CK]; exact hPC)
  obtain ⟨fs6, hfs6⟩ := lz_hK (Y := Y) (o0 := o0) (ast := ast) (ald := ald) (ahi := ahi) (act := act) (acd := acd) (st := st) (ld := ld) (hi := hi) (ct := ct) (cd := cd)
  refine lv_aload_n hx hb dL_law_887 rfl (lv_at hl 1 rfl) ?_
  refine lz_callR (pc := 888) (index := 121) (n := 0) (rest := []) (W0 := lz_K Y o0 ast ald ahi act acd st ld hi ct cd) (As := []) C0 hG hapC.app.1 lz_eK (ct_X6_batches l D Y o0 ast st ald ld ahi hi act ct acd cd) gL_law_X6_batches rfl rfl rfl (by decide +kernel) ⟨Nat.le_of_ble_eq_true rfl, Nat.le_of_ble_eq_true rfl⟩ (qc := (RX6, TX6, 5)) rfl hfs6 rfl rfl hl.1 rfl (Nat.le_of_ble_eq_true rfl) dL_law_888 ⟨Nat.le_trans (by omega) hc, Nat.le_trans (by omega) hs⟩ hPK ?_
  change W _ _ _ _ _ _ _ _ _ _ _ _ _ _ _ (F0 m 891 _ [.int (m_X6_batches st ld hi ct cd)])
  refine lv_aload_n hx hb dL_law_891 rfl (lv_at hl 2 rfl) ?_
  obtain ⟨fs, hfs⟩ := lz_hM (Y := Y) (am := am) (u := u)
  refine lz_callV (pc := 892) (index := 124) (n := 0) (rest := [.int (m_X6_batches st ld hi ct cd)]) (W0 := cl_mdl Y am u) (Wr := lz_C Y o0 ast ald ahi act acd bo st ld hi ct cd fo) (As := []) C0 hG hapM lz_eM lz_eC (lz_d2 hdMC) (ct_X7_batches l D Y am u (u', m_X6_batches st ld hi ct cd) hm) gL_law_X7_batches rfl rfl rfl (by decide +kernel) ⟨Nat.le_of_ble_eq_true rfl, Nat.le_of_ble_eq_true rfl⟩ (qc := (RX7, TX7, 25)) rfl hfs rfl rfl hl.1 rfl (Nat.le_of_ble_eq_true rfl) dL_law_892 ⟨Nat.le_trans (by omega) hc, Nat.le_trans (by omega) hs⟩ hPM hPC hS (fun H locs hPM hPC hS => ?_)
  change W _ _ _ _ _ _ _ _ _ _ _ _ _ _ _ (F0 m 895 _ [.int (m_X6_batches st ld hi ct cd), .int (m_X6_batches st ld hi ct cd)])
  refine W.widen (k := cells + 4) (n := slots + 24) (by omega) (by omega) ?_
  exact lv_icmp_eq (tgt := 1356) hx hb dL_law_895 (by decide) (fun _ => K n bb d st ld hi ct cd u' fo H locs ls R' hPC hPM hS hl) (fun h => absurd rfl h)
set_option maxHeartbeats 4000000 in
set_option maxRecDepth 100000 in
theorem lz_c_loads (X : lz_X p l s m meth c b L xs D Y o0 ast ald ahi act acd bo am) (g1 : vp_in (i + 1) L) (g2 : vp_in (i + 2) L) (g3 : vp_in (i + 3) L) (hc : cells + 4 ≤ 601024) (hs : slots + 24 ≤ 7293034) (K : lz_go p l e s m below meth c b D Y o0 ast ald ahi act acd bo am 1356 i (cells + 4) (slots + 24)) : lz_go p l e s m below meth c b D Y o0 ast ald ahi act acd bo am 900 i cells slots := by
  obtain ⟨C0, hl0, hG, hB, hNC, hapC, hapM, hdMC⟩ := X
  obtain ⟨hx, hb, -⟩ := id C0
  intro n bb d st ld hi ct cd u fo H locs ls R hPC hPM hS hl
  obtain ⟨u', hm, R', -⟩ := op_loads R
  obtain ⟨hPK, hPO⟩ := lz_apP (show va_P D vwCl (lz_K Y o0 ast ald ahi act acd st ld hi ct cd ++ cl_out Y bo fo) H by rw [← lz_CK]; exact hPC)
  obtain ⟨fs6, hfs6⟩ := lz_hK (Y := Y) (o0 := o0) (ast := ast) (ald := ald) (ahi := ahi) (act := act) (acd := acd) (st := st) (ld := ld) (hi := hi) (ct := ct) (cd := cd)
  refine lv_aload_n hx hb dL_law_900 rfl (lv_at hl 1 rfl) ?_
  refine lz_callR (pc := 901) (index := 125) (n := 0) (rest := []) (W0 := lz_K Y o0 ast ald ahi act acd st ld hi ct cd) (As := []) C0 hG hapC.app.1 lz_eK (ct_X6_loads l D Y o0 ast st ald ld ahi hi act ct acd cd) gL_law_X6_loads rfl rfl rfl (by decide +kernel) ⟨Nat.le_of_ble_eq_true rfl, Nat.le_of_ble_eq_true rfl⟩ (qc := (RX6, TX6, 5)) rfl hfs6 rfl rfl hl.1 rfl (Nat.le_of_ble_eq_true rfl) dL_law_901 ⟨Nat.le_trans (by omega) hc, Nat.le_trans (by omega) hs⟩ hPK ?_
  change W _ _ _ _ _ _ _ _ _ _ _ _ _ _ _ (F0 m 904 _ [.int (m_X6_loads st ld hi ct cd)])
  refine lv_aload_n hx hb dL_law_904 rfl (lv_at hl 2 rfl) ?_
  obtain ⟨fs, hfs⟩ := lz_hM (Y := Y) (am := am) (u := u)
  refine lz_callV (pc := 905) (index := 128) (n := 0) (rest := [.int (m_X6_loads st ld hi ct cd)]) (W0 := cl_mdl Y am u) (Wr := lz_C Y o0 ast ald ahi act acd bo st ld hi ct cd fo) (As := []) C0 hG hapM lz_eM lz_eC (lz_d2 hdMC) (ct_X7_loads l D Y am u (u', m_X6_loads st ld hi ct cd) hm) gL_law_X7_loads rfl rfl rfl (by decide +kernel) ⟨Nat.le_of_ble_eq_true rfl, Nat.le_of_ble_eq_true rfl⟩ (qc := (RX7, TX7, 25)) rfl hfs rfl rfl hl.1 rfl (Nat.le_of_ble_eq_true rfl) dL_law_905 ⟨Nat.le_trans (by omega) hc, Nat.le_trans (by omega) hs⟩ hPM hPC hS (fun H locs hPM hPC hS => ?_)
  change W _ _ _ _ _ _ _ _ _ _ _ _ _ _ _ (F0 m 908 _ [.int (m_X6_loads st ld hi ct cd), .int (m_X6_loads st ld hi ct cd)])
  refine W.widen (k := cells + 4) (n := slots + 24) (by omega) (by omega) ?_
  exact lv_icmp_eq (tgt := 1356) hx hb dL_law_908 (by decide) (fun _ => K n bb d st ld hi ct cd u' fo H locs ls R' hPC hPM hS hl) (fun h => absurd rfl h)
set_option maxHeartbeats 4000000 in
set_option maxRecDepth 100000 in
theorem lz_c_records (X : lz_X p l s m meth c b L xs D Y o0 ast ald ahi act acd bo am) (g1 : vp_in (i + 1) L) (g2 : vp_in (i + 2) L) (g3 : vp_in (i + 3) L) (hc : cells + 4 ≤ 601024) (hs : slots + 24 ≤ 7293034) (K : lz_go p l e s m below meth c b D Y o0 ast ald ahi act acd bo am 1356 i (cells + 4) (slots + 24)) : lz_go p l e s m below meth c b D Y o0 ast ald ahi act acd bo am 913 i cells slots := by
  obtain ⟨C0, hl0, hG, hB, hNC, hapC, hapM, hdMC⟩ := X
  obtain ⟨hx, hb, -⟩ := id C0
  intro n bb d st ld hi ct cd u fo H locs ls R hPC hPM hS hl
  obtain ⟨u', hm, R', -⟩ := op_records R
  obtain ⟨hPK, hPO⟩ := lz_apP (show va_P D vwCl (lz_K Y o0 ast ald ahi act acd st ld hi ct cd ++ cl_out Y bo fo) H by rw [← lz_CK]; exact hPC)
  obtain ⟨fs6, hfs6⟩ := lz_hK (Y := Y) (o0 := o0) (ast := ast) (ald := ald) (ahi := ahi) (act := act) (acd := acd) (st := st) (ld := ld) (hi := hi) (ct := ct) (cd := cd)
  refine lv_aload_n hx hb dL_law_913 rfl (lv_at hl 1 rfl) ?_
  refine lz_callR (pc := 914) (index := 129) (n := 0) (rest := []) (W0 := lz_K Y o0 ast ald ahi act acd st ld hi ct cd) (As := []) C0 hG hapC.app.1 lz_eK (ct_X6_records l D Y o0 ast st ald ld ahi hi act ct acd cd) gL_law_X6_records rfl rfl rfl (by decide +kernel) ⟨Nat.le_of_ble_eq_true rfl, Nat.le_of_ble_eq_true rfl⟩ (qc := (RX6, TX6, 5)) rfl hfs6 rfl rfl hl.1 rfl (Nat.le_of_ble_eq_true rfl) dL_law_914 ⟨Nat.le_trans (by omega) hc, Nat.le_trans (by omega) hs⟩ hPK ?_
  change W _ _ _ _ _ _ _ _ _ _ _ _ _ _ _ (F0 m 917 _ [.int (m_X6_records st ld hi ct cd)])
  refine lv_aload_n hx hb dL_law_917 rfl (lv_at hl 2 rfl) ?_
  obtain ⟨fs, hfs⟩ := lz_hM (Y := Y) (am := am) (u := u)
  refine lz_callV (pc := 918) (index := 132) (n := 0) (rest := [.int (m_X6_records st ld hi ct cd)]) (W0 := cl_mdl Y am u) (Wr := lz_C Y o0 ast ald ahi act acd bo st ld hi ct cd fo) (As := []) C0 hG hapM lz_eM lz_eC (lz_d2 hdMC) (ct_X7_records l D Y am u (u', m_X6_records st ld hi ct cd) hm) gL_law_X7_records rfl rfl rfl (by decide +kernel) ⟨Nat.le_of_ble_eq_true rfl, Nat.le_of_ble_eq_true rfl⟩ (qc := (RX7, TX7, 25)) rfl hfs rfl rfl hl.1 rfl (Nat.le_of_ble_eq_true rfl) dL_law_918 ⟨Nat.le_trans (by omega) hc, Nat.le_trans (by omega) hs⟩ hPM hPC hS (fun H locs hPM hPC hS => ?_)
  change W _ _ _ _ _ _ _ _ _ _ _ _ _ _ _ (F0 m 921 _ [.int (m_X6_records st ld hi ct cd), .int (m_X6_records st ld hi ct cd)])
  refine W.widen (k := cells + 4) (n := slots + 24) (by omega) (by omega) ?_
  exact lv_icmp_eq (tgt := 1356) hx hb dL_law_921 (by decide) (fun _ => K n bb d st ld hi ct cd u' fo H locs ls R' hPC hPM hS hl) (fun h => absurd rfl h)
set_option maxHeartbeats 4000000 in
set_option maxRecDepth 100000 in
theorem lz_c_isThere (X : lz_X p l s m meth c b L xs D Y o0 ast ald ahi act acd bo am) (g1 : vp_in (i + 1) L) (g2 : vp_in (i + 2) L) (g3 : vp_in (i + 3) L) (hc : cells + 4 ≤ 601024) (hs : slots + 24 ≤ 7293034) (K : lz_go p l e s m below meth c b D Y o0 ast ald ahi act acd bo am 1356 i (cells + 4) (slots + 24)) : lz_go p l e s m below meth c b D Y o0 ast ald ahi act acd bo am 989 i cells slots := by
  obtain ⟨C0, hl0, hG, hB, hNC, hapC, hapM, hdMC⟩ := X
  obtain ⟨hx, hb, -⟩ := id C0
  intro n bb d st ld hi ct cd u fo H locs ls R hPC hPM hS hl
  obtain ⟨u', hm, R', -⟩ := op_isThere R (xs (i + 1).toNatClampNeg)
  obtain ⟨hPK, hPO⟩ := lz_apP (show va_P D vwCl (lz_K Y o0 ast ald ahi act acd st ld hi ct cd ++ cl_out Y bo fo) H by rw [← lz_CK]; exact hPC)
  obtain ⟨fs6, hfs6⟩ := lz_hK (Y := Y) (o0 := o0) (ast := ast) (ald := ald) (ahi := ahi) (act := act) (acd := acd) (st := st) (ld := ld) (hi := hi) (ct := ct) (cd := cd)
  refine lv_aload_n hx hb dL_law_989 rfl (lv_at hl 1 rfl) ?_
  refine lz_arg 990 C0 hS (lv_at hl 0 rfl) (lv_at hl 4 rfl) dL_law_990 dL_law_991 dL_law_993 dL_law_994 dL_law_995 (v := 1) (by decide) g1 ?_
  refine lz_callR (pc := 996) (index := 136) (n := 1) (rest := []) (W0 := lz_K Y o0 ast ald ahi act acd st ld hi ct cd) (As := [.int (xs (i + 1).toNatClampNeg)]) C0 hG hapC.app.1 lz_eK (ct_X6_isThere l D Y o0 ast st ald ld ahi hi act ct acd cd (xs (i + 1).toNatClampNeg)) gL_law_X6_isThere rfl rfl rfl (by decide +kernel) ⟨Nat.le_of_ble_eq_true rfl, Nat.le_of_ble_eq_true rfl⟩ (qc := (RX6, TX6, 5)) rfl hfs6 rfl rfl hl.1 rfl (Nat.le_of_ble_eq_true rfl) dL_law_996 ⟨Nat.le_trans (by omega) hc, Nat.le_trans (by omega) hs⟩ hPK ?_
  change W _ _ _ _ _ _ _ _ _ _ _ _ _ _ _ (F0 m 999 _ [.int (m_X6_isThere st ld hi ct cd (xs (i + 1).toNatClampNeg))])
  refine lv_aload_n hx hb dL_law_999 rfl (lv_at hl 2 rfl) ?_
  refine lz_arg 1000 C0 hS (lv_at hl 0 rfl) (lv_at hl 4 rfl) dL_law_1000 dL_law_1001 dL_law_1003 dL_law_1004 dL_law_1005 (v := 1) (by decide) g1 ?_
  obtain ⟨fs, hfs⟩ := lz_hM (Y := Y) (am := am) (u := u)
  refine lz_callV (pc := 1006) (index := 139) (n := 1) (rest := [.int (m_X6_isThere st ld hi ct cd (xs (i + 1).toNatClampNeg))]) (W0 := cl_mdl Y am u) (Wr := lz_C Y o0 ast ald ahi act acd bo st ld hi ct cd fo) (As := [.int (xs (i + 1).toNatClampNeg)]) C0 hG hapM lz_eM lz_eC (lz_d2 hdMC) (ct_X7_isThere l D Y am u (xs (i + 1).toNatClampNeg) (u', m_X6_isThere st ld hi ct cd (xs (i + 1).toNatClampNeg)) hm) gL_law_X7_isThere rfl rfl rfl (by decide +kernel) ⟨Nat.le_of_ble_eq_true rfl, Nat.le_of_ble_eq_true rfl⟩ (qc := (RX7, TX7, 25)) rfl hfs rfl rfl hl.1 rfl (Nat.le_of_ble_eq_true rfl) dL_law_1006 ⟨Nat.le_trans (by omega) hc, Nat.le_trans (by omega) hs⟩ hPM hPC hS (fun H locs hPM hPC hS => ?_)
  change W _ _ _ _ _ _ _ _ _ _ _ _ _ _ _ (F0 m 1009 _ [.int (m_X6_isThere st ld hi ct cd (xs (i + 1).toNatClampNeg)), .int (m_X6_isThere st ld hi ct cd (xs (i + 1).toNatClampNeg))])
  refine W.widen (k := cells + 4) (n := slots + 24) (by omega) (by omega) ?_
  exact lv_icmp_eq (tgt := 1356) hx hb dL_law_1009 (by decide) (fun _ => K n bb d st ld hi ct cd u' fo H locs ls R' hPC hPM hS hl) (fun h => absurd rfl h)
set_option maxHeartbeats 4000000 in
set_option maxRecDepth 100000 in
theorem lz_c_digest (X : lz_X p l s m meth c b L xs D Y o0 ast ald ahi act acd bo am) (g1 : vp_in (i + 1) L) (g2 : vp_in (i + 2) L) (g3 : vp_in (i + 3) L) (hc : cells + 4 ≤ 601024) (hs : slots + 24 ≤ 7293034) (K : lz_go p l e s m below meth c b D Y o0 ast ald ahi act acd bo am 1356 i (cells + 4) (slots + 24)) : lz_go p l e s m below meth c b D Y o0 ast ald ahi act acd bo am 1330 i cells slots := by
  obtain ⟨C0, hl0, hG, hB, hNC, hapC, hapM, hdMC⟩ := X
  obtain ⟨hx, hb, -⟩ := id C0
  intro n bb d st ld hi ct cd u fo H locs ls R hPC hPM hS hl
  obtain ⟨u', hm, R', -⟩ := op_digest R
  obtain ⟨hPK, hPO⟩ := lz_apP (show va_P D vwCl (lz_K Y o0 ast ald ahi act acd st ld hi ct cd ++ cl_out Y bo fo) H by rw [← lz_CK]; exact hPC)
  obtain ⟨fs6, hfs6⟩ := lz_hK (Y := Y) (o0 := o0) (ast := ast) (ald := ald) (ahi := ahi) (act := act) (acd := acd) (st := st) (ld := ld) (hi := hi) (ct := ct) (cd := cd)
  refine lv_aload_n hx hb dL_law_1330 rfl (lv_at hl 1 rfl) ?_
  refine lz_callR (pc := 1331) (index := 155) (n := 0) (rest := []) (W0 := lz_K Y o0 ast ald ahi act acd st ld hi ct cd) (As := []) C0 hG hapC.app.1 lz_eK (ct_X6_digest l D Y o0 ast st ald ld ahi hi act ct acd cd) gL_law_X6_digest rfl rfl rfl (by decide +kernel) ⟨Nat.le_of_ble_eq_true rfl, Nat.le_of_ble_eq_true rfl⟩ (qc := (RX6, TX6, 5)) rfl hfs6 rfl rfl hl.1 rfl (Nat.le_of_ble_eq_true rfl) dL_law_1331 ⟨Nat.le_trans (by omega) hc, Nat.le_trans (by omega) hs⟩ hPK ?_
  change W _ _ _ _ _ _ _ _ _ _ _ _ _ _ _ (F0 m 1334 _ [.int (m_X6_digest st ld hi ct cd)])
  refine lv_aload_n hx hb dL_law_1334 rfl (lv_at hl 2 rfl) ?_
  obtain ⟨fs, hfs⟩ := lz_hM (Y := Y) (am := am) (u := u)
  refine lz_callV (pc := 1335) (index := 158) (n := 0) (rest := [.int (m_X6_digest st ld hi ct cd)]) (W0 := cl_mdl Y am u) (Wr := lz_C Y o0 ast ald ahi act acd bo st ld hi ct cd fo) (As := []) C0 hG hapM lz_eM lz_eC (lz_d2 hdMC) (ct_X7_digest l D Y am u (u', m_X6_digest st ld hi ct cd) hm) gL_law_X7_digest rfl rfl rfl (by decide +kernel) ⟨Nat.le_of_ble_eq_true rfl, Nat.le_of_ble_eq_true rfl⟩ (qc := (RX7, TX7, 25)) rfl hfs rfl rfl hl.1 rfl (Nat.le_of_ble_eq_true rfl) dL_law_1335 ⟨Nat.le_trans (by omega) hc, Nat.le_trans (by omega) hs⟩ hPM hPC hS (fun H locs hPM hPC hS => ?_)
  change W _ _ _ _ _ _ _ _ _ _ _ _ _ _ _ (F0 m 1338 _ [.int (m_X6_digest st ld hi ct cd), .int (m_X6_digest st ld hi ct cd)])
  refine W.widen (k := cells + 4) (n := slots + 24) (by omega) (by omega) ?_
  exact lv_icmp_eq (tgt := 1356) hx hb dL_law_1338 (by decide) (fun _ => K n bb d st ld hi ct cd u' fo H locs ls R' hPC hPM hS hl) (fun h => absurd rfl h)
set_option maxHeartbeats 4000000 in
set_option maxRecDepth 100000 in
theorem lz_c_digestAnew (X : lz_X p l s m meth c b L xs D Y o0 ast ald ahi act acd bo am) (g1 : vp_in (i + 1) L) (g2 : vp_in (i + 2) L) (g3 : vp_in (i + 3) L) (hc : cells + 4 ≤ 601024) (hs : slots + 24 ≤ 7293034) (K : lz_go p l e s m below meth c b D Y o0 ast ald ahi act acd bo am 1356 i (cells + 4) (slots + 24)) : lz_go p l e s m below meth c b D Y o0 ast ald ahi act acd bo am 1343 i cells slots := by
  obtain ⟨C0, hl0, hG, hB, hNC, hapC, hapM, hdMC⟩ := X
  obtain ⟨hx, hb, -⟩ := id C0
  intro n bb d st ld hi ct cd u fo H locs ls R hPC hPM hS hl
  obtain ⟨u', hm, R', -⟩ := op_digestAnew R
  obtain ⟨hPK, hPO⟩ := lz_apP (show va_P D vwCl (lz_K Y o0 ast ald ahi act acd st ld hi ct cd ++ cl_out Y bo fo) H by rw [← lz_CK]; exact hPC)
  obtain ⟨fs6, hfs6⟩ := lz_hK (Y := Y) (o0 := o0) (ast := ast) (ald := ald) (ahi := ahi) (act := act) (acd := acd) (st := st) (ld := ld) (hi := hi) (ct := ct) (cd := cd)
  refine lv_aload_n hx hb dL_law_1343 rfl (lv_at hl 1 rfl) ?_
  refine lz_callV (pc := 1344) (index := 159) (n := 0) (rest := []) (W0 := lz_K Y o0 ast ald ahi act acd st ld hi ct cd) (Wr := cl_out Y bo fo ++ cl_mdl Y am u) (As := []) C0 hG hapC.app.1 lz_eK lz_eO (lz_d1 hapC hdMC) (ct_X6_digestAnew l D Y o0 ast st ald ld ahi hi act ct acd cd) gL_law_X6_digestAnew rfl rfl rfl (by decide +kernel) ⟨Nat.le_of_ble_eq_true rfl, Nat.le_of_ble_eq_true rfl⟩ (qc := (RX6, TX6, 5)) rfl hfs6 rfl rfl hl.1 rfl (Nat.le_of_ble_eq_true rfl) dL_law_1344 ⟨Nat.le_trans (by omega) hc, Nat.le_trans (by omega) hs⟩ hPK (lz_paP hPO hPM) hS (fun H locs hPK hPr hS => ?_)
  obtain ⟨hPO, hPM⟩ := lz_apP hPr
  have hPC := lz_paP hPK hPO
  rw [← lz_CK] at hPC
  change W _ _ _ _ _ _ _ _ _ _ _ _ _ _ _ (F0 m 1347 _ [.int ((m_X6_digestAnew st ld hi ct cd).2)])
  refine lv_aload_n hx hb dL_law_1347 rfl (lv_at hl 2 rfl) ?_
  obtain ⟨fs, hfs⟩ := lz_hM (Y := Y) (am := am) (u := u)
  refine lz_callV (pc := 1348) (index := 162) (n := 0) (rest := [.int ((m_X6_digestAnew st ld hi ct cd).2)]) (W0 := cl_mdl Y am u) (Wr := lz_C Y o0 ast ald ahi act acd bo st ld hi ct (m_X6_digestAnew st ld hi ct cd).1 fo) (As := []) C0 hG hapM lz_eM lz_eC (lz_d2 hdMC) (ct_X7_digestAnew l D Y am u (u', (m_X6_digestAnew st ld hi ct cd).2) hm) gL_law_X7_digestAnew rfl rfl rfl (by decide +kernel) ⟨Nat.le_of_ble_eq_true rfl, Nat.le_of_ble_eq_true rfl⟩ (qc := (RX7, TX7, 25)) rfl hfs rfl rfl hl.1 rfl (Nat.le_of_ble_eq_true rfl) dL_law_1348 ⟨Nat.le_trans (by omega) hc, Nat.le_trans (by omega) hs⟩ hPM hPC hS (fun H locs hPM hPC hS => ?_)
  change W _ _ _ _ _ _ _ _ _ _ _ _ _ _ _ (F0 m 1351 _ [.int ((m_X6_digestAnew st ld hi ct cd).2), .int ((m_X6_digestAnew st ld hi ct cd).2)])
  refine W.widen (k := cells + 4) (n := slots + 24) (by omega) (by omega) ?_
  exact lv_icmp_eq (tgt := 1356) hx hb dL_law_1351 (by decide) (fun _ => K n bb d st ld hi ct (m_X6_digestAnew st ld hi ct cd).1 u' fo H locs ls R' hPC hPM hS hl) (fun h => absurd rfl h)
end CASES
