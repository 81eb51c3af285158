/-! THE LAW'S CASES -/
section CASES
variable {p : Program} {l : Launch} {e : Env} {s : State} {m : MethodId} {below : List Frame} {meth : Method} {c : Code} {cells slots : Nat} {D : va_G} {Y : cq_Y} {b L : Nat} {xs : Nat → Int32} {o0 bo : Nat} {ast ald ahi act acd am : Nat → Nat} {i : Int32}
set_option maxHeartbeats 4000000 in
set_option maxRecDepth 100000 in
theorem lz_c_setRank (X : lz_X p l s m meth c b L xs D Y o0 ast ald ahi act acd bo am) (g1 : vp_in (i + 1) L) (g2 : vp_in (i + 2) L) (g3 : vp_in (i + 3) L) (hc : cells + 4 ≤ 601024) (hs : slots + 24 ≤ 7293034) (K : lz_go p l e s m below meth c b D Y o0 ast ald ahi act acd bo am 1356 i (cells + 4) (slots + 24)) : lz_go p l e s m below meth c b D Y o0 ast ald ahi act acd bo am 144 i cells slots := by
  obtain ⟨C0, hl0, hG, hB, hNC, hapC, hapM, hdMC⟩ := X
  obtain ⟨hx, hb, -⟩ := id C0
  intro n bb d st ld hi ct cd u fo H locs ls R hPC hPM hS hl
  obtain ⟨u', r, k, n', bb', d', st', ld', hi', ct', cd', fo', hm, R', ek, er, hML⟩ := lz_u_setRank (D := D) (Y := Y) (o0 := o0) (bo := bo) (fo := fo) (ast := ast) (ald := ald) (ahi := ahi) (act := act) (acd := acd) R hl0 (xs (i + 1).toNatClampNeg) (xs (i + 2).toNatClampNeg)
  refine lv_aload_n hx hb dL_law_144 rfl (lv_at hl 1 rfl) ?_
  refine lz_arg 145 C0 hS (lv_at hl 0 rfl) (lv_at hl 4 rfl) dL_law_145 dL_law_146 dL_law_148 dL_law_149 dL_law_150 (v := 1) (by decide) g1 ?_
  refine lz_arg 151 C0 hS (lv_at hl 0 rfl) (lv_at hl 4 rfl) dL_law_151 dL_law_152 dL_law_154 dL_law_155 dL_law_156 (v := 2) (by decide) g2 ?_
  refine lv_aload_n hx hb dL_law_157 rfl (lv_at hl 3 rfl) ?_
  refine lz_callL (pc := 158) (index := 77) (n := 4) (rest := []) (Wr := cl_mdl Y am u) C0 hG hB hNC hapC lz_eC lz_eM hdMC hML gL_law_L_setRank rfl rfl rfl (by decide +kernel) ⟨Nat.le_of_ble_eq_true rfl, Nat.le_of_ble_eq_true rfl⟩ rfl hl.1 rfl (Nat.le_of_ble_eq_true rfl) dL_law_158 ⟨Nat.le_trans (by omega) hc, Nat.le_trans (by omega) hs⟩ hPC hPM hS (fun H locs hPC hPM hS => ?_)
  change W _ _ _ _ _ _ _ _ _ _ _ _ _ _ _ (F0 m 161 _ [.int k])
  refine W.widen (k := cells + 4) (n := slots + 24) (by omega) (by omega) ?_
  refine lv_istore (lv' := [(5, .int k), (0, .ref b), (1, .ref o0), (2, .ref (am 0)), (3, .ref bo), (4, .int i)]) hx hb dL_law_161 hl (by decide) rfl (fun ls hl => ?_)
  refine lv_aload_n hx hb dL_law_163 rfl (lv_at hl 3 rfl) ?_
  refine lz_arg 164 C0 hS (lv_at hl 1 rfl) (lv_at hl 5 rfl) dL_law_164 dL_law_165 dL_law_167 dL_law_168 dL_law_169 (v := 1) (by decide) g1 ?_
  refine lz_arg 170 C0 hS (lv_at hl 1 rfl) (lv_at hl 5 rfl) dL_law_170 dL_law_171 dL_law_173 dL_law_174 dL_law_175 (v := 2) (by decide) g2 ?_
  obtain ⟨fs, hfs⟩ := lz_hM (Y := Y) (am := am) (u := u)
  refine lz_callV (pc := 176) (index := 82) (n := 2) (rest := []) (W0 := cl_mdl Y am u) (Wr := lz_C Y o0 ast ald ahi act acd bo st' ld' hi' ct' cd' fo') (As := [.int (xs (i + 1).toNatClampNeg), .int (xs (i + 2).toNatClampNeg)]) C0 hG hapM lz_eM lz_eC (lz_d2 hdMC) (ct_X7_setRank l D Y am u (xs (i + 1).toNatClampNeg) (xs (i + 2).toNatClampNeg) (u', r) hm) gL_law_X7_setRank rfl rfl rfl (by decide +kernel) ⟨Nat.le_of_ble_eq_true rfl, Nat.le_of_ble_eq_true rfl⟩ (qc := (RX7, TX7, 25)) rfl hfs rfl rfl hl.1 rfl (Nat.le_of_ble_eq_true rfl) dL_law_176 ⟨hc, hs⟩ hPM hPC hS (fun H locs hPM hPC hS => ?_)
  change W _ _ _ _ _ _ _ _ _ _ _ _ _ _ _ (F0 m 179 _ [.int r])
  refine lv_istore (lv' := [(6, .int r), (5, .int k), (0, .ref b), (1, .ref o0), (2, .ref (am 0)), (3, .ref bo), (4, .int i)]) hx hb dL_law_179 hl (by decide) rfl (fun ls hl => ?_)
  exact lz_tailI 181 C0 hG hapM ⟨hc, hs⟩ hPM ek hPC er hl dL_law_181 dL_law_182 dL_law_185 dL_law_187 dL_law_192 dL_law_194 dL_law_197 dL_law_198 dL_law_199 dL_law_200 dL_law_202 dL_law_203 dL_law_204 dL_law_209 (by decide) (fun ls hl => K n' bb' d' st' ld' hi' ct' cd' u' fo' H locs ls R' hPC hPM hS hl)
end CASES
