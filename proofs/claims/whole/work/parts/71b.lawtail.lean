/-! THE LAW'S BODY: its worlds, its context, the ends of its cases -/
abbrev lz_K (Y : cq_Y) (o0 : Nat) (ast ald ahi act acd : Nat → Nat) (st : SetS) (ld : LodS) (hi : HisS) (ct cd : CatS) : va_W := cl_ldr o0 (ast 0) (ald 0) (ahi 0) (act 0) (acd 0) ++ (cl_set Y ast st ++ (cl_lod Y ald ld ++ (cl_his Y ahi hi ++ (cl_cat Y act ct ++ (cl_cat Y acd cd)))))
abbrev lz_C (Y : cq_Y) (o0 : Nat) (ast ald ahi act acd : Nat → Nat) (bo : Nat) (st : SetS) (ld : LodS) (hi : HisS) (ct cd : CatS) (fo : Nat → Int64) : va_W := cl_ldr o0 (ast 0) (ald 0) (ahi 0) (act 0) (acd 0) ++ (cl_set Y ast st ++ (cl_lod Y ald ld ++ (cl_his Y ahi hi ++ (cl_cat Y act ct ++ (cl_cat Y acd cd ++ (cl_out Y bo fo))))))
def lz_aK (o0 : Nat) (ast ald ahi act acd : Nat → Nat) : List Nat := [o0, ast 0, ast 1, ast 2, ast 3, ast 4, ast 5, ast 6, ald 0, ald 1, ald 2, ald 3, ald 4, ald 5, ald 6, ald 7, ald 8, ald 9, ald 10, ahi 0, ahi 1, ahi 2, ahi 3, ahi 4, ahi 5, ahi 6, ahi 7, ahi 8, act 0, act 1, act 2, act 3, act 4, act 5, act 6, act 7, act 8, act 9, act 10, act 11, act 12, act 13, act 14, acd 0, acd 1, acd 2, acd 3, acd 4, acd 5, acd 6, acd 7, acd 8, acd 9, acd 10, acd 11, acd 12, acd 13, acd 14]
def lz_aM (am : Nat → Nat) : List Nat := [am 0, am 1, am 2, am 3, am 4, am 5, am 6, am 7, am 8, am 9, am 10, am 11, am 12, am 13, am 14, am 15, am 16, am 17, am 18, am 19, am 20]
set_option maxRecDepth 100000 in
theorem lz_eK {Y : cq_Y} {o0 : Nat} {ast ald ahi act acd : Nat → Nat} {st : SetS} {ld : LodS} {hi : HisS} {ct cd : CatS} : (lz_K Y o0 ast ald ahi act acd st ld hi ct cd).map (·.1) = lz_aK o0 ast ald ahi act acd := rfl
set_option maxRecDepth 100000 in
theorem lz_eC {Y : cq_Y} {o0 : Nat} {ast ald ahi act acd : Nat → Nat} {bo : Nat} {st : SetS} {ld : LodS} {hi : HisS} {ct cd : CatS} {fo : Nat → Int64} : (lz_C Y o0 ast ald ahi act acd bo st ld hi ct cd fo).map (·.1) = lz_aK o0 ast ald ahi act acd ++ [bo] := rfl
set_option maxRecDepth 100000 in
theorem lz_eM {Y : cq_Y} {am : Nat → Nat} {u : MdlS} : (cl_mdl Y am u).map (·.1) = lz_aM am := rfl
theorem lz_eO {Y : cq_Y} {am : Nat → Nat} {u : MdlS} {bo : Nat} {fo : Nat → Int64} : (cl_out Y bo fo ++ cl_mdl Y am u).map (·.1) = [bo] ++ lz_aM am := rfl
theorem lz_as {a b c d e f g : va_W} : a ++ (b ++ (c ++ (d ++ (e ++ (f ++ g))))) = (a ++ (b ++ (c ++ (d ++ (e ++ f))))) ++ g := by simp only [List.append_assoc]
theorem lz_CK {Y : cq_Y} {o0 : Nat} {ast ald ahi act acd : Nat → Nat} {bo : Nat} {st : SetS} {ld : LodS} {hi : HisS} {ct cd : CatS} {fo : Nat → Int64} : lz_C Y o0 ast ald ahi act acd bo st ld hi ct cd fo = lz_K Y o0 ast ald ahi act acd st ld hi ct cd ++ cl_out Y bo fo := lz_as
theorem lz_hM {Y : cq_Y} {am : Nat → Nat} {u : MdlS} : ∃ fs : List Value, (cl_mdl Y am u)[0]? = some (am 0, .inr (7, fs)) := ⟨_, rfl⟩
theorem lz_hK {Y : cq_Y} {o0 : Nat} {ast ald ahi act acd : Nat → Nat} {st : SetS} {ld : LodS} {hi : HisS} {ct cd : CatS} : ∃ fs : List Value, (lz_K Y o0 ast ald ahi act acd st ld hi ct cd)[0]? = some (o0, .inr (6, fs)) := ⟨_, rfl⟩
/-- what holds through the law's loop -/
def lz_X (p : Program) (l : Launch) (s : State) (m : MethodId) (meth : Method) (c : Code) (b L : Nat) (xs : Nat → Int32) (D : va_G) (Y : cq_Y) (o0 : Nat) (ast ald ahi act acd : Nat → Nat) (bo : Nat) (am : Nat → Nat) : Prop :=
  lw_At p s m meth c b L xs ∧ l.stackTraces = false ∧ cq_G D Y s ∧ lz_B s ∧ cq_NC s ∧ lz_ap (fun q => s.heap.size ≤ q) (lz_aK o0 ast ald ahi act acd ++ [bo]) ∧ lz_ap (fun q => s.heap.size ≤ q) (lz_aM am) ∧ ∀ x ∈ lz_aM am, x ∉ lz_aK o0 ast ald ahi act acd ++ [bo]
theorem lz_d1 {A : Nat → Prop} {a m : List Nat} {bo : Nat} (h : lz_ap A (a ++ [bo])) (hd : ∀ x ∈ m, x ∉ a ++ [bo]) : ∀ x ∈ [bo] ++ m, x ∉ a := fun x hx => (List.mem_append.mp hx).elim (fun h1 => h.app.2.2 x h1) (fun h1 h2 => hd x h1 (List.mem_append_left _ h2))
theorem lz_d2 {a m : List Nat} (hd : ∀ x ∈ m, x ∉ a) : ∀ x ∈ a, x ∉ m := fun x h h2 => hd x h2 h
theorem lz_f0 {f : Nat → Int64} {x : Int64} : vp_updL f (0 : Int32).toNatClampNeg x 0 = x := by
  show (if 0 = (0 : Int32).toNatClampNeg then x else f 0) = x
  exact if_pos (by decide)
/-- the law, from a place in its loop, whatever the state is -/
def lz_go (p : Program) (l : Launch) (e : Env) (s : State) (m : MethodId) (below : List Frame) (meth : Method) (c : Code) (b : Nat) (D : va_G) (Y : cq_Y) (o0 : Nat) (ast ald ahi act acd : Nat → Nat) (bo : Nat) (am : Nat → Nat) (pc : Nat) (i : Int32) (cells slots : Nat) : Prop :=
  ∀ (n bb d : Nat) (st : SetS) (ld : LodS) (hi : HisS) (ct cd : CatS) (u : MdlS) (fo : Nat → Int64) (H : Heap) (locs : List Loc) (ls : Array Slot), Rel n bb d st ld hi ct cd u → va_P D vwCl (lz_C Y o0 ast ald ahi act acd bo st ld hi ct cd fo) H → va_P D vwCl (cl_mdl Y am u) H → va_S (fun q => s.heap.size ≤ q) s.heap H locs → lv_has ls 7 [(0, .ref b), (1, .ref o0), (2, .ref (am 0)), (3, .ref bo), (4, .int i)] → W p l e room_1 s m #[Value.ref b] below meth c H locs cells slots (lw_Z below #[Value.ref b] s) (F0 m pc ls [])
theorem lz_cmp0 {x : Int64} : lg_cmp x x = 0 := by
  unfold lg_cmp
  rw [if_neg (fun h => absurd h (Int64.lt_irrefl)), if_pos rfl]
section TAILS
variable {p : Program} {l : Launch} {e : Env} {s : State} {m : MethodId} {below : List Frame} {meth : Method} {c : Code} {H : Heap} {locs : List Loc} {cells slots : Nat} {Q : State → Prop} {ls : Array Slot} {D : va_G} {Y : cq_Y} {b L : Nat} {xs : Nat → Int32} {o0 bo : Nat} {ast ald ahi act acd am : Nat → Nat} {st : SetS} {ld : LodS} {hi : HisS} {ct cd : CatS} {u : MdlS} {fo : Nat → Int64}
theorem lz_tailV (a : Nat) {off : Int} {i k : Int32} (C0 : lw_At p s m meth c b L xs) (hG : cq_G D Y s) (hap : lz_ap (fun q => s.heap.size ≤ q) (lz_aM am)) (hf : cells ≤ room_1.cells ∧ slots ≤ room_1.slots) (hPM : va_P D vwCl (cl_mdl Y am u) H) (ek : m_X7_thrown u = k) (hl : lv_has ls 7 [(5, .int k), (0, .ref b), (1, .ref o0), (2, .ref (am 0)), (3, .ref bo), (4, .int i)])
    (d0 : decode code a = .ok (.aload_n 2, 1)) (d1 : decode code (a + 1) = .ok (.invokevirtual 83, 3)) (d4 : decode code (a + 4) = .ok (.iload 5, 2)) (d6 : decode code (a + 6) = .ok (.if_icmp .eq 5, 3)) (d11 : decode code (a + 11) = .ok (.goto off, 3)) (ht : ((a + 11 : Nat) : Int) + off = ((1356 : Nat) : Int))
    (kk : ∀ ls : Array Slot, lv_has ls 7 [(0, .ref b), (1, .ref o0), (2, .ref (am 0)), (3, .ref bo), (4, .int i)] → W p l e room_1 s m #[Value.ref b] below meth c H locs cells slots Q (F0 m 1356 ls [])) : W p l e room_1 s m #[Value.ref b] below meth c H locs cells slots Q (F0 m a ls []) := by
  obtain ⟨hx, hb, -⟩ := id C0
  refine lv_aload_n hx hb d0 rfl (lv_at hl 3 rfl) ?_
  obtain ⟨fs, hfs⟩ := lz_hM (Y := Y) (am := am) (u := u)
  refine lz_callR (pc := a + 1) (W0 := cl_mdl Y am u) (As := []) (rest := []) C0 hG hap lz_eM (ct_X7_thrown l D Y am u) gL_law_X7_thrown rfl rfl rfl (by decide +kernel) ⟨Nat.le_of_ble_eq_true rfl, Nat.le_of_ble_eq_true rfl⟩ (qc := (RX7, TX7, 25)) rfl hfs rfl rfl hl.1 rfl (Nat.le_of_ble_eq_true rfl) d1 hf hPM ?_
  change W _ _ _ _ _ _ _ _ _ _ _ _ _ _ _ (F0 m (a + 4) _ [.int (m_X7_thrown u)])
  refine lv_iload hx hb d4 (lv_at hl 0 rfl) ?_
  refine lv_icmp_eq (tgt := a + 11) hx hb d6 (by omega) (fun _ => ?_) (fun h => absurd ek h)
  exact lv_goto (tgt := 1356) hx hb d11 ht (kk ls (lv_sub hl [1, 2, 3, 4, 5] rfl))
theorem lz_tailI (a : Nat) {off : Int} {r : Int32} {i k : Int32} (C0 : lw_At p s m meth c b L xs) (hG : cq_G D Y s) (hap : lz_ap (fun q => s.heap.size ≤ q) (lz_aM am)) (hf : cells ≤ room_1.cells ∧ slots ≤ room_1.slots) (hPM : va_P D vwCl (cl_mdl Y am u) H) (ek : m_X7_thrown u = k) (hPC : va_P D vwCl (lz_C Y o0 ast ald ahi act acd bo st ld hi ct cd fo) H) (er : k = 0 → fo 0 = r.toInt64) (hl : lv_has ls 7 [(6, .int r), (5, .int k), (0, .ref b), (1, .ref o0), (2, .ref (am 0)), (3, .ref bo), (4, .int i)])
    (d0 : decode code a = .ok (.aload_n 2, 1)) (d1 : decode code (a + 1) = .ok (.invokevirtual 83, 3)) (d4 : decode code (a + 4) = .ok (.iload 5, 2)) (d6 : decode code (a + 6) = .ok (.if_icmp .eq 5, 3)) (d11 : decode code (a + 11) = .ok (.iload 5, 2)) (d13 : decode code (a + 13) = .ok (.ifCond .ne 15, 3)) (d16 : decode code (a + 16) = .ok (.aload_n 3, 1)) (d17 : decode code (a + 17) = .ok (.iconst 0, 1)) (d18 : decode code (a + 18) = .ok (.laload, 1)) (d19 : decode code (a + 19) = .ok (.iload 6, 2)) (d21 : decode code (a + 21) = .ok (.i2l, 1)) (d22 : decode code (a + 22) = .ok (.lcmp, 1)) (d23 : decode code (a + 23) = .ok (.ifCond .eq 5, 3)) (d28 : decode code (a + 28) = .ok (.goto off, 3)) (ht : ((a + 28 : Nat) : Int) + off = ((1356 : Nat) : Int))
    (kk : ∀ ls : Array Slot, lv_has ls 7 [(0, .ref b), (1, .ref o0), (2, .ref (am 0)), (3, .ref bo), (4, .int i)] → W p l e room_1 s m #[Value.ref b] below meth c H locs cells slots Q (F0 m 1356 ls [])) : W p l e room_1 s m #[Value.ref b] below meth c H locs cells slots Q (F0 m a ls []) := by
  obtain ⟨hx, hb, -⟩ := id C0
  refine lv_aload_n hx hb d0 rfl (lv_at hl 4 rfl) ?_
  obtain ⟨fs, hfs⟩ := lz_hM (Y := Y) (am := am) (u := u)
  refine lz_callR (pc := a + 1) (W0 := cl_mdl Y am u) (As := []) (rest := []) C0 hG hap lz_eM (ct_X7_thrown l D Y am u) gL_law_X7_thrown rfl rfl rfl (by decide +kernel) ⟨Nat.le_of_ble_eq_true rfl, Nat.le_of_ble_eq_true rfl⟩ (qc := (RX7, TX7, 25)) rfl hfs rfl rfl hl.1 rfl (Nat.le_of_ble_eq_true rfl) d1 hf hPM ?_
  change W _ _ _ _ _ _ _ _ _ _ _ _ _ _ _ (F0 m (a + 4) _ [.int (m_X7_thrown u)])
  refine lv_iload hx hb d4 (lv_at hl 1 rfl) ?_
  refine lv_icmp_eq (tgt := a + 11) hx hb d6 (by omega) (fun _ => ?_) (fun h => absurd ek h)
  have hgo := lv_goto (tgt := 1356) (rest := []) (Q := Q) hx hb d28 ht (kk ls (lv_sub hl [2, 3, 4, 5, 6] rfl))
  refine lv_iload hx hb d11 (lv_at hl 1 rfl) ?_
  refine lv_if_ne (tgt := a + 28) hx hb d13 (by omega) (fun _ => hgo) (fun h0 => ?_)
  have ek0 : k = 0 := h0
  refine lv_aload_n hx hb d16 rfl (lv_at hl 5 rfl) ?_
  refine lv_iconst (v := 0) hx hb d17 (by decide) ?_
  refine va_lald hx hb hG.1 hPC 58 2 rfl rfl (i := 0) (inb_in (by decide)) d18 ?_
  refine lv_iload hx hb d19 (lv_at hl 0 rfl) ?_
  refine lv_i2l hx hb d21 rfl ?_
  refine W.lcmp hx hb d22 ?_
  have e9 : lg_cmp (fo (0 : Int32).toNatClampNeg) r.toInt64 = 0 := by
    have e8 : fo (0 : Int32).toNatClampNeg = r.toInt64 := er ek0
    rw [e8]; exact lz_cmp0
  rw [e9]
  exact lv_if_eq (tgt := a + 28) hx hb d23 (by omega) (fun _ => hgo) (fun h => absurd rfl h)
theorem lz_tailZ (a : Nat) {off : Int} {r : Int32} {i k : Int32} (C0 : lw_At p s m meth c b L xs) (hG : cq_G D Y s) (hap : lz_ap (fun q => s.heap.size ≤ q) (lz_aM am)) (hf : cells ≤ room_1.cells ∧ slots ≤ room_1.slots) (hPM : va_P D vwCl (cl_mdl Y am u) H) (ek : m_X7_thrown u = k) (hPC : va_P D vwCl (lz_C Y o0 ast ald ahi act acd bo st ld hi ct cd fo) H) (er : k = 0 → fo 0 = if r = 0 then 0 else 1) (hl : lv_has ls 7 [(6, .int r), (5, .int k), (0, .ref b), (1, .ref o0), (2, .ref (am 0)), (3, .ref bo), (4, .int i)])
    (d0 : decode code a = .ok (.aload_n 2, 1)) (d1 : decode code (a + 1) = .ok (.invokevirtual 83, 3)) (d4 : decode code (a + 4) = .ok (.iload 5, 2)) (d6 : decode code (a + 6) = .ok (.if_icmp .eq 5, 3)) (d11 : decode code (a + 11) = .ok (.iload 5, 2)) (d13 : decode code (a + 13) = .ok (.ifCond .ne 22, 3)) (d16 : decode code (a + 16) = .ok (.aload_n 3, 1)) (d17 : decode code (a + 17) = .ok (.iconst 0, 1)) (d18 : decode code (a + 18) = .ok (.laload, 1)) (d19 : decode code (a + 19) = .ok (.iload 6, 2)) (d21 : decode code (a + 21) = .ok (.ifCond .eq 7, 3)) (d24 : decode code (a + 24) = .ok (.lconst 1, 1)) (d25 : decode code (a + 25) = .ok (.goto 4, 3)) (d28 : decode code (a + 28) = .ok (.lconst 0, 1)) (d29 : decode code (a + 29) = .ok (.lcmp, 1)) (d30 : decode code (a + 30) = .ok (.ifCond .eq 5, 3)) (d35 : decode code (a + 35) = .ok (.goto off, 3)) (ht : ((a + 35 : Nat) : Int) + off = ((1356 : Nat) : Int))
    (kk : ∀ ls : Array Slot, lv_has ls 7 [(0, .ref b), (1, .ref o0), (2, .ref (am 0)), (3, .ref bo), (4, .int i)] → W p l e room_1 s m #[Value.ref b] below meth c H locs cells slots Q (F0 m 1356 ls [])) : W p l e room_1 s m #[Value.ref b] below meth c H locs cells slots Q (F0 m a ls []) := by
  obtain ⟨hx, hb, -⟩ := id C0
  refine lv_aload_n hx hb d0 rfl (lv_at hl 4 rfl) ?_
  obtain ⟨fs, hfs⟩ := lz_hM (Y := Y) (am := am) (u := u)
  refine lz_callR (pc := a + 1) (W0 := cl_mdl Y am u) (As := []) (rest := []) C0 hG hap lz_eM (ct_X7_thrown l D Y am u) gL_law_X7_thrown rfl rfl rfl (by decide +kernel) ⟨Nat.le_of_ble_eq_true rfl, Nat.le_of_ble_eq_true rfl⟩ (qc := (RX7, TX7, 25)) rfl hfs rfl rfl hl.1 rfl (Nat.le_of_ble_eq_true rfl) d1 hf hPM ?_
  change W _ _ _ _ _ _ _ _ _ _ _ _ _ _ _ (F0 m (a + 4) _ [.int (m_X7_thrown u)])
  refine lv_iload hx hb d4 (lv_at hl 1 rfl) ?_
  refine lv_icmp_eq (tgt := a + 11) hx hb d6 (by omega) (fun _ => ?_) (fun h => absurd ek h)
  have hgo := lv_goto (tgt := 1356) (rest := []) (Q := Q) hx hb d35 ht (kk ls (lv_sub hl [2, 3, 4, 5, 6] rfl))
  refine lv_iload hx hb d11 (lv_at hl 1 rfl) ?_
  refine lv_if_ne (tgt := a + 35) hx hb d13 (by omega) (fun _ => hgo) (fun h0 => ?_)
  have ek0 : k = 0 := h0
  have e8 : fo (0 : Int32).toNatClampNeg = if r = 0 then 0 else 1 := er ek0
  refine lv_aload_n hx hb d16 rfl (lv_at hl 5 rfl) ?_
  refine lv_iconst (v := 0) hx hb d17 (by decide) ?_
  refine va_lald hx hb hG.1 hPC 58 2 rfl rfl (i := 0) (inb_in (by decide)) d18 ?_
  rw [e8]
  refine lv_iload hx hb d19 (lv_at hl 0 rfl) ?_
  refine lv_if_eq (tgt := a + 28) hx hb d21 (by omega) (fun hz => ?_) (fun hz => ?_)
  · refine lv_lconst (v := 0) hx hb d28 (by decide) ?_
    refine W.lcmp hx hb d29 ?_
    rw [if_pos hz, lz_cmp0]
    exact lv_if_eq (tgt := a + 35) hx hb d30 (by omega) (fun _ => hgo) (fun h => absurd rfl h)
  · refine lv_lconst (v := 1) hx hb d24 (by decide) ?_
    refine lv_goto (tgt := a + 29) hx hb d25 (by omega) ?_
    refine W.lcmp hx hb d29 ?_
    rw [if_neg hz, lz_cmp0]
    exact lv_if_eq (tgt := a + 35) hx hb d30 (by omega) (fun _ => hgo) (fun h => absurd rfl h)
end TAILS
