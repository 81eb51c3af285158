/-! THE LAW'S BODY: its worlds, its rows -/
abbrev lz_K (Y : cq_Y) (o0 : Nat) (ast ald ahi act acd : Nat → Nat) (st : SetS) (ld : LodS) (hi : HisS) (ct cd : CatS) : va_W := cl_ldr o0 (ast 0) (ald 0) (ahi 0) (act 0) (acd 0) ++ (cl_set Y ast st ++ (cl_lod Y ald ld ++ (cl_his Y ahi hi ++ (cl_cat Y act ct ++ (cl_cat Y acd cd)))))
def lz_aK (o0 : Nat) (ast ald ahi act acd : Nat → Nat) : List Nat := [o0, ast 0, ast 1, ast 2, ast 3, ast 4, ast 5, ast 6, ald 0, ald 1, ald 2, ald 3, ald 4, ald 5, ald 6, ald 7, ald 8, ald 9, ald 10, ahi 0, ahi 1, ahi 2, ahi 3, ahi 4, ahi 5, ahi 6, ahi 7, ahi 8, act 0, act 1, act 2, act 3, act 4, act 5, act 6, act 7, act 8, act 9, act 10, act 11, act 12, act 13, act 14, acd 0, acd 1, acd 2, acd 3, acd 4, acd 5, acd 6, acd 7, acd 8, acd 9, acd 10, acd 11, acd 12, acd 13, acd 14]
set_option maxRecDepth 100000 in
theorem lz_eK {Y : cq_Y} {o0 : Nat} {ast ald ahi act acd : Nat → Nat} {st : SetS} {ld : LodS} {hi : HisS} {ct cd : CatS} : (lz_K Y o0 ast ald ahi act acd st ld hi ct cd).map (·.1) = lz_aK o0 ast ald ahi act acd := rfl
theorem lz_hK {Y : cq_Y} {o0 : Nat} {ast ald ahi act acd : Nat → Nat} {st : SetS} {ld : LodS} {hi : HisS} {ct cd : CatS} : ∃ fs : List Value, (lz_K Y o0 ast ald ahi act acd st ld hi ct cd)[0]? = some (o0, .inr (6, fs)) := ⟨_, rfl⟩
/-- the law's nine rows -/
abbrev qz_A (Y : cq_Y) (ar : Nat → Nat) (v : FL) (h e nn qq : FI) (l : FL) (bb t uu : FI) : va_W := [(ar 0, .inl (Y.2.2, 40, .inr (.inl v))), (ar 1, .inl (Y.1, 40, .inl h)), (ar 2, .inl (Y.1, 64, .inl e)), (ar 3, .inl (Y.1, 4, .inl nn)), (ar 4, .inl (Y.1, 12, .inl qq)), (ar 5, .inl (Y.2.2, 40, .inr (.inl l))), (ar 6, .inl (Y.1, 40, .inl bb)), (ar 7, .inl (Y.1, 40, .inl t)), (ar 8, .inl (Y.1, 1, .inl uu))]
def qz_aA (ar : Nat → Nat) : List Nat := [ar 0, ar 1, ar 2, ar 3, ar 4, ar 5, ar 6, ar 7, ar 8]
theorem qz_eA {Y : cq_Y} {ar : Nat → Nat} {v l : FL} {h e nn qq bb t uu : FI} : (qz_A Y ar v h e nn qq l bb t uu).map (·.1) = qz_aA ar := rfl
/-- what holds through the law's loop -/
def qz_X (p : Program) (l : Launch) (s : State) (m : MethodId) (meth : Method) (c : Code) (b L : Nat) (xs : Nat → Int32) (D : va_G) (Y : cq_Y) (o0 : Nat) (ast ald ahi act acd ar : Nat → Nat) : Prop :=
  lw_At p s m meth c b L xs ∧ l.stackTraces = false ∧ cq_G D Y s ∧ lz_B s ∧ cq_NC s ∧ lz_ap (fun q => s.heap.size ≤ q) (qz_aA ar ++ lz_aK o0 ast ald ahi act acd)
theorem lz_ap.join {A : Nat → Prop} {a b : List Nat} (ha : lz_ap A a) (hb : lz_ap A b) (hd : ∀ x ∈ b, x ∉ a) : lz_ap A (a ++ b) := by
  have split : ∀ (i x : Nat), (a ++ b)[i]? = some x → (i < a.length ∧ a[i]? = some x) ∨ (a.length ≤ i ∧ b[i - a.length]? = some x) := fun i x hi => by
    by_cases hl : i < a.length
    · rw [List.getElem?_append_left hl] at hi; exact Or.inl ⟨hl, hi⟩
    · rw [List.getElem?_append_right (by omega)] at hi; exact Or.inr ⟨by omega, hi⟩
  refine ⟨fun i j x hi hj => ?_, fun x hx => (List.mem_append.mp hx).elim (ha.2 x) (hb.2 x)⟩
  rcases split i x hi with ⟨h1, h2⟩ | ⟨h1, h2⟩
  · rcases split j x hj with ⟨h3, h4⟩ | ⟨h3, h4⟩
    · exact ha.1 i j x h2 h4
    · exact absurd (List.mem_of_getElem? h2) (hd x (List.mem_of_getElem? h4))
  · rcases split j x hj with ⟨h3, h4⟩ | ⟨h3, h4⟩
    · exact absurd (List.mem_of_getElem? h4) (hd x (List.mem_of_getElem? h2))
    · have := hb.1 _ _ x h2 h4
      omega
theorem lz_ap.swap {A : Nat → Prop} {a b : List Nat} (h : lz_ap A (a ++ b)) : (∀ x ∈ a, x ∉ b) := fun x h1 h2 => h.app.2.2 x h2 h1
theorem qz_f1 {c k : Nat} (h : c + 2000 ≤ 600130) (hk : k ≤ 2000) : c + k ≤ room_1.cells := show c + k ≤ 600130 by omega
theorem qz_f2 {c k : Nat} (h : c + 12000 ≤ 7301080) (hk : k ≤ 12000) : c + k ≤ room_1.slots := show c + k ≤ 7301080 by omega
theorem qz_nn {x : Int32} {c : Int32} (hc : ¬ c < 0) : ¬ (x &&& c) < 0 := by
  intro h
  have h1 : (x &&& c).toInt < 0 := by
    have := Int32.lt_iff_toInt_lt.mp h
    simpa using this
  have h2 : ¬ c.toInt < 0 := fun h9 => hc (Int32.lt_iff_toInt_lt.mpr (by simpa using h9))
  have e1 : (x &&& c).toBitVec.msb = true := by
    rw [BitVec.msb_eq_toInt]
    exact decide_eq_true h1
  have e2 : c.toBitVec.msb = false := by
    rw [BitVec.msb_eq_toInt]
    exact decide_eq_false h2
  rw [Int32.toBitVec_and, BitVec.msb_and, e2, Bool.and_false] at e1
  cases e1
section QZ
variable {p : Program} {l : Launch} {e : Env} {R : Room} {s : State} {m : MethodId} {args : Array Value} {below : List Frame} {meth : Method} {c : Code} {H : Heap} {locs : List Loc} {cells slots mc ms : Nat} {Q : State → Prop}
variable {pc : Nat} {ls : Array Slot} {rest st0 : List Value} {D : va_G} {Y : cq_Y} {W0 W1 Wr wl wl1 : va_W} {v : Option Value} {A : Nat → Prop} {H0 : Heap} {cc : ByteArray} {aA aK : List Nat}
theorem qz_apD {w : va_W} (hap : lz_ap A (aA ++ aK)) (e0 : w.map (·.1) = aA) : va_D A w := hap.app.1.D e0
/-- a number is stored in one of the law's rows -/
theorem qz_ist (hx : p.tables.exec = Jvm.exec) (hb : c.code = cc) (hK : va_K D vwCl (cq_ty Y) s) (hap : lz_ap A (aA ++ aK)) (e0 : wl.map (·.1) = aA) (e1 : Wr.map (·.1) = aK) (hP : va_P D vwCl wl H) (hPK : va_P D vwCl Wr H) (hS : va_S A H0 H locs) (q0 t0 : Nat) {a : Nat} {cA : ClassId} {n : Nat} {f : Nat → Int32} (ha : wl[q0]? = some (a, .inl (cA, n, .inl f))) (ht : (cq_ty Y)[t0]? = some (cA, .int)) {i x : Int32} (hin : vp_in i n) (hdg : decode cc pc = .ok (.iastore, 1))
    (kk : ∀ (H1 : Heap) (locs1 : List Loc), va_P D vwCl (wl.set q0 (a, .inl (cA, n, .inl (upd f i.toNatClampNeg x)))) H1 → va_P D vwCl Wr H1 → va_S A H0 H1 locs1 → W p l e R s m args below meth c H1 locs1 cells slots Q (F0 m (pc + 1) ls rest)) : W p l e R s m args below meth c H locs cells slots Q (F0 m pc ls (.int x :: .int i :: .ref a :: rest)) := by
  have hD : va_D A (wl ++ Wr) := hap.D (by rw [List.map_append, e0, e1])
  have hq : q0 < wl.length := (List.getElem?_eq_some_iff.mp ha).1
  refine va_iast (ws := wl ++ Wr) hx hb hK (lz_paP hP hPK) hD hS q0 t0 (by rw [List.getElem?_append_left hq]; exact ha) ht hin hdg (fun H1 locs1 hP1 hD1 hS1 => ?_)
  rw [List.set_append_left _ _ hq] at hP1
  obtain ⟨hP2, hP3⟩ := lz_apP hP1
  exact kk H1 locs1 hP2 hP3 hS1
theorem qz_lst (hx : p.tables.exec = Jvm.exec) (hb : c.code = cc) (hK : va_K D vwCl (cq_ty Y) s) (hap : lz_ap A (aA ++ aK)) (e0 : wl.map (·.1) = aA) (e1 : Wr.map (·.1) = aK) (hP : va_P D vwCl wl H) (hPK : va_P D vwCl Wr H) (hS : va_S A H0 H locs) (q0 t0 : Nat) {a : Nat} {cA : ClassId} {n : Nat} {f : Nat → Int64} (ha : wl[q0]? = some (a, .inl (cA, n, .inr (.inl f)))) (ht : (cq_ty Y)[t0]? = some (cA, .long)) {i : Int32} {x : Int64} (hin : vp_in i n) (hdg : decode cc pc = .ok (.lastore, 1))
    (kk : ∀ (H1 : Heap) (locs1 : List Loc), va_P D vwCl (wl.set q0 (a, .inl (cA, n, .inr (.inl (vp_updL f i.toNatClampNeg x))))) H1 → va_P D vwCl Wr H1 → va_S A H0 H1 locs1 → W p l e R s m args below meth c H1 locs1 cells slots Q (F0 m (pc + 1) ls rest)) : W p l e R s m args below meth c H locs cells slots Q (F0 m pc ls (.long x :: .int i :: .ref a :: rest)) := by
  have hD : va_D A (wl ++ Wr) := hap.D (by rw [List.map_append, e0, e1])
  have hq : q0 < wl.length := (List.getElem?_eq_some_iff.mp ha).1
  refine va_last (ws := wl ++ Wr) hx hb hK (lz_paP hP hPK) hD hS q0 t0 (by rw [List.getElem?_append_left hq]; exact ha) ht hin hdg (fun H1 locs1 hP1 hD1 hS1 => ?_)
  rw [List.set_append_left _ _ hq] at hP1
  obtain ⟨hP2, hP3⟩ := lz_apP hP1
  exact kk H1 locs1 hP2 hP3 hS1
variable {y : MethodName} {bytes : ByteArray} {maxL nL n index : Nat} {ret : Option FieldType} {ws ws' Ts : List Cond} {rm : Room} {As : List Value} {own C : String} {b0 q0 ci : Nat}
/-- a static call that writes some of the law's rows -/
theorem qz_WS (wl1 : va_W) (ps qs : List Nat) (S : CallFix p m c cc nL s args Ts own) (hM : cq_MW l y ws rm D Y W0 As v W1) (cw : CallB R s args own index y bytes maxL ret ws rm 0 0 n ∧ (Cond.static y).before args s = true) (hG : cq_G D Y s) (hap : lz_ap A (aA ++ aK)) (e0 : wl.map (·.1) = aA) (e1 : Wr.map (·.1) = aK) (hP : va_P D vwCl wl H) (hPK : va_P D vwCl Wr H) (hS : va_S A H0 H locs)
    (hps : ps.map (fun i => wl[i]?) = W0.map some) (hnd : va_nd ps = true) (hn1 : cq_new wl wl1 W1 ps qs) (had : W1.map (·.1) = W0.map (·.1))
    (hn : As.length = n) (hls : ls.size = nL) (hst : st0 = As.reverse ++ rest) (hroom : (rest.map fun v => v.category).sum ≤ 8) (hdg : decode cc pc = .ok (.invokestatic index, 3)) (hf : cells ≤ R.cells ∧ slots ≤ R.slots)
    (kk : ∀ (H1 : Heap) (locs1 : List Loc), va_P D vwCl wl1 H1 → va_P D vwCl Wr H1 → va_S A H0 H1 locs1 → W p l e R s m args below meth c H1 locs1 cells slots Q (F0 m (pc + 3) ls (v.toList ++ rest))) : W p l e R s m args below meth c H locs cells slots Q (F0 m pc ls st0) := by
  have hD : va_D A wl := qz_apD hap e0
  have hr : va_Run p l e R s m args below meth c H locs cells slots 0 0 (F0 m pc ls st0) rest (cq_W D v W0 W1 As.toArray) (cq_in W0) := va_runS S hM cw ⟨cq_P.blind, cq_pre hG hP hD ps hps hnd _⟩ rfl hn hls hst (lv_room hroom) hdg hf
  intro T hT X
  obtain ⟨v', st₀, t, T', L, h0, X', hL, e2, e3, ⟨hv, hp, hz, hk⟩, st⟩ := hr T hT X
  cases hv
  rw [h0] at hz hk
  have hsub := cq_sub_in hD hps
  have hdis : ∀ q ∈ Wr, ¬ cq_in W0 q.1 := fun q hq h9 => by
    obtain ⟨x, hx9, e9⟩ := h9
    obtain ⟨j, hj⟩ := List.getElem?_of_mem hx9
    obtain ⟨i, -, hi2⟩ := cq_key hps j x hj
    have h1 : q.1 ∈ aA := by rw [← e0, ← e9]; exact List.mem_map.mpr ⟨x, List.mem_of_getElem? hi2, rfl⟩
    exact hap.app.2.2 q.1 (by rw [← e1]; exact List.mem_map.mpr ⟨q, hq, rfl⟩) h1
  obtain ⟨t2, a1, b1⟩ := kk T'.heap (locs ++ L) (cq_put_P hn1 hP hD hps had (fun q h1 h2 => by rw [e2]; exact hk q h1 h2) (by rw [e2]; exact hp)) (fun k q hq => (hPK k q hq).kept (by rw [e2]; exact hk q.1 (hPK k q hq).lt (hdis q (List.mem_of_getElem? hq))))
    ⟨Nat.le_trans hS.1 (by rw [e2]; exact hz), fun q h1 h2 => by rw [e2, hk q (Nat.lt_of_lt_of_le h1 hS.1) (fun z => h2 (hsub q z))]; exact hS.2.1 q h1 h2, fun q hq => by
      rcases List.mem_append.mp hq with h | h
      · exact hS.2.2 q h
      · exact hsub _ (hL q h)⟩ T' rfl X'
  exact ⟨t2, st t2 a1, b1⟩
/-- behind a call that may throw, and doesn't -/
theorem qz_afX {α : Type} {tot : String ⊕ α} {vv : α → Option Value} {w1 : α → va_W} {a : Array Value} (r : α) (htot : tot = .inr r) (hr : vx_Run p l e R s m args below meth c H locs cells slots mc ms (F0 m pc ls st0) rest (cq_QX tot (fun r => cq_W D (vv r) W0 (w1 r)) a) (cq_XX tot) (cq_in W0)) (hPr : va_P D vwCl Wr H) (hdis : ∀ q ∈ Wr, ¬ cq_in W0 q.1) (hsub : ∀ q, cq_in W0 q → A q) (hS : va_S A H0 H locs)
    (kk : ∀ (H1 : Heap) (locs1 : List Loc), va_P D vwCl (w1 r) H1 → va_P D vwCl Wr H1 → va_S A H0 H1 locs1 → W p l e R s m args below meth c H1 locs1 (cells + mc) (slots + ms) Q (F0 m (pc + 3) ls ((vv r).toList ++ rest))) : W p l e R s m args below meth c H locs cells slots Q (F0 m pc ls st0) := by
  intro T hT X
  rcases hr T hT X with ⟨v', st₀, t, T', L, h0, X', hL, e1, e2, ⟨r', htr, hv, hp, hz, hk⟩, st⟩ | ⟨q, st₀, t, T', L, E, ce, h0, X', hL, e1, e2, ⟨hte, -⟩, -⟩
  · cases Sum.inr.inj (htr.symm.trans htot)
    cases hv
    rw [h0] at hz hk
    obtain ⟨t2, a1, b1⟩ := kk T'.heap (locs ++ L) (by rw [e1]; exact hp) (fun k q hq => (hPr k q hq).kept (by rw [e1]; exact hk q.1 (hPr k q hq).lt (hdis q (List.mem_of_getElem? hq))))
      ⟨Nat.le_trans hS.1 (by rw [e1]; exact hz), fun q h1 h2 => by rw [e1, hk q (Nat.lt_of_lt_of_le h1 hS.1) (fun z => h2 (hsub q z))]; exact hS.2.1 q h1 h2, fun q hq => by
        rcases List.mem_append.mp hq with h | h
        · exact hS.2.2 q h
        · exact hsub _ (hL q h)⟩ T' rfl X'
    exact ⟨t2, st t2 a1, b1⟩
  · rw [htot] at hte; cases hte
end QZ
section QC
variable {p : Program} {l : Launch} {e : Env} {s : State} {m : MethodId} {below : List Frame} {meth : Method} {c : Code} {H : Heap} {locs : List Loc} {cells slots mc ms : Nat} {Q : State → Prop}
variable {pc : Nat} {ls : Array Slot} {rest st0 : List Value} {D : va_G} {Y : cq_Y} {W0 Wr : va_W} {v : Option Value} {b L : Nat} {xs : Nat → Int32} {a0 ar9 : List Nat}
variable {y : MethodName} {bytes : ByteArray} {maxL n index : Nat} {ret : Option FieldType} {ws ws' : List Cond} {rm : Room} {As : List Value} {C : String} {b0 q0 ci : Nat}
/-- a static call of a method without handlers, that may throw, and doesn't -/
theorem qz_callX {α : Type} {tot : String ⊕ α} {vv : α → Option Value} {w1 : α → va_W} (r : α) (htot : tot = .inr r) (C0 : lw_At p s m meth c b L xs) (hG : cq_G D Y s) (hB : lz_B s) (hap : lz_ap (fun q => s.heap.size ≤ q) a0) (e0 : W0.map (·.1) = a0) (er : Wr.map (·.1) = ar9) (hdis : ∀ x ∈ ar9, x ∉ a0) (hM : cq_MXW l y ws rm D Y W0 As tot vv w1 mc ms) (hg : GoodIn wsL_law (va_wsS RL index y ws)) (hw : ws = Cond.code y bytes maxL ret :: ws') (hrc : rm.cells = mc) (hrs : rm.slots = ms)
    (hd : y.cls ≠ "java/lang/invoke/MethodHandle" ∧ y.cls ≠ "java/lang/invoke/VarHandle" ∧ (parseMethodDescriptor y.desc).map (fun d => d.parameters.length) = some n) (hR : rm.frames + 1 ≤ room_1.frames ∧ 8 + (maxL + 11) + rm.locals ≤ room_1.locals)
    (hn : As.length = n) (hls : ls.size = 23) (hst : st0 = As.reverse ++ rest) (hroom : (rest.map fun v => v.category).sum ≤ 8) (hdg : decode code pc = .ok (.invokestatic index, 3)) (hf : cells + mc ≤ room_1.cells ∧ slots + ms ≤ room_1.slots)
    (hP0 : va_P D vwCl W0 H) (hPr : va_P D vwCl Wr H) (hS : va_S (fun q => s.heap.size ≤ q) s.heap H locs)
    (kk : ∀ (H1 : Heap) (locs1 : List Loc), va_P D vwCl (w1 r) H1 → va_P D vwCl Wr H1 → va_S (fun q => s.heap.size ≤ q) s.heap H1 locs1 → W p l e room_1 s m #[Value.ref b] below meth c H1 locs1 (cells + mc) (slots + ms) Q (F0 m (pc + 3) ls ((vv r).toList ++ rest))) : W p l e room_1 s m #[Value.ref b] below meth c H locs cells slots Q (F0 m pc ls st0) := by
  obtain ⟨hx, hb, hr, hml, hown, hts, hX, hbl, hlocks, hgv⟩ := C0
  have hown : s.vm.findClass RL = some m.cls := hown
  have hts' : ∀ w ∈ wsL_law, w.before #[Value.ref b] s = true := fun w h => hts w (wsL_law_in w h)
  have hin : ∀ q, cq_in W0 q → s.heap.size ≤ q := fun q hq => hap.2 q (by rw [← e0]; exact lz_in hq)
  exact qz_afX (A := fun q => s.heap.size ≤ q) (H0 := s.heap) (W0 := W0) (Wr := Wr) r htot (vx_runS ⟨hx, hb, hml, hown, hts'⟩ hM (va_cwS n hts' hg hw hrc hrs hd hR) ⟨cq_PX.blind, fun U hU hW => ⟨rfl, by rw [hU]; exact hP0, hG.warm hW, (hap.D e0).weaken (fun _ _ _ _ => trivial), by rw [hU]; exact (lz_EC hB hS hin).warm hW⟩⟩ rfl hn hls hst (lv_room hroom) hdg hf) hPr (fun q hq h => hdis q.1 (by rw [← er]; exact List.mem_map.mpr ⟨q, hq, rfl⟩) (by rw [← e0]; exact lz_in h)) hin hS kk
/-- a virtual one -/
theorem qz_callV {α : Type} {tot : String ⊕ α} {vv : α → Option Value} {w1 : α → va_W} (r : α) (htot : tot = .inr r) (C0 : lw_At p s m meth c b L xs) (hG : cq_G D Y s) (hB : lz_B s) (hap : lz_ap (fun q => s.heap.size ≤ q) a0) (e0 : W0.map (·.1) = a0) (er : Wr.map (·.1) = ar9) (hdis : ∀ x ∈ ar9, x ∉ a0) (hM : cq_MXW l y ws rm D Y W0 (.ref b0 :: As) tot vv w1 mc ms) (hg : GoodIn wsL_law (wsV RL index C y ws)) (hw : ws = Cond.code y bytes maxL ret :: ws') (hrc : rm.cells = mc) (hrs : rm.slots = ms)
    (hd : y.cls = C ∧ y.cls ≠ "java/lang/invoke/MethodHandle" ∧ y.cls ≠ "java/lang/invoke/VarHandle" ∧ (parseMethodDescriptor y.desc).map (fun d => d.parameters.length) = some n) (hR : rm.frames + 1 ≤ room_1.frames ∧ 8 + (maxL + 11) + rm.locals ≤ room_1.locals)
    {fs : List Value} {qc : vw_C} (hc : vwCl[ci]? = some qc) (he : W0[q0]? = some (b0, .inr (ci, fs))) (hC : qc.1 = C)
    (hn : As.length = n) (hls : ls.size = 23) (hst : st0 = As.reverse ++ .ref b0 :: rest) (hroom : (rest.map fun v => v.category).sum ≤ 8) (hdg : decode code pc = .ok (.invokevirtual index, 3)) (hf : cells + mc ≤ room_1.cells ∧ slots + ms ≤ room_1.slots)
    (hP0 : va_P D vwCl W0 H) (hPr : va_P D vwCl Wr H) (hS : va_S (fun q => s.heap.size ≤ q) s.heap H locs)
    (kk : ∀ (H1 : Heap) (locs1 : List Loc), va_P D vwCl (w1 r) H1 → va_P D vwCl Wr H1 → va_S (fun q => s.heap.size ≤ q) s.heap H1 locs1 → W p l e room_1 s m #[Value.ref b] below meth c H1 locs1 (cells + mc) (slots + ms) Q (F0 m (pc + 3) ls ((vv r).toList ++ rest))) : W p l e room_1 s m #[Value.ref b] below meth c H locs cells slots Q (F0 m pc ls st0) := by
  obtain ⟨hx, hb, hr, hml, hown, hts, hX, hbl, hlocks, hgv⟩ := C0
  have hown : s.vm.findClass RL = some m.cls := hown
  have hts' : ∀ w ∈ wsL_law, w.before #[Value.ref b] s = true := fun w h => hts w (wsL_law_in w h)
  have hin : ∀ q, cq_in W0 q → s.heap.size ≤ q := fun q hq => hap.2 q (by rw [← e0]; exact lz_in hq)
  exact qz_afX (A := fun q => s.heap.size ≤ q) (H0 := s.heap) (W0 := W0) (Wr := Wr) r htot (vx_runV ⟨hx, hb, hml, hown, hts'⟩ hM (cwV n hts' hg hw hrc hrs hd hR) ⟨cq_PX.blind, by rw [← hC]; exact va_recv hG.1 hP0 hc he, fun U hU hW => ⟨rfl, by rw [hU]; exact hP0, hG.warm hW, (hap.D e0).weaken (fun _ _ _ _ => trivial), by rw [hU]; exact (lz_EC hB hS hin).warm hW⟩⟩ rfl hn hls hst (lv_room hroom) hdg hf) hPr (fun q hq h => hdis q.1 (by rw [← er]; exact List.mem_map.mpr ⟨q, hq, rfl⟩) (by rw [← e0]; exact lz_in h)) hin hS kk
end QC
