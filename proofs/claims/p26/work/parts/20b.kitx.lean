/-! METHODS THAT MAY THROW: what a throw needs beside the method's own words; contracts with an answer or an exception's class -/
def cq_nms : List String := ["java/lang/RuntimeException", "java/lang/Exception"]
def cq_bd : List Cond := [.declares (Bundle.initS "java/lang/RuntimeException"), .declares (Bundle.initS "java/lang/Exception"), .declares (Bundle.initS Bundle.tN), .castable "java/lang/IndexOutOfBoundsException" "java/lang/IndexOutOfBoundsException", .castable "java/lang/IllegalArgumentException" "java/lang/IllegalArgumentException", .castable "java/lang/IllegalStateException" "java/lang/IllegalStateException"]
def cq_strs : List (Nat × String) := [(172, "no such number"), (175, "a value out of range"), (179, "something was loaded"), (69, "a key stands twice in the order"), (83, "no more batches"), (107, "no batch was begun"), (109, "no more loads"), (177, "no such record there"), (184, "no more acts"), (136, "a record is not merged into itself"), (144, "the batch is so already")]
def cq_B (U : State) : Prop := ∀ w ∈ cq_bd, va_Nw w U
theorem cq_B.alike {u U : State} (hvm : u.vm.Alike U.vm) (h : cq_B u) : cq_B U := by
  have tr : ∀ {c : Cond}, c.onTables = true → c.before #[] (u.setVm U.vm) = true → c.before #[] U = true := by
    intro c hc h
    have e := Cond.onTables_vm (A := #[]) (A' := #[]) (U := u) (U' := U) U.vm c hc
    have hU : U.setVm U.vm = U := rfl
    rw [hU] at e
    rw [← e]
    exact h
  intro w hw
  have h1 : w.before #[] u = true := h w hw
  simp only [cq_bd, List.mem_cons, List.not_mem_nil, or_false] at hw
  rcases hw with rfl | rfl | rfl | rfl | rfl | rfl
  · exact tr rfl (by rw [Cond.declares_setVm hvm]; exact h1)
  · exact tr rfl (by rw [Cond.declares_setVm hvm]; exact h1)
  · exact tr rfl (by rw [Cond.declares_setVm hvm]; exact h1)
  · exact tr rfl (by rw [Cond.castable_setVm hvm]; exact h1)
  · exact tr rfl (by rw [Cond.castable_setVm hvm]; exact h1)
  · exact tr rfl (by rw [Cond.castable_setVm hvm]; exact h1)
def cq_T (sa : Nat → Nat) (U : State) : Prop := ∀ (i : Nat) (t : Nat × String), cq_strs[i]? = some t → vk_R RX6 t.1 t.2 (sa i) U
/-- what throws need, for a method whose world is W0 -/
def cq_EC (W0 : va_W) (U : State) (H : Heap) : Prop := cq_B U ∧ (∃ sa : Nat → Nat, cq_T sa U) ∧ vx_Zq Bundle.tN "UNASSIGNED_STACK" Bundle.steD (cq_in W0) U H ∧ vx_Zq Bundle.tN "SUPPRESSED_SENTINEL" Bundle.listD (cq_in W0) U H
theorem cq_EC.warm {W0 : va_W} {s U : State} {H : Heap} (hW : s.WarmedH U.vm) (h : cq_EC W0 s H) : cq_EC W0 U H :=
  ⟨h.1.alike hW.alike, h.2.1.elim fun sa k => ⟨sa, fun i t ht => vk_R.warm hW (k i t ht)⟩, vx_Zq.moved hW.alike h.2.2.1, vx_Zq.moved hW.alike h.2.2.2⟩
theorem cq_EC.calling {W0 : va_W} {U : State} {g : JFrame} {mk : MethodId} {a : Array Value} (h : cq_EC W0 U U.heap) : cq_EC W0 (U.calling g mk a) (U.calling g mk a).heap :=
  ⟨h.1.alike (u := U) (U := U.calling g mk a) (Vm.Alike.refl U.vm), h.2.1.elim fun sa k => ⟨sa, fun i t ht => vk_R.same (u := U) (U := U.calling g mk a) rfl (k i t ht)⟩, vx_Zq.moved (u := U) (U := U.calling g mk a) (Vm.Alike.refl U.vm) h.2.2.1, vx_Zq.moved (u := U) (U := U.calling g mk a) (Vm.Alike.refl U.vm) h.2.2.2⟩
theorem cq_EC.sub {W0 wl : va_W} {s : State} {H : Heap} {A : Nat → Prop} {ps : List Nat} (h : cq_EC wl s H) (hps : ps.map (fun i => wl[i]?) = W0.map some) : cq_EC W0 s H := by
  have hAB : ∀ q, cq_in W0 q → cq_in wl q := by
    rintro q ⟨x, hx, rfl⟩
    obtain ⟨j, hj⟩ := List.getElem?_of_mem hx
    obtain ⟨i, -, hi2⟩ := cq_key hps j x hj
    exact ⟨x, List.mem_of_getElem? hi2, rfl⟩
  exact ⟨h.1, h.2.1, vx_Zq.narrow h.2.2.1 hAB, vx_Zq.narrow h.2.2.2 hAB⟩
theorem cq_EC.heap {wl wl1 : va_W} {s : State} {H0 H : Heap} {locs : List Loc} (h : cq_EC wl s H0) (hS : va_S (cq_in wl) H0 H locs) (ha : ∀ q, cq_in wl1 q → cq_in wl q) : cq_EC wl1 s H := by
  have hk : ∀ a : Nat, a < H0.size → ¬ cq_in wl a → H[a]? = H0[a]? := hS.2.1
  exact ⟨h.1, h.2.1, vx_Zq.narrow (vx_Zq.kept h.2.2.1 hk) ha, vx_Zq.narrow (vx_Zq.kept h.2.2.2 hk) ha⟩
/-- an answer, or the class of what is thrown -/
def xb {α β : Type} (x : String ⊕ α) (f : α → String ⊕ β) : String ⊕ β := match x with
  | .inl E => .inl E
  | .inr a => f a
theorem xb_l {α β : Type} {E : String} {f : α → String ⊕ β} : xb (.inl E) f = .inl E := rfl
theorem xb_r {α β : Type} {a : α} {f : α → String ⊕ β} : xb (.inr a) f = f a := rfl
def cq_QX {α : Type} (tot : String ⊕ α) (Q0 : α → Array Value → State → Outcome → State → Prop) : Array Value → State → Outcome → State → Prop := fun a st oc t => ∃ r : α, tot = .inr r ∧ Q0 r a st oc t
def cq_XX {α : Type} (tot : String ⊕ α) : String → State → State → Prop := fun E st t => tot = .inl E ∧ va_F (fun _ => False) st t
def cq_PX (D : va_G) (Y : cq_Y) (W0 : va_W) (av : List Value) : Array Value → State → Prop := va_Pc av (fun U => va_P D vwCl W0 U.heap ∧ cq_G D Y U ∧ va_D (fun _ => True) W0 ∧ cq_EC W0 U U.heap)
theorem cq_PX.blind {D : va_G} {Y : cq_Y} {W0 : va_W} {av : List Value} : FrameBlind (cq_PX D Y W0 av) := fun a U g mk q => ⟨q.1, q.2.1, q.2.2.1.calling, q.2.2.2.1, q.2.2.2.2.calling⟩
def cq_rx (f c s n : Nat) : Room := { frames := f, cells := c, slots := s, locals := n }
def cq_MXR {α : Type} (l : Launch) (y : MethodName) (ws : List Cond) (rm : Room) (D : va_G) (Y : cq_Y) (W0 : va_W) (av : List Value) (tot : String ⊕ α) (v : α → Option Value) (mc ms : Nat) : Prop := vx_Met l y ws rm (cq_PX D Y W0 av) (cq_QX tot (fun r => cq_R (v r))) (cq_XX tot) mc ms (fun _ => False)
def cq_MXW {α : Type} (l : Launch) (y : MethodName) (ws : List Cond) (rm : Room) (D : va_G) (Y : cq_Y) (W0 : va_W) (av : List Value) (tot : String ⊕ α) (v : α → Option Value) (W1 : α → va_W) (mc ms : Nat) : Prop := vx_Met l y ws rm (cq_PX D Y W0 av) (cq_QX tot (fun r => cq_W D (v r) W0 (W1 r))) (cq_XX tot) mc ms (cq_in W0)
section CQX
variable {p : Program} {l : Launch} {e : Env} {R : Room} {s : State} {m : MethodId} {args : Array Value} {below : List Frame} {meth : Method} {c : Code} {H : Heap} {locs : List Loc} {cells slots : Nat} {Q : State → Prop}
variable {y : MethodName} {bytes cc : ByteArray} {maxL nL n index pc mc ms mc0 ms0 : Nat} {ret : Option FieldType} {ws : List Cond} {rm : Room} {Ts : List Cond} {own C : String} {b : Addr} {As rest st0 : List Value} {ls : Array Slot}
variable {D : va_G} {Y : cq_Y} {W0 W1 wl : va_W} {A : Nat → Prop} {H0 : Heap} {α : Type} {tot : String ⊕ α} {v : α → Option Value}
/-- 'throw new E("text")' of the loader -/
theorem cq_thr {Qc : Array Value → State → Outcome → State → Prop} {free : Addr → Prop} (hx : p.tables.exec = Jvm.exec) (hb : c.code = cc) (hl0 : l.stackTraces = false) (hown : s.vm.findClass RX6 = some m.cls) (hts : ∀ w ∈ ws, w.before args s = true)
    (cls : String) (ik ic is i : Nat) (text : String) (hi : cq_strs[i]? = some (is, text)) (hfit : Bundle.fit cls = true ∧ ∀ n ∈ cq_nms, Bundle.fit n = true) (hk : Cond.classLink RX6 ik cls ∈ ws) (hini : Cond.initialized cls ∈ ws)
    (hat : ∀ w ∈ (vx_atS RX6 ic cls cq_nms).filter goodWord, w ∈ ws) (hbad : ∀ w ∈ (vx_atS RX6 ic cls cq_nms).filter (fun w => !goodWord w), w ∈ cq_bd) (hgood : ∀ w ∈ Cond.classLink RX6 ik cls :: Cond.initialized cls :: vx_atS RX6 ic cls cq_nms, vx_ot w = true)
    (hEC : cq_EC W0 s s.heap) (hsize : ls.size = c.maxLocals)
    (d0 : decode cc pc = .ok (.new ik, 3)) (d3 : decode cc (pc + 3) = .ok (.dup, 1)) (d4 : decode cc (pc + 4) = .ok (.ldc is, 2)) (d6 : decode cc (pc + 6) = .ok (.invokespecial ic, 3)) (d9 : decode cc (pc + 9) = .ok (.athrow, 1))
    (hT : ∀ x ∈ c.exceptionTable.toList, False) (hRf : 5 < R.frames) (hRl : 82 ≤ R.locals) (hRc : cells + 1 ≤ R.cells) (hRs : slots + 6 ≤ R.slots) (hlocks : meth.locks = false) (htot : tot = .inl cls) (hc : cells + 1 ≤ mc) (hs : slots + 6 ≤ ms) :
    W p l e R s m args below meth c s.heap [] cells slots (vx_MQ below Qc (cq_XX tot) args s mc ms free) (F0 m pc ls []) := by
  obtain ⟨hB, ⟨sa, hsa⟩, hU, hN⟩ := hEC
  exact vx_throwS (names := cq_nms) (A := cq_in W0) hx hb hl0 hown hfit.1 hfit.2 (hts _ hk) (hts _ hini) (hsa i (is, text) hi)
    (vx_hat (fun w hw => hts w (hat w hw)) hbad (fun w hw => by
      have h1 : va_Nw w s := hB w hw
      have h2 : w.onTables = true := by
        simp only [cq_bd, List.mem_cons, List.not_mem_nil, or_false] at hw
        rcases hw with rfl | rfl | rfl | rfl | rfl | rfl <;> rfl
      exact va_Nw.use h2 h1)) hgood hU hN va_S.rf hsize d0 d3 d4 d6 d9 (fun x hx => absurd (hT x hx) id) (by simpa [cq_nms] using hRf) (by simpa [cq_nms] using hRl) hRc hRs hlocks
    (fun t _ hz hk9 => ⟨htot, hz, fun q hq _ => hk9 q hq⟩) (fun _ h => by cases h) hc hs
theorem cq_preX (hG : cq_G D Y s) (hP : va_P D vwCl wl H) (hD : va_D A wl) (hEC : cq_EC wl s H) (ps : List Nat) (hps : ps.map (fun i => wl[i]?) = W0.map some) (hnd : va_nd ps = true) (av : List Value) :
    ∀ U : State, U.heap = H → s.WarmedH U.vm → cq_PX D Y W0 av av.toArray U := fun U hU hW => ⟨rfl, by rw [hU]; exact cq_sub_P hP hps, hG.warm hW, (hD.sub ps hnd hps).weaken (fun _ _ _ _ => trivial), by rw [hU]; exact (hEC.sub (A := A) hps).warm hW⟩
/-- behind a call that may throw, and writes nothing; a throw goes on to the caller -/
theorem cq_afterXR {Qc : Array Value → State → Outcome → State → Prop} {free : Addr → Prop} {β : Type} {T0 : String ⊕ β} {a : Array Value}
    (hr : vx_Run p l e R s m args below meth c s.heap [] cells slots mc ms (F0 m pc ls st0) rest (cq_QX tot (fun r => cq_R (v r)) a) (cq_XX tot) (fun _ => False)) (hT : ∀ x ∈ c.exceptionTable.toList, False) (hlocks : meth.locks = false)
    (hout : ∀ E : String, tot = .inl E → T0 = .inl E) (hc : cells + mc ≤ mc0) (hs : slots + ms ≤ ms0)
    (kk : ∀ r : α, tot = .inr r → W p l e R s m args below meth c s.heap [] (cells + mc) (slots + ms) (vx_MQ below Qc (cq_XX T0) args s mc0 ms0 free) (F0 m (pc + 3) ls ((v r).toList ++ rest))) :
    W p l e R s m args below meth c s.heap [] cells slots (vx_MQ below Qc (cq_XX T0) args s mc0 ms0 free) (F0 m pc ls st0) := by
  intro T hT9 X
  rcases hr T hT9 X with ⟨v', st₀, t, T', L, h0, X', hL, e1, e2, ⟨r, htr, hv, hh⟩, st⟩ | ⟨q, st₀, t, T', L, E, ce, h0, X', hL, e1, e2, ⟨hte, hF⟩, hce, hcv, hcl, st⟩
  · cases hv
    cases L with
    | cons q L => exact absurd (hL q List.mem_cons_self) id
    | nil =>
      rw [List.append_nil] at X'
      obtain ⟨t2, a1, b1⟩ := kk r htr T' (by rw [e1, hh, h0]) X'
      exact ⟨t2, st t2 a1, b1⟩
  · cases L with
    | cons q L => exact absurd (hL q List.mem_cons_self) id
    | nil =>
      rw [List.append_nil] at X'
      have hF2 : va_F (fun _ => False) s T' := by
        refine ⟨?_, fun q hq _ => ?_⟩
        · rw [e1]; have := hF.1; rw [h0] at this; exact this
        · rw [e1]; have := hF.2 q (by rw [h0]; exact hq) id; rw [h0] at this; exact this
      obtain ⟨t2, a1, b1⟩ := vx_out (rest := rest) (pc := pc) (ls := ls) (Qc := Qc) (XC := cq_XX T0) (free := free) (mc := mc0) (ms := ms0) (H := T'.heap) (locs := []) (cells := cells + mc) (slots := slots + ms) (below := below) (p := p) (l := l) (e := e) (R := R) (s := s) (m := m) (args := args) (meth := meth) (c := c) (q := q) (E := E) (ce := ce) (fun x hx => absurd (hT x hx) id) hlocks (by rw [e1]; exact hce) hcv hcl
        (fun t ht _ => ⟨hout E hte, by rw [ht]; exact hF2.1, fun q hq h => by rw [ht]; exact hF2.2 q hq h⟩) (fun _ h => by cases h) hc hs T' rfl X'
      exact ⟨t2, st.trans a1, b1⟩
theorem cq_XRV {Qc : Array Value → State → Outcome → State → Prop} {free : Addr → Prop} {β : Type} {T0 : String ⊕ β} (S : CallFix p m c cc nL s args Ts own) (hM : cq_MXR l y ws rm D Y W0 (.ref b :: As) tot v mc ms) (cw : CallW R s args own C index y bytes maxL ret ws rm mc ms n) (hG : cq_G D Y s) (hP : va_P D vwCl wl s.heap) (hD : va_D A wl) (hEC : cq_EC wl s s.heap)
    (ps : List Nat) (hps : ps.map (fun i => wl[i]?) = W0.map some) (hnd : va_nd ps = true) (q0 ci : Nat) {fs : List Value} {qc : vw_C} (hc : vwCl[ci]? = some qc) (he : wl[q0]? = some (b, .inr (ci, fs))) (hC : qc.1 = C)
    (hn : As.length = n) (hls : ls.size = nL) (hst : st0 = As.reverse ++ .ref b :: rest) (hroom : (rest.map fun v => v.category).sum ≤ 8) (hdg : decode cc pc = .ok (.invokevirtual index, 3)) (hf : cells + mc ≤ R.cells ∧ slots + ms ≤ R.slots)
    (hT : ∀ x ∈ c.exceptionTable.toList, False) (hlocks : meth.locks = false) (hout : ∀ E : String, tot = .inl E → T0 = .inl E) (hc0 : cells + mc ≤ mc0) (hs0 : slots + ms ≤ ms0)
    (kk : ∀ r : α, tot = .inr r → W p l e R s m args below meth c s.heap [] (cells + mc) (slots + ms) (vx_MQ below Qc (cq_XX T0) args s mc0 ms0 free) (F0 m (pc + 3) ls ((v r).toList ++ rest))) :
    W p l e R s m args below meth c s.heap [] cells slots (vx_MQ below Qc (cq_XX T0) args s mc0 ms0 free) (F0 m pc ls st0) :=
  cq_afterXR (vx_runV S hM cw ⟨cq_PX.blind, by rw [← hC]; exact va_recv hG.1 hP hc he, cq_preX hG hP hD hEC ps hps hnd _⟩ rfl hn hls hst (lv_room hroom) hdg hf) hT hlocks hout hc0 hs0 kk
theorem cq_XRS {Qc : Array Value → State → Outcome → State → Prop} {free : Addr → Prop} {β : Type} {T0 : String ⊕ β} (S : CallFix p m c cc nL s args Ts own) (hM : cq_MXR l y ws rm D Y W0 As tot v mc ms) (cw : CallB R s args own index y bytes maxL ret ws rm mc ms n ∧ (Cond.static y).before args s = true) (hG : cq_G D Y s) (hP : va_P D vwCl wl s.heap) (hD : va_D A wl) (hEC : cq_EC wl s s.heap)
    (ps : List Nat) (hps : ps.map (fun i => wl[i]?) = W0.map some) (hnd : va_nd ps = true)
    (hn : As.length = n) (hls : ls.size = nL) (hst : st0 = As.reverse ++ rest) (hroom : (rest.map fun v => v.category).sum ≤ 8) (hdg : decode cc pc = .ok (.invokestatic index, 3)) (hf : cells + mc ≤ R.cells ∧ slots + ms ≤ R.slots)
    (hT : ∀ x ∈ c.exceptionTable.toList, False) (hlocks : meth.locks = false) (hout : ∀ E : String, tot = .inl E → T0 = .inl E) (hc0 : cells + mc ≤ mc0) (hs0 : slots + ms ≤ ms0)
    (kk : ∀ r : α, tot = .inr r → W p l e R s m args below meth c s.heap [] (cells + mc) (slots + ms) (vx_MQ below Qc (cq_XX T0) args s mc0 ms0 free) (F0 m (pc + 3) ls ((v r).toList ++ rest))) :
    W p l e R s m args below meth c s.heap [] cells slots (vx_MQ below Qc (cq_XX T0) args s mc0 ms0 free) (F0 m pc ls st0) :=
  cq_afterXR (vx_runS S hM cw ⟨cq_PX.blind, cq_preX hG hP hD hEC ps hps hnd _⟩ rfl hn hls hst (lv_room hroom) hdg hf) hT hlocks hout hc0 hs0 kk
end CQX
theorem cq_bodyX {l : Launch} {y : MethodName} {ws ws' : List Cond} {rm : Room} {D : va_G} {Y : cq_Y} {W0 : va_W} {av : List Value} {Qc : Array Value → State → Outcome → State → Prop} {XC : String → State → State → Prop} {mc ms : Nat} {free : Addr → Prop} {cc : ByteArray} {maxL : Nat} {ret : Option FieldType}
    (hy : plainName y.cls = true) (hw : ws = Cond.code y cc maxL ret :: ws') (hlv : (lg_sl av).length ≤ maxL)
    (body : ∀ p e s m below meth c, cq_E p s m meth c y cc maxL ret ws av → (∀ x ∈ c.exceptionTable.toList, False) → va_P D vwCl W0 s.heap → cq_G D Y s → va_D (cq_in W0) W0 → cq_EC W0 s s.heap → ∀ ls : Array Slot, lv_has ls maxL (lv_args 0 av) →
      W p l e rm s m av.toArray below meth c s.heap [] 0 0 (vx_MQ below Qc XC av.toArray s mc ms free) (F0 m 0 ls [])) : vx_Met l y ws rm (cq_PX D Y W0 av) Qc XC mc ms free := by
  refine vx_ofW hy hw ?_
  intro p e s m args below meth c s₁ B hml hT hv
  obtain ⟨rfl, hP, hG, hD, hEC⟩ := hv
  rw [lg_entry_eq]
  exact body p e s m below meth c ⟨B.exec, B.bytes, B.returns, hml, atoms_spec (ws := ws) B.pre, findClass_of_methodNamed B.named, (name_of_methodNamed B.named B.method).1, B.notSynchronized⟩ hT hP hG (cq_self hD) hEC _ (lv_entry av hlv)
section CQXE
variable {p : Program} {l : Launch} {e : Env} {R : Room} {s : State} {m : MethodId} {args : Array Value} {below : List Frame} {meth : Method} {c : Code} {H : Heap} {locs : List Loc} {cells slots mc ms : Nat} {Q : State → Prop}
variable {cc : ByteArray} {pc : Nat} {ls : Array Slot} {D : va_G} {W0 wl : va_W} {free : Addr → Prop} {α : Type} {tot : String ⊕ α} {v : α → Option Value} {W1 : α → va_W} {XC : String → State → State → Prop}
theorem cq_xRI {x : Int32} {ty : FieldType} (r : α) (hx : p.tables.exec = Jvm.exec) (hb : c.code = cc) (hr : meth.sig.returnType = some ty) (hlocks : meth.locks = false) (hn : narrow ty (.int x) = .int x) (ht : tot = .inr r) (hv : v r = some (.int x)) (hc : cells ≤ mc) (hs : slots ≤ ms) (hdg : decode cc pc = .ok (.ireturn, 1)) :
    W p l e R s m args below meth c s.heap [] cells slots (vx_MQ below (cq_QX tot (fun r => cq_R (v r))) XC args s mc ms free) (F0 m pc ls [.int x]) :=
  vx_ret (W.widen hc hs (W.zret hx hb hr hn (fun t h9 _ => ⟨r, ht, by rw [hv], h9⟩) (fun _ h => by cases h) hdg hlocks))
theorem cq_xRV (r : α) (hx : p.tables.exec = Jvm.exec) (hb : c.code = cc) (hr : meth.sig.returnType = none) (hlocks : meth.locks = false) (ht : tot = .inr r) (hv : v r = none) (hc : cells ≤ mc) (hs : slots ≤ ms) (hdg : decode cc pc = .ok (.return_, 1)) :
    W p l e R s m args below meth c s.heap [] cells slots (vx_MQ below (cq_QX tot (fun r => cq_R (v r))) XC args s mc ms free) (F0 m pc ls []) :=
  vx_ret (W.widen hc hs (W.vret hx hb hr (fun t h9 _ => ⟨r, ht, by rw [hv], h9⟩) (fun _ h => by cases h) hdg hlocks))
theorem cq_xWI {x : Int32} {ty : FieldType} (r : α) (hx : p.tables.exec = Jvm.exec) (hb : c.code = cc) (hr : meth.sig.returnType = some ty) (hlocks : meth.locks = false) (hn : narrow ty (.int x) = .int x) (hP : va_P D vwCl wl H) (hS : va_S (cq_in W0) s.heap H locs) (ht : tot = .inr r) (hv : v r = some (.int x)) (hW : W1 r = wl) (hc : cells ≤ mc) (hs : slots ≤ ms) (hdg : decode cc pc = .ok (.ireturn, 1)) :
    W p l e R s m args below meth c H locs cells slots (vx_MQ below (cq_QX tot (fun r => cq_W D (v r) W0 (W1 r))) XC args s mc ms (cq_in W0)) (F0 m pc ls [.int x]) :=
  vx_ret (W.widen hc hs (W.zret hx hb hr hn (fun t h9 _ => ⟨r, ht, by rw [hv], by rw [h9, hW]; exact hP, hS.F h9⟩) hS.2.2 hdg hlocks))
theorem cq_xWV (r : α) (hx : p.tables.exec = Jvm.exec) (hb : c.code = cc) (hr : meth.sig.returnType = none) (hlocks : meth.locks = false) (hP : va_P D vwCl wl H) (hS : va_S (cq_in W0) s.heap H locs) (ht : tot = .inr r) (hv : v r = none) (hW : W1 r = wl) (hc : cells ≤ mc) (hs : slots ≤ ms) (hdg : decode cc pc = .ok (.return_, 1)) :
    W p l e R s m args below meth c H locs cells slots (vx_MQ below (cq_QX tot (fun r => cq_W D (v r) W0 (W1 r))) XC args s mc ms (cq_in W0)) (F0 m pc ls []) :=
  vx_ret (W.widen hc hs (W.vret hx hb hr (fun t h9 _ => ⟨r, ht, by rw [hv], by rw [h9, hW]; exact hP, hS.F h9⟩) hS.2.2 hdg hlocks))
end CQXE
theorem cq_zd {x : Int32} {k : Nat} (h : k + 0 = x.toNatClampNeg) : x ≤ nI k := by
  by_cases hx : x < 0
  · have h1 : (0 : Int32) ≤ nI k := by
      refine nI_pos' ?_
      have := Int32.toNatClampNeg_lt x
      omega
    exact Int32.le_of_lt (Int32.lt_of_lt_of_le hx h1)
  · obtain ⟨j, hj, rfl⟩ := nI_of hx
    rw [nI_clamp hj] at h
    exact nI_le (by omega) (by omega)
theorem cq_sd {x : Int32} {k n : Nat} (h : k + (n + 1) = x.toNatClampNeg) : ¬ x ≤ nI k := by
  by_cases hx : x < 0
  · have h2 : x.toNatClampNeg = 0 := by
      have h3 : x.toInt < 0 := by simpa [Int32.lt_iff_toInt_lt] using hx
      simp only [Int32.toNatClampNeg]
      omega
    omega
  · obtain ⟨j, hj, rfl⟩ := nI_of hx
    rw [nI_clamp hj] at h
    exact nI_ge (by omega) hj
theorem cq_out3 {x : Int32} (h0 : ¬ x = 0) (h1 : ¬ x = 1) (h2 : ¬ x = 2) (h3 : ¬ x = 3) : x.toInt < 0 ∨ 3 < x.toInt := by
  by_cases hx : x < 0
  · exact Or.inl (by simpa [Int32.lt_iff_toInt_lt] using hx)
  · obtain ⟨j, hj, rfl⟩ := nI_of hx
    rw [nI_toInt hj]
    right
    rcases Nat.lt_or_ge 3 j with h | h
    · omega
    · have : j = 0 ∨ j = 1 ∨ j = 2 ∨ j = 3 := by omega
      rcases this with rfl | rfl | rfl | rfl
      · exact absurd rfl h0
      · exact absurd rfl h1
      · exact absurd rfl h2
      · exact absurd rfl h3
