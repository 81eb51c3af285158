/-! THE LAW'S OWN METHODS: they call the loader, and catch what it throws -/
def cq_nc : List (String × String) := [("java/lang/IndexOutOfBoundsException", "java/lang/IllegalArgumentException"), ("java/lang/IndexOutOfBoundsException", "java/lang/IllegalStateException"), ("java/lang/IllegalArgumentException", "java/lang/IndexOutOfBoundsException"), ("java/lang/IllegalArgumentException", "java/lang/IllegalStateException"), ("java/lang/IllegalStateException", "java/lang/IndexOutOfBoundsException"), ("java/lang/IllegalStateException", "java/lang/IllegalArgumentException")]
def cq_NC (U : State) : Prop := ∀ q ∈ cq_nc, va_Nc q.1 q.2 U
def cq_PL (D : va_G) (Y : cq_Y) (W0 : va_W) (av : List Value) : Array Value → State → Prop := va_Pc av (fun U => va_P D vwCl W0 U.heap ∧ cq_G D Y U ∧ va_D (fun _ => True) W0 ∧ cq_EC W0 U U.heap ∧ cq_NC U)
theorem cq_PL.blind {D : va_G} {Y : cq_Y} {W0 : va_W} {av : List Value} : FrameBlind (cq_PL D Y W0 av) := fun a U g mk q => ⟨q.1, q.2.1, q.2.2.1.calling, q.2.2.2.1, q.2.2.2.2.1.calling, fun z hz => va_Nc.moved (u := U) (U := U.calling g mk a) (Vm.Alike.refl U.vm) (q.2.2.2.2.2 z hz)⟩
def cq_ML (l : Launch) (y : MethodName) (ws : List Cond) (rm : Room) (D : va_G) (Y : cq_Y) (W0 : va_W) (av : List Value) (v : Option Value) (W1 : va_W) (mc ms : Nat) : Prop := vx_Met l y ws rm (cq_PL D Y W0 av) (cq_W D v W0 W1) (fun _ _ _ => False) mc ms (cq_in W0)
theorem cq_bodyL {l : Launch} {y : MethodName} {ws ws' : List Cond} {rm : Room} {D : va_G} {Y : cq_Y} {W0 : va_W} {av : List Value} {Qc : Array Value → State → Outcome → State → Prop} {XC : String → State → State → Prop} {mc ms : Nat} {free : Addr → Prop} {cc : ByteArray} {maxL : Nat} {ret : Option FieldType} {hh : List (Nat × Nat × Nat × Nat)}
    (hy : plainName y.cls = true) (hw : ws = Cond.codeWith y cc maxL ret hh :: ws') (hlv : (lg_sl av).length ≤ maxL)
    (body : ∀ p e s m below meth c, cq_E p s m meth c y cc maxL ret ws av → c.exceptionTable.toList = tableOf hh → va_P D vwCl W0 s.heap → cq_G D Y s → va_D (cq_in W0) W0 → cq_EC W0 s s.heap → cq_NC s → ∀ ls : Array Slot, lv_has ls maxL (lv_args 0 av) →
      W p l e rm s m av.toArray below meth c s.heap [] 0 0 (vx_MQ below Qc XC av.toArray s mc ms free) (F0 m 0 ls [])) : vx_Met l y ws rm (cq_PL D Y W0 av) Qc XC mc ms free := by
  refine vx_ofWH hy hw ?_
  intro p e s m args below meth c s₁ B hml hv
  obtain ⟨rfl, hP, hG, hD, hEC, hNC⟩ := hv
  rw [lg_entry_eq]
  have hts := atoms_spec (ws := ws) B.pre
  exact body p e s m below meth c ⟨B.exec, B.bytes, B.returns, hml, hts, findClass_of_methodNamed B.named, (name_of_methodNamed B.named B.method).1, B.notSynchronized⟩ (vx_table (x := y) B (hts _ (by rw [hw]; exact List.mem_cons_self))) hP hG (cq_self hD) hEC hNC _ (lv_entry av hlv)
section CQL
variable {p : Program} {l : Launch} {e : Env} {R : Room} {s : State} {m : MethodId} {args : Array Value} {below : List Frame} {meth : Method} {c : Code} {H : Heap} {locs : List Loc} {cells slots : Nat} {Q : State → Prop}
variable {y : MethodName} {bytes cc : ByteArray} {maxL nL n index pc mc ms : Nat} {ret : Option FieldType} {ws : List Cond} {rm : Room} {Ts : List Cond} {own C : String} {b : Addr} {As rest st0 : List Value} {ls : Array Slot}
variable {D : va_G} {Y : cq_Y} {W0 wl : va_W} {A : Nat → Prop} {H0 : Heap} {α : Type} {tot : String ⊕ α} {v : α → Option Value} {W1 : α → va_W}
theorem cq_preL (hG : cq_G D Y s) (hP : va_P D vwCl wl H) (hD : va_D A wl) (hEC : cq_EC wl s H) (hNC : cq_NC s) (ps : List Nat) (hps : ps.map (fun i => wl[i]?) = W0.map some) (hnd : va_nd ps = true) (av : List Value) :
    ∀ U : State, U.heap = H → s.WarmedH U.vm → cq_PL D Y W0 av av.toArray U := fun U hU hW => ⟨rfl, by rw [hU]; exact cq_sub_P hP hps, hG.warm hW, (hD.sub ps hnd hps).weaken (fun _ _ _ _ => trivial), by rw [hU]; exact (hEC.sub (A := A) hps).warm hW, fun z hz => va_Nc.moved hW.alike (hNC z hz)⟩
/-- the callee answers -/
theorem cq_LW_ok {a : Array Value} {ps qs : List Nat} (wl1 : va_W) (r : α) (htot : tot = .inr r) (hr : vx_Run p l e R s m args below meth c H locs cells slots mc ms (F0 m pc ls st0) rest (cq_QX tot (fun r => cq_W D (v r) W0 (W1 r)) a) (cq_XX tot) (cq_in W0))
    (hP : va_P D vwCl wl H) (hD : va_D A wl) (hS : va_S A H0 H locs) (hps : ps.map (fun i => wl[i]?) = W0.map some) (hn : cq_new wl wl1 (W1 r) ps qs) (had : (W1 r).map (·.1) = W0.map (·.1))
    (kk : ∀ (H1 : Heap) (locs1 : List Loc), va_P D vwCl wl1 H1 → va_D A wl1 → va_S A H0 H1 locs1 → W p l e R s m args below meth c H1 locs1 (cells + mc) (slots + ms) Q (F0 m (pc + 3) ls ((v r).toList ++ rest))) : W p l e R s m args below meth c H locs cells slots Q (F0 m pc ls st0) := by
  intro T hT X
  rcases hr T hT X with ⟨v', st₀, t, T', L, h0, X', hL, e1, e2, ⟨r', htr, hv, hp, hz, hk⟩, st⟩ | ⟨q, st₀, t, T', L, E, ce, h0, X', hL, e1, e2, ⟨hte, -⟩, -⟩
  · cases Sum.inr.inj (htr.symm.trans htot)
    cases hv
    rw [h0] at hz hk
    have hsub := cq_sub_in hD hps
    obtain ⟨t2, a1, b1⟩ := kk T'.heap (locs ++ L) (cq_put_P hn hP hD hps had (fun q h1 h2 => by rw [e1]; exact hk q h1 h2) (by rw [e1]; exact hp)) (cq_put_D hn hD hps had)
      ⟨Nat.le_trans hS.1 (by rw [e1]; exact hz), fun q h1 h2 => by rw [e1, hk q (Nat.lt_of_lt_of_le h1 hS.1) (fun z => h2 (hsub q z))]; exact hS.2.1 q h1 h2, fun q hq => by
        rcases List.mem_append.mp hq with h | h
        · exact hS.2.2 q h
        · exact hsub _ (hL q h)⟩ T' rfl X'
    exact ⟨t2, st t2 a1, b1⟩
  · rw [htot] at hte; cases hte
theorem cq_LR_ok {a : Array Value} (r : α) (htot : tot = .inr r) (hr : vx_Run p l e R s m args below meth c H locs cells slots mc ms (F0 m pc ls st0) rest (cq_QX tot (fun r => cq_R (v r)) a) (cq_XX tot) (fun _ => False))
    (kk : W p l e R s m args below meth c H locs (cells + mc) (slots + ms) Q (F0 m (pc + 3) ls ((v r).toList ++ rest))) : W p l e R s m args below meth c H locs cells slots Q (F0 m pc ls st0) := by
  intro T hT X
  rcases hr T hT X with ⟨v', st₀, t, T', L, h0, X', hL, e1, e2, ⟨r', htr, hv, hh⟩, st⟩ | ⟨q, st₀, t, T', L, E, ce, h0, X', hL, e1, e2, ⟨hte, -⟩, -⟩
  · cases Sum.inr.inj (htr.symm.trans htot)
    cases hv
    cases L with
    | cons q L => exact absurd (hL q List.mem_cons_self) id
    | nil =>
      rw [List.append_nil] at X'
      obtain ⟨t2, a1, b1⟩ := kk T' (by rw [e1, hh, h0]) X'
      exact ⟨t2, st t2 a1, b1⟩
  · rw [htot] at hte; cases hte
/-- the callee throws; the world is as it was -/
theorem cq_L_ex {a : Array Value} {free : Nat → Prop} {Qq : α → Array Value → State → Outcome → State → Prop} (E : String) (htot : tot = .inl E) (hfree : ∀ q, free q → A q) (hr : vx_Run p l e R s m args below meth c H locs cells slots mc ms (F0 m pc ls st0) rest (cq_QX tot Qq a) (cq_XX tot) free)
    (hP : va_P D vwCl wl H) (hS : va_S A H0 H locs)
    (kx : ∀ (ce : Cell) (q : Addr) (H1 : Heap) (locs1 : List Loc), va_P D vwCl wl H1 → va_S A H0 H1 locs1 → H1[q]? = some ce → ce.vm = .none → s.vm.findClass E = some ce.cls → vx_W p l e R s m args below meth c H1 locs1 (cells + mc) (slots + ms) Q (F0 m pc ls rest) q) : W p l e R s m args below meth c H locs cells slots Q (F0 m pc ls st0) := by
  intro T hT X
  rcases hr T hT X with ⟨v', st₀, t, T', L, h0, X', hL, e1, e2, ⟨r', htr, -⟩, st⟩ | ⟨q, st₀, t, T', L, E', ce, h0, X', hL, e1, e2, ⟨hte, hF⟩, hce, hcv, hcl, st⟩
  · rw [htot] at htr; cases htr
  · cases Sum.inl.inj (hte.symm.trans htot)
    obtain ⟨hz, hk⟩ := hF
    rw [h0] at hz hk
    obtain ⟨t2, a1, b1⟩ := kx ce q T'.heap (locs ++ L) (fun k x hx => (hP k x hx).kept (by rw [e1]; exact hk x.1 (hP k x hx).lt id))
      ⟨Nat.le_trans hS.1 (by rw [e1]; exact hz), fun q h1 h2 => by rw [e1, hk q (Nat.lt_of_lt_of_le h1 hS.1) id]; exact hS.2.1 q h1 h2, fun q hq => by
        rcases List.mem_append.mp hq with h | h
        · exact hS.2.2 q h
        · exact hfree _ (hL q h)⟩ (by rw [e1]; exact hce) hcv hcl T' rfl X'
    exact ⟨t2, st.trans a1, b1⟩
theorem cq_LrunW (S : CallFix p m c cc nL s args Ts own) (hM : cq_MXW l y ws rm D Y W0 (.ref b :: As) tot v W1 mc ms) (cw : CallW R s args own C index y bytes maxL ret ws rm mc ms n) (hG : cq_G D Y s) (hP : va_P D vwCl wl H) (hD : va_D A wl) (hEC : cq_EC wl s H)
    (ps : List Nat) (hps : ps.map (fun i => wl[i]?) = W0.map some) (hnd : va_nd ps = true) (q0 ci : Nat) {fs : List Value} {qc : vw_C} (hc : vwCl[ci]? = some qc) (he : wl[q0]? = some (b, .inr (ci, fs))) (hC : qc.1 = C)
    (hn : As.length = n) (hls : ls.size = nL) (hst : st0 = As.reverse ++ .ref b :: rest) (hroom : (rest.map fun v => v.category).sum ≤ 8) (hdg : decode cc pc = .ok (.invokevirtual index, 3)) (hf : cells + mc ≤ R.cells ∧ slots + ms ≤ R.slots) :
    vx_Run p l e R s m args below meth c H locs cells slots mc ms (F0 m pc ls st0) rest (cq_QX tot (fun r => cq_W D (v r) W0 (W1 r)) (.ref b :: As : List Value).toArray) (cq_XX tot) (cq_in W0) :=
  vx_runV S hM cw ⟨cq_PX.blind, by rw [← hC]; exact va_recv hG.1 hP hc he, cq_preX hG hP hD hEC ps hps hnd _⟩ rfl hn hls hst (lv_room hroom) hdg hf
theorem cq_LrunR (S : CallFix p m c cc nL s args Ts own) (hM : cq_MXR l y ws rm D Y W0 (.ref b :: As) tot v mc ms) (cw : CallW R s args own C index y bytes maxL ret ws rm mc ms n) (hG : cq_G D Y s) (hP : va_P D vwCl wl H) (hD : va_D A wl) (hEC : cq_EC wl s H)
    (ps : List Nat) (hps : ps.map (fun i => wl[i]?) = W0.map some) (hnd : va_nd ps = true) (q0 ci : Nat) {fs : List Value} {qc : vw_C} (hc : vwCl[ci]? = some qc) (he : wl[q0]? = some (b, .inr (ci, fs))) (hC : qc.1 = C)
    (hn : As.length = n) (hls : ls.size = nL) (hst : st0 = As.reverse ++ .ref b :: rest) (hroom : (rest.map fun v => v.category).sum ≤ 8) (hdg : decode cc pc = .ok (.invokevirtual index, 3)) (hf : cells + mc ≤ R.cells ∧ slots + ms ≤ R.slots) :
    vx_Run p l e R s m args below meth c H locs cells slots mc ms (F0 m pc ls st0) rest (cq_QX tot (fun r => cq_R (v r)) (.ref b :: As : List Value).toArray) (cq_XX tot) (fun _ => False) :=
  vx_runV S hM cw ⟨cq_PX.blind, by rw [← hC]; exact va_recv hG.1 hP hc he, cq_preX hG hP hD hEC ps hps hnd _⟩ rfl hn hls hst (lv_room hroom) hdg hf
theorem cq_lI {x : Int32} {ty : FieldType} {W9 : va_W} {vv : Option Value} {XC : String → State → State → Prop} (hx : p.tables.exec = Jvm.exec) (hb : c.code = cc) (hr : meth.sig.returnType = some ty) (hlocks : meth.locks = false) (hn : narrow ty (.int x) = .int x) (hP : va_P D vwCl wl H) (hS : va_S (cq_in W0) s.heap H locs) (hv : vv = some (.int x)) (hW : W9 = wl) (hc : cells ≤ mc) (hs : slots ≤ ms) (hdg : decode cc pc = .ok (.ireturn, 1)) :
    W p l e R s m args below meth c H locs cells slots (vx_MQ below (cq_W D vv W0 W9) XC args s mc ms (cq_in W0)) (F0 m pc ls [.int x]) :=
  vx_ret (W.widen hc hs (W.zret hx hb hr hn (fun t h9 _ => ⟨by rw [hv], by rw [h9, hW]; exact hP, hS.F h9⟩) hS.2.2 hdg hlocks))
end CQL
