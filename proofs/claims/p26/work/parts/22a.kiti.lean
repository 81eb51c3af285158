/-! CONSTRUCTORS: they make cells -/
def cq_PI (D : va_G) (Y : cq_Y) (sz : Nat) (W0 : va_W) (av : List Value) : Array Value → State → Prop := va_Pc av (fun U => U.heap.size = sz ∧ va_P D vwCl W0 U.heap ∧ cq_G D Y U ∧ va_D (fun _ => True) W0)
theorem cq_PI.blind {D : va_G} {Y : cq_Y} {sz : Nat} {W0 : va_W} {av : List Value} : FrameBlind (cq_PI D Y sz W0 av) := fun a U g mk q => ⟨q.1, q.2.1, q.2.2.1, q.2.2.2.1.calling, q.2.2.2.2⟩
def cq_QI (D : va_G) (sz : Nat) (W0 : va_W) (ok : (Nat → Nat → Nat) → Prop) (W1 : (Nat → Nat → Nat) → va_W) : Array Value → State → Outcome → State → Prop := va_Qv ok (fun a t => va_P D vwCl (W1 a) t.heap ∧ va_D (va_A W0 sz) (W1 a)) (va_A W0 sz)
def cq_MI (l : Launch) (y : MethodName) (ws : List Cond) (rm : Room) (D : va_G) (Y : cq_Y) (W0 : va_W) (av : List Value) (sz : Nat) (ok : (Nat → Nat → Nat) → Prop) (W1 : (Nat → Nat → Nat) → va_W) (mc ms : Nat) : Prop := Met l y ws rm (cq_PI D Y sz W0 av) (cq_QI D sz W0 ok W1) mc ms (va_A W0 sz)
section CQI
variable {p : Program} {l : Launch} {e : Env} {R : Room} {s : State} {m : MethodId} {args : Array Value} {below : List Frame} {meth : Method} {c : Code} {H : Heap} {locs : List Loc} {cells slots : Nat} {Q : State → Prop}
variable {y : MethodName} {bytes cc : ByteArray} {maxL nL n index pc mc ms : Nat} {ws : List Cond} {rm : Room} {Ts : List Cond} {own : String} {b : Addr} {As rest st0 : List Value} {ls : Array Slot}
variable {D : va_G} {Y : cq_Y} {W0 wl wr : va_W} {A : Nat → Prop} {H0 : Heap} {ok : (Nat → Nat → Nat) → Prop} {W1 : (Nat → Nat → Nat) → va_W}
theorem cq_new1 (isC isR : List Nat) (S : CallFix p m c cc nL s args Ts own) (hM : cq_MI l y ws rm D Y W0 (.ref b :: As) H.size ok W1 mc ms) (cw : CallB R s args own index y bytes maxL none ws rm mc ms n ∧ y.name = "<init>" ∧ (Cond.instanceMethod y).before args s = true) (hG : cq_G D Y s) (hP : va_P D vwCl wl H) (hD : va_D A wl) (hS : va_S A H0 H locs) (hA : ∀ q, H0.size ≤ q → A q)
    (hC : isC.map (fun i => wl[i]?) = W0.map some) (hR : isR.map (fun i => wl[i]?) = wr.map some) (hnd : va_nd isC = true) (hnR : va_nd isR = true) (hdis : ∀ i ∈ isR, i ∉ isC)
    (hn : As.length = n) (hls : ls.size = nL) (hst : st0 = As.reverse ++ .ref b :: rest) (hroom : (rest.map fun v => v.category).sum ≤ 8) (hdg : decode cc pc = .ok (.invokespecial index, 3)) (hf : cells + mc ≤ R.cells ∧ slots + ms ≤ R.slots)
    (kk : ∀ (a : Nat → Nat → Nat) (H1 : Heap) (locs1 : List Loc), ok a → va_P D vwCl (wr ++ W1 a) H1 → va_D A (wr ++ W1 a) → va_S A H0 H1 locs1 → W p l e R s m args below meth c H1 locs1 (cells + mc) (slots + ms) Q (F0 m (pc + 3) ls rest)) : W p l e R s m args below meth c H locs cells slots Q (F0 m pc ls st0) := by
  have hFc := va_free (wc := W0) hD hS hA isC hC
  refine va_callv (va_runI S hM cw ⟨cq_PI.blind, fun U hU hW => ⟨rfl, by rw [hU], by rw [hU]; exact cq_sub_P hP hC, hG.warm hW, (hD.sub isC hnd hC).weaken (fun _ _ _ _ => trivial)⟩⟩ rfl hn hls hst (lv_room hroom) hdg hf) hS (fun q _ h => hFc q h) hFc (fun u t H1 locs ht hvm hw hB hz1 hk1 hS => ?_)
  obtain ⟨hP1, hD1⟩ := hB
  rw [ht] at hP1
  obtain ⟨hP, hD⟩ := va_join (wr := wr) (w1 := W1 u) hP hD isC isR hC hR hnR hdis hk1 hFc hP1 hD1
  exact kk u H1 locs hw hP hD hS
/-- rows made: of ints, of booleans, of longs -/
theorem cq_newI (hexec : p.tables.exec = Jvm.exec) (hb : c.code = cc) (harr : (Cond.arrayClass .int).before args s = true) (hG : cq_G D Y s) (hP : va_P D vwCl wl H) (hD : va_D A wl) (hS : va_S A H0 H locs) (hA : ∀ q, H0.size ≤ q → A q)
    {x : Int32} {N' : Nat} (hn : ¬ x < 0) (hN : x.toNatClampNeg = N') (hbytes : N' * 4 ≤ 536870912) (hcells : cells + 1 ≤ R.cells) (hslots : slots + N' ≤ R.slots) (hdg : decode cc pc = .ok (.newarray .int, 2))
    (kk : ∀ (q : Nat) (H1 : Heap), va_P D vwCl (wl ++ [(q, .inl (Y.1, N', .inl (fun _ => 0)))]) H1 → va_D A (wl ++ [(q, .inl (Y.1, N', .inl (fun _ => 0)))]) → va_S A H0 H1 locs → W p l e R s m args below meth c H1 locs (cells + 1) (slots + N') Q (F0 m (pc + 2) ls (.ref q :: rest))) : W p l e R s m args below meth c H locs cells slots Q (F0 m pc ls (.int x :: rest)) := by
  refine va_newa (atype := .int) (ty := .int) (a0 := (N', .inl (fun _ => 0))) hexec hb harr rfl hG.1 hP hD hS hA (fun _ => rfl) hn hN hbytes hcells hslots hdg (fun q cA H1 hK1 hP1 hD1 hS1 => ?_)
  have h1 : s.vm.findClass ("[" ++ FieldType.int.toString) = some cA := (hK1.2 3 (cA, .int) rfl).2
  have h2 : s.vm.findClass ("[" ++ FieldType.int.toString) = some Y.1 := (hG.1.2 0 (Y.1, .int) rfl).2
  cases Option.some.inj (h2.symm.trans h1)
  exact kk q H1 hP1 hD1 hS1
theorem cq_newJ (hexec : p.tables.exec = Jvm.exec) (hb : c.code = cc) (harr : (Cond.arrayClass .long).before args s = true) (hG : cq_G D Y s) (hP : va_P D vwCl wl H) (hD : va_D A wl) (hS : va_S A H0 H locs) (hA : ∀ q, H0.size ≤ q → A q)
    {x : Int32} {N' : Nat} (hn : ¬ x < 0) (hN : x.toNatClampNeg = N') (hbytes : N' * 8 ≤ 536870912) (hcells : cells + 1 ≤ R.cells) (hslots : slots + N' ≤ R.slots) (hdg : decode cc pc = .ok (.newarray .long, 2))
    (kk : ∀ (q : Nat) (H1 : Heap), va_P D vwCl (wl ++ [(q, .inl (Y.2.2, N', .inr (.inl (fun _ => 0))))]) H1 → va_D A (wl ++ [(q, .inl (Y.2.2, N', .inr (.inl (fun _ => 0))))]) → va_S A H0 H1 locs → W p l e R s m args below meth c H1 locs (cells + 1) (slots + N') Q (F0 m (pc + 2) ls (.ref q :: rest))) : W p l e R s m args below meth c H locs cells slots Q (F0 m pc ls (.int x :: rest)) := by
  refine va_newa (atype := .long) (ty := .long) (a0 := (N', .inr (.inl (fun _ => 0)))) hexec hb harr rfl hG.1 hP hD hS hA (fun _ => rfl) hn hN hbytes hcells hslots hdg (fun q cA H1 hK1 hP1 hD1 hS1 => ?_)
  have h1 : s.vm.findClass ("[" ++ FieldType.long.toString) = some cA := (hK1.2 3 (cA, .long) rfl).2
  have h2 : s.vm.findClass ("[" ++ FieldType.long.toString) = some Y.2.2 := (hG.1.2 2 (Y.2.2, .long) rfl).2
  cases Option.some.inj (h2.symm.trans h1)
  exact kk q H1 hP1 hD1 hS1
/-- a constructor's end -/
theorem cq_retC (a : Nat → Nat → Nat) (is : List Nat) (hx : p.tables.exec = Jvm.exec) (hb : c.code = cc) (hr : meth.sig.returnType = none) (hlocks : meth.locks = false) (hAe : A = va_A W0 s.heap.size) (hP : va_P D vwCl wl H) (hD : va_D A wl) (hS : va_S A s.heap H locs) (hok : ok a) (hnd : va_nd is = true) (hW : is.map (fun i => wl[i]?) = (W1 a).map some) (hc : cells ≤ mc) (hs : slots ≤ ms) (hdg : decode cc pc = .ok (.return_, 1)) :
    W p l e R s m args below meth c H locs cells slots (MQ below (cq_QI D s.heap.size W0 ok W1) args s mc ms (va_A W0 s.heap.size)) (F0 m pc ls []) := by
  subst hAe
  have hP9 := cq_sub_P hP hW
  have hD9 := hD.sub is hnd hW
  exact W.widen hc hs (W.vret hx hb hr (fun t ht _ => ⟨⟨a, rfl, hok, by rw [ht]; exact hP9, hD9⟩, hS.F ht⟩) hS.2.2 hdg hlocks)
end CQI
theorem cq_bodyI {l : Launch} {y : MethodName} {ws ws' : List Cond} {rm : Room} {D : va_G} {Y : cq_Y} {W0 : va_W} {av : List Value} {sz : Nat} {ok : (Nat → Nat → Nat) → Prop} {W1 : (Nat → Nat → Nat) → va_W} {mc ms : Nat} {cc : ByteArray} {maxL : Nat} {ret : Option FieldType}
    (hy : plainName y.cls = true) (hw : ws = Cond.code y cc maxL ret :: ws') (hlv : (lg_sl av).length ≤ maxL)
    (body : ∀ p e s m below meth c (A : Nat → Prop), A = va_A W0 s.heap.size → (∀ q, s.heap.size ≤ q → A q) → cq_E p s m meth c y cc maxL ret ws av → va_P D vwCl W0 s.heap → cq_G D Y s → va_D A W0 → ∀ ls : Array Slot, lv_has ls maxL (lv_args 0 av) →
      W p l e rm s m av.toArray below meth c s.heap [] 0 0 (MQ below (cq_QI D s.heap.size W0 ok W1) av.toArray s mc ms (va_A W0 s.heap.size)) (F0 m 0 ls [])) : cq_MI l y ws rm D Y W0 av sz ok W1 mc ms := by
  refine Met.ofW hy hw ?_
  intro p e s m args below meth c s₁ B hml hv
  obtain ⟨rfl, hsz, hP, hG, hD⟩ := hv
  subst hsz
  rw [lg_entry_eq]
  exact body p e s m below meth c _ rfl (fun q h => Or.inr h) ⟨B.exec, B.bytes, B.returns, hml, atoms_spec (ws := ws) B.pre, findClass_of_methodNamed B.named, (name_of_methodNamed B.named B.method).1, B.notSynchronized⟩ hP hG hD.self _ (lv_entry av hlv)
