/-! THE CLAIM OUT OF ONE WALK OF THE LAW'S BODY. Your part is whole_start (and what it stands on); all else here is the same for every law, but numbers. -/
def R_law : String := "CatalogueLoaderLaw"
def lw_P (b : Addr) (xs : List Int32) (args : Array Value) (s : State) : Prop := args = #[.ref b] ∧ s.IntsAt b xs ∧ xs.length ≤ 260 ∧ (Jvm.Cond.and given_1 narrow_1).before args s = true
def lw_Q (_ : Array Value) (s : State) (o : Outcome) (t : State) : Prop := o = .returned (some (.int 1)) ∧ Framed s o t [] 600130 7301080
def lw_Z (below : List Frame) (a : Array Value) (s : State) : State → Prop := fun t => ∃ o, t.status = .running ∧ Ended t below o ∧ lw_Q a s o t
/-- the law's own end, with 1 on the stack, nothing written that was there before, its room as the claim has it -/
theorem lw_ret {p : Program} {l : Launch} {e : Env} {s : State} {m : MethodId} {below : List Frame} {meth : Method} {c : Code} {b : Nat} (hx : p.tables.exec = Jvm.exec) (hb : c.code = code) (hr : meth.sig.returnType = ret) (hlocks : meth.locks = false) {pc : Nat} {H : Heap} {ls : Array Slot} (hdg : decode code pc = .ok (.ireturn, 1)) : W p l e room_1 s m #[Value.ref b] below meth c H [] 600130 7301080 (lw_Z below #[Value.ref b] s) (F0 m pc ls [.int 1]) := by
  intro T hT X
  obtain ⟨fs, hret, hrun, hended, hW, hframe⟩ := X.leave (v := some (.int 1)) (hlocks := hlocks) (fun h => by rw [hr] at h; cases h)
  have hmeth' : T.vm.method? m = some meth := X.method'
  refine ⟨T.setFrames fs, ?_, .returned (some (.int 1)), hrun, hended, rfl, ⟨_, rfl⟩, hW, hframe⟩
  jvm_step X.here [X.here.top, hx, hb, hdg, hmeth', hr, ret, narrow_b1]
  (try refine ⟨rfl, ?_⟩); (try refine ⟨rfl, ?_⟩)
  first | (intro acts; rw [hret _ acts rfl rfl rfl]) | rw [hret _ _ rfl rfl rfl]
  exact Steps.refl _
/-- what holds at the law's entry: the machine, the code, the tables' words (any of lw_tbl by 'hts w (by decide +kernel)'), the script of L ints xs at the cell b, what the Statement gives of the start (any of its parts by flat_of_before) -/
def lw_At (p : Program) (s : State) (m : MethodId) (meth : Method) (c : Code) (b L : Nat) (xs : Nat → Int32) : Prop :=
  p.tables.exec = Jvm.exec ∧ c.code = code ∧ meth.sig.returnType = ret ∧ c.maxLocals = 23 ∧ s.vm.findClass R_law = some m.cls ∧ (∀ w ∈ lw_tbl, w.before #[Value.ref b] s = true) ∧ va_X b L xs s s.heap ∧ b < s.heap.size ∧ meth.locks = false ∧ (Jvm.Cond.and given_1 narrow_1).before #[Value.ref b] s = true
/-! THE LAW'S BODY: worlds by their addresses; its calls -/
def lz_ap (A : Nat → Prop) (ad : List Nat) : Prop := (∀ (i j x : Nat), ad[i]? = some x → ad[j]? = some x → i = j) ∧ ∀ x ∈ ad, A x
theorem lz_ap.app {A : Nat → Prop} {a b : List Nat} (h : lz_ap A (a ++ b)) : lz_ap A a ∧ lz_ap A b ∧ ∀ x ∈ b, x ∉ a := by
  have ha : ∀ (i x : Nat), a[i]? = some x → (a ++ b)[i]? = some x := fun i x hi => by
    rw [List.getElem?_append_left (List.getElem?_eq_some_iff.mp hi).1]; exact hi
  have hb : ∀ (i x : Nat), b[i]? = some x → (a ++ b)[a.length + i]? = some x := fun i x hi => by
    rw [List.getElem?_append_right (Nat.le_add_right _ _), Nat.add_sub_cancel_left]; exact hi
  refine ⟨⟨fun i j x hi hj => h.1 i j x (ha i x hi) (ha j x hj), fun x hx => h.2 x (List.mem_append_left _ hx)⟩, ⟨fun i j x hi hj => ?_, fun x hx => h.2 x (List.mem_append_right _ hx)⟩, fun x hx hx2 => ?_⟩
  · have := h.1 _ _ x (hb i x hi) (hb j x hj)
    omega
  · obtain ⟨i, hi⟩ := List.getElem?_of_mem hx
    obtain ⟨j, hj⟩ := List.getElem?_of_mem hx2
    have := h.1 _ _ x (hb i x hi) (ha j x hj)
    have h9 := (List.getElem?_eq_some_iff.mp hj).1
    omega
theorem lz_adr {w : va_W} {k : Nat} {x : Nat × va_E} (h : w[k]? = some x) : (w.map (·.1))[k]? = some x.1 := by rw [List.getElem?_map, h]; rfl
theorem lz_ap.D {A : Nat → Prop} {ad : List Nat} {w : va_W} (h : lz_ap A ad) (e : w.map (·.1) = ad) : va_D A w := by
  subst e
  exact ⟨fun i j p q hi hj hpq => h.1 i j q.1 (by rw [← hpq]; exact lz_adr hi) (lz_adr hj), fun k q hk => h.2 q.1 (List.mem_of_getElem? (lz_adr hk))⟩
theorem lz_ap.of {A : Nat → Prop} {w : va_W} (h : va_D A w) : lz_ap A (w.map (·.1)) := by
  have key : ∀ (i x : Nat), (w.map (·.1))[i]? = some x → ∃ p, w[i]? = some p ∧ p.1 = x := fun i x hi => by
    rw [List.getElem?_map] at hi
    cases hp : w[i]? with
    | none => rw [hp] at hi; cases hi
    | some p => rw [hp] at hi; exact ⟨p, rfl, Option.some.inj hi⟩
  refine ⟨fun i j x hi hj => ?_, fun x hx => ?_⟩
  · obtain ⟨p, hp, e1⟩ := key i x hi
    obtain ⟨q, hq, e2⟩ := key j x hj
    exact h.1 i j p q hp hq (e1.trans e2.symm)
  · obtain ⟨i, hi⟩ := List.getElem?_of_mem hx
    obtain ⟨p, hp, e1⟩ := key i x hi
    rw [← e1]; exact h.2 i p hp
theorem lz_in {w : va_W} {q : Nat} (h : cq_in w q) : q ∈ w.map (·.1) := by
  obtain ⟨x, hx, rfl⟩ := h
  exact List.mem_map.mpr ⟨x, hx, rfl⟩
theorem lz_apP {D : va_G} {a b : va_W} {H : Heap} (h : va_P D vwCl (a ++ b) H) : va_P D vwCl a H ∧ va_P D vwCl b H := by
  refine ⟨fun k q hk => h k q ?_, fun k q hk => h (a.length + k) q ?_⟩
  · rw [List.getElem?_append_left (List.getElem?_eq_some_iff.mp hk).1]; exact hk
  · rw [List.getElem?_append_right (Nat.le_add_right _ _), Nat.add_sub_cancel_left]; exact hk
theorem lz_paP {D : va_G} {a b : va_W} {H : Heap} (h1 : va_P D vwCl a H) (h2 : va_P D vwCl b H) : va_P D vwCl (a ++ b) H := by
  intro k q hk
  by_cases hl : k < a.length
  · rw [List.getElem?_append_left hl] at hk; exact h1 k q hk
  · rw [List.getElem?_append_right (by omega)] at hk; exact h2 _ q hk
section LZ
variable {p : Program} {l : Launch} {e : Env} {R : Room} {s : State} {m : MethodId} {args : Array Value} {below : List Frame} {meth : Method} {c : Code} {H : Heap} {locs : List Loc} {cells slots mc ms : Nat} {Q : State → Prop}
variable {pc : Nat} {ls : Array Slot} {rest st0 : List Value} {D : va_G} {Y : cq_Y} {W0 W1 Wr : va_W} {v : Option Value} {A : Nat → Prop} {H0 : Heap}
theorem lz_afW {a : Array Value} (hr : va_Run p l e R s m args below meth c H locs cells slots 0 0 (F0 m pc ls st0) rest (cq_W D v W0 W1 a) (cq_in W0)) (hPr : va_P D vwCl Wr H) (hdis : ∀ q ∈ Wr, ¬ cq_in W0 q.1) (hsub : ∀ q, cq_in W0 q → A q) (hS : va_S A H0 H locs)
    (kk : ∀ (H1 : Heap) (locs1 : List Loc), va_P D vwCl W1 H1 → va_P D vwCl Wr H1 → va_S A H0 H1 locs1 → W p l e R s m args below meth c H1 locs1 cells slots Q (F0 m (pc + 3) ls (v.toList ++ rest))) : W p l e R s m args below meth c H locs cells slots Q (F0 m pc ls st0) := by
  intro T hT X
  obtain ⟨v', st₀, t, T', L, h0, X', hL, e1, e2, ⟨hv, hp, hz, hk⟩, st⟩ := hr T hT X
  cases hv
  rw [h0] at hz hk
  obtain ⟨t2, a1, b1⟩ := kk T'.heap (locs ++ L) (by rw [e1]; exact hp) (fun k q hq => (hPr k q hq).kept (by rw [e1]; exact hk q.1 (hPr k q hq).lt (hdis q (List.mem_of_getElem? hq))))
    ⟨Nat.le_trans hS.1 (by rw [e1]; exact hz), fun q h1 h2 => by rw [e1, hk q (Nat.lt_of_lt_of_le h1 hS.1) (fun z => h2 (hsub q z))]; exact hS.2.1 q h1 h2, fun q hq => by
      rcases List.mem_append.mp hq with h | h
      · exact hS.2.2 q h
      · exact hsub _ (hL q h)⟩ T' rfl X'
  exact ⟨t2, st t2 a1, b1⟩
theorem lz_afL {a : Array Value} (hr : vx_Run p l e R s m args below meth c H locs cells slots mc ms (F0 m pc ls st0) rest (cq_W D v W0 W1 a) (fun _ _ _ => False) (cq_in W0)) (hPr : va_P D vwCl Wr H) (hdis : ∀ q ∈ Wr, ¬ cq_in W0 q.1) (hsub : ∀ q, cq_in W0 q → A q) (hS : va_S A H0 H locs)
    (kk : ∀ (H1 : Heap) (locs1 : List Loc), va_P D vwCl W1 H1 → va_P D vwCl Wr H1 → va_S A H0 H1 locs1 → W p l e R s m args below meth c H1 locs1 (cells + mc) (slots + ms) Q (F0 m (pc + 3) ls (v.toList ++ rest))) : W p l e R s m args below meth c H locs cells slots Q (F0 m pc ls st0) := by
  intro T hT X
  rcases hr T hT X with ⟨v', st₀, t, T', L, h0, X', hL, e1, e2, ⟨hv, hp, hz, hk⟩, st⟩ | ⟨q, st₀, t, T', L, E, ce, h0, X', hL, e1, e2, hF, -⟩
  · cases hv
    rw [h0] at hz hk
    obtain ⟨t2, a1, b1⟩ := kk T'.heap (locs ++ L) (by rw [e1]; exact hp) (fun k q hq => (hPr k q hq).kept (by rw [e1]; exact hk q.1 (hPr k q hq).lt (hdis q (List.mem_of_getElem? hq))))
      ⟨Nat.le_trans hS.1 (by rw [e1]; exact hz), fun q h1 h2 => by rw [e1, hk q (Nat.lt_of_lt_of_le h1 hS.1) (fun z => h2 (hsub q z))]; exact hS.2.1 q h1 h2, fun q hq => by
        rcases List.mem_append.mp hq with h | h
        · exact hS.2.2 q h
        · exact hsub _ (hL q h)⟩ T' rfl X'
    exact ⟨t2, st t2 a1, b1⟩
  · exact hF.elim
/-- what throws need, at the law's entry -/
def lz_B (s : State) : Prop := cq_B s ∧ (∃ sa : Nat → Nat, cq_T sa s) ∧ vx_Zq Bundle.tN "UNASSIGNED_STACK" Bundle.steD (fun q => s.heap.size ≤ q) s s.heap ∧ vx_Zq Bundle.tN "SUPPRESSED_SENTINEL" Bundle.listD (fun q => s.heap.size ≤ q) s s.heap
theorem lz_EC (h : lz_B s) (hS : va_S (fun q => s.heap.size ≤ q) s.heap H locs) (hin : ∀ q, cq_in W0 q → s.heap.size ≤ q) : cq_EC W0 s H :=
  ⟨h.1, h.2.1, vx_Zq.narrow (vx_Zq.kept h.2.2.1 hS.2.1) hin, vx_Zq.narrow (vx_Zq.kept h.2.2.2 hS.2.1) hin⟩
variable {b L : Nat} {xs : Nat → Int32} {a0 ar : List Nat} {y : MethodName} {bytes : ByteArray} {maxL n index : Nat} {ret : Option FieldType} {hh : List (Nat × Nat × Nat × Nat)} {ws ws' : List Cond} {rm : Room} {As : List Value} {C : String} {b0 q0 ci : Nat}
/-- a call of one of the law's own methods -/
theorem lz_callL (C0 : lw_At p s m meth c b L xs) (hG : cq_G D Y s) (hB : lz_B s) (hNC : cq_NC s) (hap : lz_ap (fun q => s.heap.size ≤ q) a0) (e0 : W0.map (·.1) = a0) (er : Wr.map (·.1) = ar) (hdis : ∀ x ∈ ar, x ∉ a0) (hM : cq_ML l y ws rm D Y W0 As v W1 mc ms) (hg : GoodIn wsL_law (va_wsS RL index y ws)) (hw : ws = Cond.codeWith y bytes maxL ret hh :: ws') (hrc : rm.cells = mc) (hrs : rm.slots = ms)
    (hd : y.cls ≠ "java/lang/invoke/MethodHandle" ∧ y.cls ≠ "java/lang/invoke/VarHandle" ∧ (parseMethodDescriptor y.desc).map (fun d => d.parameters.length) = some n) (hR : rm.frames + 1 ≤ room_1.frames ∧ 8 + (maxL + 11) + rm.locals ≤ room_1.locals)
    (hn : As.length = n) (hls : ls.size = 23) (hst : st0 = As.reverse ++ rest) (hroom : (rest.map fun v => v.category).sum ≤ 8) (hdg : decode code pc = .ok (.invokestatic index, 3)) (hf : cells + mc ≤ room_1.cells ∧ slots + ms ≤ room_1.slots)
    (hP0 : va_P D vwCl W0 H) (hPr : va_P D vwCl Wr H) (hS : va_S (fun q => s.heap.size ≤ q) s.heap H locs)
    (kk : ∀ (H1 : Heap) (locs1 : List Loc), va_P D vwCl W1 H1 → va_P D vwCl Wr H1 → va_S (fun q => s.heap.size ≤ q) s.heap H1 locs1 → W p l e room_1 s m #[Value.ref b] below meth c H1 locs1 (cells + mc) (slots + ms) Q (F0 m (pc + 3) ls (v.toList ++ rest))) : W p l e room_1 s m #[Value.ref b] below meth c H locs cells slots Q (F0 m pc ls st0) := by
  obtain ⟨hx, hb, hr, hml, hown, hts, hX, hbl, hlocks, hgv⟩ := C0
  have hown : s.vm.findClass RL = some m.cls := hown
  have hts' : ∀ w ∈ wsL_law, w.before #[Value.ref b] s = true := fun w h => hts w (wsL_law_in w h)
  have hin : ∀ q, cq_in W0 q → s.heap.size ≤ q := fun q hq => hap.2 q (by rw [← e0]; exact lz_in hq)
  refine lz_afL (A := fun q => s.heap.size ≤ q) (H0 := s.heap) (W0 := W0) (W1 := W1) (Wr := Wr) (vx_runSX ⟨hx, hb, hml, hown, hts'⟩ hM (vx_cwSW n hts' hg hw hrc hrs hd hR) ⟨cq_PL.blind, fun U hU hW => ⟨rfl, by rw [hU]; exact hP0, hG.warm hW, (hap.D e0).weaken (fun _ _ _ _ => trivial), by rw [hU]; exact (lz_EC hB hS hin).warm hW, fun z hz => va_Nc.moved hW.alike (hNC z hz)⟩⟩ rfl hn hls hst (lv_room hroom) hdg hf) hPr (fun q hq h => hdis q.1 (by rw [← er]; exact List.mem_map.mpr ⟨q, hq, rfl⟩) (by rw [← e0]; exact lz_in h)) hin hS kk
end LZ
