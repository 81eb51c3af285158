/-! CALLS IN PLACE: a contract over a small world W0, used in a larger one by places; what comes back is put where it was -/
abbrev cq_Y : Type := ClassId × ClassId × ClassId
abbrev cq_ty (Y : cq_Y) : List (ClassId × FieldType) := [(Y.1, .int), (Y.1, .int), (Y.2.2, .long)]
/-- the words of the nest mates' fields -/
def cq_nl : List (String × Nat × String × String × String × String) := [
  ("CatalogueLoader", 51, "CatalogueLoader$Settings", "ranks", "LCatalogueLoader$Row;", "CatalogueLoader"),
  ("CatalogueLoader", 64, "CatalogueLoader$Settings", "rules", "LCatalogueLoader$Row;", "CatalogueLoader"),
  ("CatalogueLoader", 74, "CatalogueLoader$Settings", "order", "LCatalogueLoader$Row;", "CatalogueLoader"),
  ("CatalogueLoader$Catalogue", 77, "CatalogueLoader$Settings", "order", "LCatalogueLoader$Row;", "CatalogueLoader"),
  ("CatalogueLoader", 90, "CatalogueLoader$Loads", "keys", "LCatalogueLoader$Grid;", "CatalogueLoader"),
  ("CatalogueLoader$Catalogue", 82, "CatalogueLoader$Loads", "keys", "LCatalogueLoader$Grid;", "CatalogueLoader"),
  ("CatalogueLoader", 104, "CatalogueLoader$Loads", "fields", "LCatalogueLoader$Grid;", "CatalogueLoader"),
  ("CatalogueLoader$Catalogue", 93, "CatalogueLoader$Loads", "fields", "LCatalogueLoader$Grid;", "CatalogueLoader"),
  ("CatalogueLoader$Catalogue", 91, "CatalogueLoader$Loads", "sources", "LCatalogueLoader$Row;", "CatalogueLoader"),
  ("CatalogueLoader", 141, "CatalogueLoader$Loads", "undone", "LCatalogueLoader$Row;", "CatalogueLoader"),
  ("CatalogueLoader", 94, "CatalogueLoader$Loads", "count", "I", "CatalogueLoader"),
  ("CatalogueLoader", 77, "CatalogueLoader$Loads", "batchCount", "I", "CatalogueLoader"),
  ("CatalogueLoader", 200, "CatalogueLoader$History", "kinds", "LCatalogueLoader$Row;", "CatalogueLoader"),
  ("CatalogueLoader", 194, "CatalogueLoader$History", "first", "LCatalogueLoader$Row;", "CatalogueLoader"),
  ("CatalogueLoader", 197, "CatalogueLoader$History", "second", "LCatalogueLoader$Row;", "CatalogueLoader"),
  ("CatalogueLoader", 203, "CatalogueLoader$History", "third", "LCatalogueLoader$Row;", "CatalogueLoader"),
  ("CatalogueLoader", 189, "CatalogueLoader$History", "count", "I", "CatalogueLoader"),
  ("CatalogueLoader", 159, "CatalogueLoader$Catalogue", "keys", "LCatalogueLoader$Grid;", "CatalogueLoader"),
  ("CatalogueLoader", 160, "CatalogueLoader$Catalogue", "fields", "LCatalogueLoader$Grid;", "CatalogueLoader"),
  ("CatalogueLoader", 161, "CatalogueLoader$Catalogue", "sources", "LCatalogueLoader$Grid;", "CatalogueLoader"),
  ("CatalogueLoader", 164, "CatalogueLoader$Catalogue", "held", "LCatalogueLoader$Row;", "CatalogueLoader"),
  ("CatalogueLoader", 156, "CatalogueLoader$Catalogue", "hits", "LCatalogueLoader$Row;", "CatalogueLoader")]
def cq_nw (t : String × Nat × String × String × String × String) : Cond := .fieldLinkNest t.1 t.2.1 t.2.2.1 t.2.2.2.1 t.2.2.2.2.1 t.2.2.2.2.2
def cq_N (U : State) : Prop := ∀ t ∈ cq_nl, va_Nw (cq_nw t) U
/-- what a method knows of the machine's tables -/
def cq_G (D : va_G) (Y : cq_Y) (U : State) : Prop := va_K D vwCl (cq_ty Y) U ∧ cq_N U
theorem cq_G.warm {D : va_G} {Y : cq_Y} {s U : State} (hW : s.WarmedH U.vm) (h : cq_G D Y s) : cq_G D Y U :=
  ⟨va_K.moved hW.alike h.1, fun t ht => va_Nw.warmF hW (h.2 t ht)⟩
theorem cq_G.calling {D : va_G} {Y : cq_Y} {U : State} {g : JFrame} {mk : MethodId} {a : Array Value} (h : cq_G D Y U) : cq_G D Y (U.calling g mk a) :=
  ⟨va_K.moved (u := U) (U := U.calling g mk a) (Vm.Alike.refl U.vm) h.1, fun t ht => va_Nw.same rfl (u := U) (U := U.calling g mk a) rfl (h.2 t ht)⟩
theorem cq_G.nest {D : va_G} {Y : cq_Y} {U : State} {args : Array Value} (h : cq_G D Y U) (i : Nat) {t : String × Nat × String × String × String × String} (ht : cq_nl[i]? = some t) : (cq_nw t).before args U = true :=
  va_Nw.use rfl (h.2 t (List.mem_of_getElem? ht))
/-- a contract's start; its end where nothing is written; its end where only the world is -/
def cq_P (D : va_G) (Y : cq_Y) (W0 : va_W) (av : List Value) : Array Value → State → Prop := va_Pc av (fun U => va_P D vwCl W0 U.heap ∧ cq_G D Y U ∧ va_D (fun _ => True) W0)
def cq_R (v : Option Value) : Array Value → State → Outcome → State → Prop := fun _ st oc t => oc = .returned v ∧ t.heap = st.heap
def cq_in (W0 : va_W) : Nat → Prop := fun q => ∃ x ∈ W0, x.1 = q
def cq_W (D : va_G) (v : Option Value) (W0 W1 : va_W) : Array Value → State → Outcome → State → Prop := fun _ st oc t => oc = .returned v ∧ va_P D vwCl W1 t.heap ∧ va_F (cq_in W0) st t
def cq_rm (f n : Nat) : Room := { frames := f, cells := 0, slots := 0, locals := n }
def cq_MR (l : Launch) (y : MethodName) (ws : List Cond) (rm : Room) (D : va_G) (Y : cq_Y) (W0 : va_W) (av : List Value) (v : Option Value) : Prop := Met l y ws rm (cq_P D Y W0 av) (cq_R v) 0 0 (fun _ => False)
def cq_MW (l : Launch) (y : MethodName) (ws : List Cond) (rm : Room) (D : va_G) (Y : cq_Y) (W0 : va_W) (av : List Value) (v : Option Value) (W1 : va_W) : Prop := Met l y ws rm (cq_P D Y W0 av) (cq_W D v W0 W1) 0 0 (cq_in W0)
theorem cq_P.blind {D : va_G} {Y : cq_Y} {W0 : va_W} {av : List Value} : FrameBlind (cq_P D Y W0 av) := fun a U g mk q => ⟨q.1, q.2.1, q.2.2.1.calling, q.2.2.2⟩
/-- the world wl1 is wl with W1 at the places ps -/
def cq_new (wl wl1 W1 : va_W) (ps qs : List Nat) : Prop := ps.map (fun i => wl1[i]?) = W1.map some ∧ (∃ Q0 : va_W, qs.map (fun i => wl1[i]?) = Q0.map some ∧ qs.map (fun i => wl[i]?) = Q0.map some) ∧ ∃ N : Nat, wl1.length = N ∧ (List.range N).all (fun i => ps.contains i || qs.contains i) = true
theorem cq_new_get {wl wl1 W1 : va_W} {ps qs : List Nat} (h : cq_new wl wl1 W1 ps qs) (k : Nat) (q : Nat × va_E) (hq : wl1[k]? = some q) : (∃ j : Nat, ps[j]? = some k ∧ W1[j]? = some q) ∨ (wl[k]? = some q ∧ k ∉ ps) := by
  obtain ⟨h1, ⟨Q0, hq1, hq0⟩, N, h4, h3⟩ := h
  have h2 := hq1.trans hq0.symm
  have hk : k < wl1.length := (List.getElem?_eq_some_iff.mp hq).1
  rw [h4] at hk
  have h5 := List.all_eq_true.mp h3 k (List.mem_range.mpr hk)
  by_cases hp : k ∈ ps
  · obtain ⟨j, hj⟩ := List.getElem?_of_mem hp
    refine Or.inl ⟨j, hj, ?_⟩
    have h6 : (ps.map (fun i => wl1[i]?))[j]? = some (some q) := by rw [List.getElem?_map, hj]; simp [hq]
    rw [h1, List.getElem?_map] at h6
    cases hw : W1[j]? with
    | none => rw [hw] at h6; cases h6
    | some x => rw [hw] at h6; simpa using h6
  · have hq2 : k ∈ qs := by
      rcases Bool.or_eq_true _ _ ▸ h5 with h | h
      · exact absurd (List.contains_iff_mem.mp h) hp
      · exact List.contains_iff_mem.mp h
    obtain ⟨j, hj⟩ := List.getElem?_of_mem hq2
    have h6 : (qs.map (fun i => wl1[i]?))[j]? = some (wl1[k]?) := by rw [List.getElem?_map, hj]; rfl
    rw [h2, List.getElem?_map, hj] at h6
    exact Or.inr ⟨(Option.some.inj h6).trans hq, hp⟩
theorem cq_key {is : List Nat} {wl w : va_W} (hs : is.map (fun i => wl[i]?) = w.map some) (k : Nat) (q : Nat × va_E) (hk : w[k]? = some q) : ∃ i, is[k]? = some i ∧ wl[i]? = some q := by
  have h1 : (is.map (fun i => wl[i]?))[k]? = some (some q) := by rw [hs, List.getElem?_map, hk]; rfl
  rw [List.getElem?_map] at h1
  cases hi : is[k]? with
  | none => rw [hi] at h1; cases h1
  | some i => rw [hi] at h1; exact ⟨i, rfl, Option.some.inj h1⟩
theorem cq_key2 {is : List Nat} {wl w : va_W} (hs : is.map (fun i => wl[i]?) = w.map some) (k i : Nat) (hi : is[k]? = some i) : ∃ q, w[k]? = some q ∧ wl[i]? = some q := by
  have h1 : (is.map (fun i => wl[i]?))[k]? = some (wl[i]?) := by rw [List.getElem?_map, hi]; rfl
  rw [hs, List.getElem?_map] at h1
  cases hq : w[k]? with
  | none => rw [hq] at h1; cases h1
  | some q => rw [hq] at h1; exact ⟨q, rfl, (Option.some.inj h1).symm⟩
theorem cq_adr {W0 W1 : va_W} (had : W1.map (·.1) = W0.map (·.1)) (k : Nat) (x : Nat × va_E) (h : W1[k]? = some x) : ∃ y, W0[k]? = some y ∧ y.1 = x.1 := by
  have h1 : (W1.map (·.1))[k]? = some x.1 := by rw [List.getElem?_map, h]; rfl
  rw [had, List.getElem?_map] at h1
  cases hy : W0[k]? with
  | none => rw [hy] at h1; cases h1
  | some y => rw [hy] at h1; exact ⟨y, rfl, Option.some.inj h1⟩
theorem cq_put_P {D : va_G} {A : Nat → Prop} {wl wl1 W0 W1 : va_W} {H H1 : Heap} {ps qs : List Nat} (hn : cq_new wl wl1 W1 ps qs) (hP : va_P D vwCl wl H) (hD : va_D A wl) (hps : ps.map (fun i => wl[i]?) = W0.map some) (had : W1.map (·.1) = W0.map (·.1))
    (hk : ∀ q : Nat, q < H.size → ¬ cq_in W0 q → H1[q]? = H[q]?) (hP1 : va_P D vwCl W1 H1) : va_P D vwCl wl1 H1 := by
  intro k q hq
  rcases cq_new_get hn k q hq with ⟨j, -, h2⟩ | ⟨h1, h2⟩
  · exact hP1 j q h2
  · refine (hP k q h1).kept (hk q.1 (hP k q h1).lt ?_)
    rintro ⟨x, hx, e⟩
    obtain ⟨j, hj⟩ := List.getElem?_of_mem hx
    obtain ⟨i, hi, hi2⟩ := cq_key hps j x hj
    have := hD.1 i k x q hi2 h1 e
    subst this
    exact h2 (List.mem_of_getElem? hi)
theorem cq_put_D {A : Nat → Prop} {wl wl1 W0 W1 : va_W} {ps qs : List Nat} (hn : cq_new wl wl1 W1 ps qs) (hD : va_D A wl) (hps : ps.map (fun i => wl[i]?) = W0.map some) (had : W1.map (·.1) = W0.map (·.1)) : va_D A wl1 := by
  have key : ∀ (k : Nat) (q : Nat × va_E), wl1[k]? = some q → ∃ y, wl[k]? = some y ∧ y.1 = q.1 := by
    intro k q hq
    rcases cq_new_get hn k q hq with ⟨j, h1, h2⟩ | ⟨h1, -⟩
    · obtain ⟨y, hy, e⟩ := cq_adr had j q h2
      obtain ⟨i, hi, hi2⟩ := cq_key hps j y hy
      cases Option.some.inj (hi.symm.trans h1)
      exact ⟨y, hi2, e⟩
    · exact ⟨q, h1, rfl⟩
  refine ⟨fun i j x y hi hj hxy => ?_, fun k q hk => ?_⟩
  · obtain ⟨x', h1, e1⟩ := key i x hi
    obtain ⟨y', h2, e2⟩ := key j y hj
    exact hD.1 i j x' y' h1 h2 (by rw [e1, e2]; exact hxy)
  · obtain ⟨y, h1, e⟩ := key k q hk
    rw [← e]
    exact hD.2 k y h1
theorem cq_sub_in {A : Nat → Prop} {wl W0 : va_W} {ps : List Nat} (hD : va_D A wl) (hps : ps.map (fun i => wl[i]?) = W0.map some) : ∀ q, cq_in W0 q → A q := by
  rintro q ⟨x, hx, rfl⟩
  obtain ⟨j, hj⟩ := List.getElem?_of_mem hx
  obtain ⟨i, -, hi2⟩ := cq_key hps j x hj
  exact hD.2 i x hi2
theorem cq_sub_P {D : va_G} {wl W0 : va_W} {H : Heap} {ps : List Nat} (hP : va_P D vwCl wl H) (hps : ps.map (fun i => wl[i]?) = W0.map some) : va_P D vwCl W0 H := by
  intro k q hk
  obtain ⟨i, -, h⟩ := cq_key hps k q hk
  exact hP i q h
theorem cq_self {W0 : va_W} {A : Nat → Prop} (h : va_D A W0) : va_D (cq_in W0) W0 := ⟨h.1, fun _ _ hk => ⟨_, List.mem_of_getElem? hk, rfl⟩⟩
section CQC
variable {p : Program} {l : Launch} {e : Env} {R : Room} {s : State} {m : MethodId} {args : Array Value} {below : List Frame} {meth : Method} {c : Code} {H : Heap} {locs : List Loc} {cells slots : Nat} {Q : State → Prop}
variable {y : MethodName} {bytes cc : ByteArray} {maxL nL n index pc : Nat} {ret : Option FieldType} {ws : List Cond} {rm : Room} {Ts : List Cond} {own C : String} {b : Addr} {As rest st0 : List Value} {ls : Array Slot}
variable {D : va_G} {Y : cq_Y} {W0 W1 wl : va_W} {v : Option Value} {A : Nat → Prop} {H0 : Heap}
theorem cq_afterR {a : Array Value} (hr : va_Run p l e R s m args below meth c H locs cells slots 0 0 (F0 m pc ls st0) rest (cq_R v a) (fun _ => False))
    (kk : W p l e R s m args below meth c H locs cells slots Q (F0 m (pc + 3) ls (v.toList ++ rest))) : W p l e R s m args below meth c H locs cells slots Q (F0 m pc ls st0) := by
  intro T hT X
  obtain ⟨v', st₀, t, T', L, h0, X', hL, e1, e2, ⟨hv, hh⟩, st⟩ := hr T hT X
  cases hv
  cases L with
  | cons q L => exact absurd (hL q List.mem_cons_self) id
  | nil =>
    rw [List.append_nil] at X'
    obtain ⟨t2, a1, b1⟩ := kk T' (by rw [e1, hh, h0]) X'
    exact ⟨t2, st t2 a1, b1⟩
theorem cq_afterW {a : Array Value} {ps qs : List Nat} {wl1 : va_W} (hn : cq_new wl wl1 W1 ps qs) (hr : va_Run p l e R s m args below meth c H locs cells slots 0 0 (F0 m pc ls st0) rest (cq_W D v W0 W1 a) (cq_in W0))
    (hP : va_P D vwCl wl H) (hD : va_D A wl) (hS : va_S A H0 H locs) (hps : ps.map (fun i => wl[i]?) = W0.map some) (had : W1.map (·.1) = W0.map (·.1))
    (kk : ∀ (H1 : Heap) (locs1 : List Loc), va_P D vwCl wl1 H1 → va_D A wl1 → va_S A H0 H1 locs1 → W p l e R s m args below meth c H1 locs1 cells slots Q (F0 m (pc + 3) ls (v.toList ++ rest))) : W p l e R s m args below meth c H locs cells slots Q (F0 m pc ls st0) := by
  intro T hT X
  obtain ⟨v', st₀, t, T', L, h0, X', hL, e1, e2, ⟨hv, hp, hz, hk⟩, st⟩ := hr T hT X
  cases hv
  rw [h0] at hz hk
  have hsub := cq_sub_in hD hps
  obtain ⟨t2, a1, b1⟩ := kk T'.heap (locs ++ L) (cq_put_P hn hP hD hps had (fun q h1 h2 => by rw [e1]; exact hk q h1 h2) (by rw [e1]; exact hp)) (cq_put_D hn hD hps had)
    ⟨Nat.le_trans hS.1 (by rw [e1]; exact hz), fun q h1 h2 => by rw [e1, hk q (Nat.lt_of_lt_of_le h1 hS.1) (fun z => h2 (hsub q z))]; exact hS.2.1 q h1 h2, fun q hq => by
      rcases List.mem_append.mp hq with h | h
      · exact hS.2.2 q h
      · exact hsub _ (hL q h)⟩ T' rfl X'
  exact ⟨t2, st t2 a1, b1⟩
theorem cq_pre (hG : cq_G D Y s) (hP : va_P D vwCl wl H) (hD : va_D A wl) (ps : List Nat) (hps : ps.map (fun i => wl[i]?) = W0.map some) (hnd : va_nd ps = true) (av : List Value) :
    ∀ U : State, U.heap = H → s.WarmedH U.vm → cq_P D Y W0 av av.toArray U := fun U hU hW => ⟨rfl, by rw [hU]; exact cq_sub_P hP hps, hG.warm hW, (hD.sub ps hnd hps).weaken (fun _ _ _ _ => trivial)⟩
/-- a virtual call that writes nothing -/
theorem cq_RV (S : CallFix p m c cc nL s args Ts own) (hM : cq_MR l y ws rm D Y W0 (.ref b :: As) v) (cw : CallW R s args own C index y bytes maxL ret ws rm 0 0 n) (hG : cq_G D Y s) (hP : va_P D vwCl wl H) (hD : va_D A wl)
    (ps : List Nat) (hps : ps.map (fun i => wl[i]?) = W0.map some) (hnd : va_nd ps = true) (q0 ci : Nat) {fs : List Value} {qc : vw_C} (hc : vwCl[ci]? = some qc) (he : wl[q0]? = some (b, .inr (ci, fs))) (hC : qc.1 = C)
    (hn : As.length = n) (hls : ls.size = nL) (hst : st0 = As.reverse ++ .ref b :: rest) (hroom : (rest.map fun v => v.category).sum ≤ 8) (hdg : decode cc pc = .ok (.invokevirtual index, 3)) (hf : cells ≤ R.cells ∧ slots ≤ R.slots)
    (kk : W p l e R s m args below meth c H locs cells slots Q (F0 m (pc + 3) ls (v.toList ++ rest))) : W p l e R s m args below meth c H locs cells slots Q (F0 m pc ls st0) :=
  cq_afterR (va_runV S hM cw ⟨cq_P.blind, by rw [← hC]; exact va_recv hG.1 hP hc he, cq_pre hG hP hD ps hps hnd _⟩ rfl hn hls hst (lv_room hroom) hdg hf) kk
/-- a virtual call that writes its world -/
theorem cq_WV (wl1 : va_W) (qs : List Nat) (S : CallFix p m c cc nL s args Ts own) (hM : cq_MW l y ws rm D Y W0 (.ref b :: As) v W1) (cw : CallW R s args own C index y bytes maxL ret ws rm 0 0 n) (hG : cq_G D Y s) (hP : va_P D vwCl wl H) (hD : va_D A wl) (hS : va_S A H0 H locs)
    (ps : List Nat) (hps : ps.map (fun i => wl[i]?) = W0.map some) (hnd : va_nd ps = true) (hn1 : cq_new wl wl1 W1 ps qs) (hadr : ∃ ad : List Nat, W1.map (·.1) = ad ∧ W0.map (·.1) = ad) (q0 ci : Nat) {fs : List Value} {qc : vw_C} (hc : vwCl[ci]? = some qc) (he : wl[q0]? = some (b, .inr (ci, fs))) (hC : qc.1 = C)
    (hn : As.length = n) (hls : ls.size = nL) (hst : st0 = As.reverse ++ .ref b :: rest) (hroom : (rest.map fun v => v.category).sum ≤ 8) (hdg : decode cc pc = .ok (.invokevirtual index, 3)) (hf : cells ≤ R.cells ∧ slots ≤ R.slots)
    (kk : ∀ (H1 : Heap) (locs1 : List Loc), va_P D vwCl wl1 H1 → va_D A wl1 → va_S A H0 H1 locs1 → W p l e R s m args below meth c H1 locs1 cells slots Q (F0 m (pc + 3) ls (v.toList ++ rest))) : W p l e R s m args below meth c H locs cells slots Q (F0 m pc ls st0) :=
  cq_afterW hn1 (va_runV S hM cw ⟨cq_P.blind, by rw [← hC]; exact va_recv hG.1 hP hc he, cq_pre hG hP hD ps hps hnd _⟩ rfl hn hls hst (lv_room hroom) hdg hf) hP hD hS hps (hadr.elim fun _ h => h.1.trans h.2.symm) kk
/-- static ones -/
theorem cq_RS (S : CallFix p m c cc nL s args Ts own) (hM : cq_MR l y ws rm D Y W0 As v) (cw : CallB R s args own index y bytes maxL ret ws rm 0 0 n ∧ (Cond.static y).before args s = true) (hG : cq_G D Y s) (hP : va_P D vwCl wl H) (hD : va_D A wl)
    (ps : List Nat) (hps : ps.map (fun i => wl[i]?) = W0.map some) (hnd : va_nd ps = true)
    (hn : As.length = n) (hls : ls.size = nL) (hst : st0 = As.reverse ++ rest) (hroom : (rest.map fun v => v.category).sum ≤ 8) (hdg : decode cc pc = .ok (.invokestatic index, 3)) (hf : cells ≤ R.cells ∧ slots ≤ R.slots)
    (kk : W p l e R s m args below meth c H locs cells slots Q (F0 m (pc + 3) ls (v.toList ++ rest))) : W p l e R s m args below meth c H locs cells slots Q (F0 m pc ls st0) :=
  cq_afterR (va_runS S hM cw ⟨cq_P.blind, cq_pre hG hP hD ps hps hnd _⟩ rfl hn hls hst (lv_room hroom) hdg hf) kk
theorem cq_WS (wl1 : va_W) (qs : List Nat) (S : CallFix p m c cc nL s args Ts own) (hM : cq_MW l y ws rm D Y W0 As v W1) (cw : CallB R s args own index y bytes maxL ret ws rm 0 0 n ∧ (Cond.static y).before args s = true) (hG : cq_G D Y s) (hP : va_P D vwCl wl H) (hD : va_D A wl) (hS : va_S A H0 H locs)
    (ps : List Nat) (hps : ps.map (fun i => wl[i]?) = W0.map some) (hnd : va_nd ps = true) (hn1 : cq_new wl wl1 W1 ps qs) (hadr : ∃ ad : List Nat, W1.map (·.1) = ad ∧ W0.map (·.1) = ad)
    (hn : As.length = n) (hls : ls.size = nL) (hst : st0 = As.reverse ++ rest) (hroom : (rest.map fun v => v.category).sum ≤ 8) (hdg : decode cc pc = .ok (.invokestatic index, 3)) (hf : cells ≤ R.cells ∧ slots ≤ R.slots)
    (kk : ∀ (H1 : Heap) (locs1 : List Loc), va_P D vwCl wl1 H1 → va_D A wl1 → va_S A H0 H1 locs1 → W p l e R s m args below meth c H1 locs1 cells slots Q (F0 m (pc + 3) ls (v.toList ++ rest))) : W p l e R s m args below meth c H locs cells slots Q (F0 m pc ls st0) :=
  cq_afterW hn1 (va_runS S hM cw ⟨cq_P.blind, cq_pre hG hP hD ps hps hnd _⟩ rfl hn hls hst (lv_room hroom) hdg hf) hP hD hS hps (hadr.elim fun _ h => h.1.trans h.2.symm) kk
end CQC
/-- a body, from its entry -/
def cq_E (p : Program) (s : State) (m : MethodId) (meth : Method) (c : Code) (y : MethodName) (cc : ByteArray) (maxL : Nat) (ret : Option FieldType) (ws : List Cond) (av : List Value) : Prop :=
  p.tables.exec = Jvm.exec ∧ c.code = cc ∧ meth.sig.returnType = ret ∧ c.maxLocals = maxL ∧ (∀ w ∈ ws, w.before av.toArray s = true) ∧ s.vm.findClass y.cls = some m.cls ∧ meth.name = y.name ∧ meth.locks = false
theorem cq_body {l : Launch} {y : MethodName} {ws ws' : List Cond} {rm : Room} {D : va_G} {Y : cq_Y} {W0 : va_W} {av : List Value} {Qc : Array Value → State → Outcome → State → Prop} {mc ms : Nat} {free : Addr → Prop} {cc : ByteArray} {maxL : Nat} {ret : Option FieldType}
    (hy : plainName y.cls = true) (hw : ws = Cond.code y cc maxL ret :: ws') (hlv : (lg_sl av).length ≤ maxL)
    (body : ∀ p e s m below meth c, cq_E p s m meth c y cc maxL ret ws av → va_P D vwCl W0 s.heap → cq_G D Y s → va_D (cq_in W0) W0 → ∀ ls : Array Slot, lv_has ls maxL (lv_args 0 av) →
      W p l e rm s m av.toArray below meth c s.heap [] 0 0 (MQ below Qc av.toArray s mc ms free) (F0 m 0 ls [])) : Met l y ws rm (cq_P D Y W0 av) Qc mc ms free := by
  refine Met.ofW hy hw ?_
  intro p e s m args below meth c s₁ B hml hv
  obtain ⟨rfl, hP, hG, hD⟩ := hv
  rw [lg_entry_eq]
  exact body p e s m below meth c ⟨B.exec, B.bytes, B.returns, hml, atoms_spec (ws := ws) B.pre, findClass_of_methodNamed B.named, (name_of_methodNamed B.named B.method).1, B.notSynchronized⟩ hP hG (cq_self hD) _ (lv_entry av hlv)
section CQE
variable {p : Program} {l : Launch} {e : Env} {R : Room} {s : State} {m : MethodId} {args : Array Value} {below : List Frame} {meth : Method} {c : Code} {H : Heap} {locs : List Loc} {cells slots : Nat} {Q : State → Prop}
variable {cc : ByteArray} {pc : Nat} {ls : Array Slot} {D : va_G} {W0 W1 wl : va_W} {free : Addr → Prop}
theorem cq_rI {v : Option Value} {x : Int32} {ty : FieldType} (hx : p.tables.exec = Jvm.exec) (hb : c.code = cc) (hr : meth.sig.returnType = some ty) (hlocks : meth.locks = false) (hn : narrow ty (.int x) = .int x) (hv : v = some (.int x)) (hdg : decode cc pc = .ok (.ireturn, 1)) : W p l e R s m args below meth c s.heap [] 0 0 (MQ below (cq_R v) args s 0 0 free) (F0 m pc ls [.int x]) :=
  W.zret hx hb hr hn (fun t ht _ => ⟨by rw [hv], ht⟩) (fun _ h => by cases h) hdg hlocks
theorem cq_wI {v : Option Value} {x : Int32} {ty : FieldType} (hx : p.tables.exec = Jvm.exec) (hb : c.code = cc) (hr : meth.sig.returnType = some ty) (hlocks : meth.locks = false) (hn : narrow ty (.int x) = .int x) (hP : va_P D vwCl wl H) (hS : va_S (cq_in W0) s.heap H locs) (hv : v = some (.int x)) (hW : W1 = wl) (hdg : decode cc pc = .ok (.ireturn, 1)) : W p l e R s m args below meth c H locs 0 0 (MQ below (cq_W D v W0 W1) args s 0 0 (cq_in W0)) (F0 m pc ls [.int x]) :=
  W.zret hx hb hr hn (fun t ht _ => ⟨by rw [hv], by rw [ht, hW]; exact hP, hS.F ht⟩) hS.2.2 hdg hlocks
theorem cq_wV {v : Option Value} (hx : p.tables.exec = Jvm.exec) (hb : c.code = cc) (hr : meth.sig.returnType = none) (hlocks : meth.locks = false) (hP : va_P D vwCl wl H) (hS : va_S (cq_in W0) s.heap H locs) (hv : v = none) (hW : W1 = wl) (hdg : decode cc pc = .ok (.return_, 1)) : W p l e R s m args below meth c H locs 0 0 (MQ below (cq_W D v W0 W1) args s 0 0 (cq_in W0)) (F0 m pc ls []) :=
  W.vret hx hb hr (fun t ht _ => ⟨by rw [hv], by rw [ht, hW]; exact hP, hS.F ht⟩) hS.2.2 hdg hlocks
end CQE
