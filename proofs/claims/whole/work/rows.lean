section
-- ===== PART A: goes FIRST, ahead of the names: the tables' words, and 'selects' of the private methods out of them =====
/-- a private method of a class that the tables say can be made, by its rows of tables_1 -/
def lw_okq (q : MethodName × Nat) : Prop := (q.1.cls ≠ "java/lang/invoke/MethodHandle" ∧ q.1.cls ≠ "java/lang/invoke/VarHandle") ∧ Cond.instantiable q.1.cls q.2 ∈ tables_1 ∧ Cond.privateMethod q.1 ∈ tables_1 ∧ Cond.instanceMethod q.1 ∈ tables_1
theorem lw_p0 : lw_okq (⟨"CatalogueLoader$Catalogue", "values", "(I)I"⟩, 7) := ⟨⟨by decide +kernel, by decide +kernel⟩, List.mem_of_getElem? (i := 155) (by decide +kernel), List.mem_of_getElem? (i := 245) (by decide +kernel), List.mem_of_getElem? (i := 246) (by decide +kernel)⟩
theorem lw_p1 : lw_okq (⟨"CatalogueLoader", "doAllAnew", "(LCatalogueLoader$Catalogue;)V"⟩, 5) := ⟨⟨by decide +kernel, by decide +kernel⟩, List.mem_of_getElem? (i := 18) (by decide +kernel), List.mem_of_getElem? (i := 258) (by decide +kernel), List.mem_of_getElem? (i := 259) (by decide +kernel)⟩
theorem lw_p2 : lw_okq (⟨"CatalogueLoader", "doStep", "(LCatalogueLoader$Catalogue;I)V"⟩, 5) := ⟨⟨by decide +kernel, by decide +kernel⟩, List.mem_of_getElem? (i := 18) (by decide +kernel), List.mem_of_getElem? (i := 274) (by decide +kernel), List.mem_of_getElem? (i := 275) (by decide +kernel)⟩
theorem lw_p3 : lw_okq (⟨"CatalogueLoader$Catalogue", "target", "(LCatalogueLoader$Settings;LCatalogueLoader$Loads;I)I"⟩, 7) := ⟨⟨by decide +kernel, by decide +kernel⟩, List.mem_of_getElem? (i := 155) (by decide +kernel), List.mem_of_getElem? (i := 288) (by decide +kernel), List.mem_of_getElem? (i := 289) (by decide +kernel)⟩
theorem lw_p4 : lw_okq (⟨"CatalogueLoader$Catalogue", "find", "(II)I"⟩, 7) := ⟨⟨by decide +kernel, by decide +kernel⟩, List.mem_of_getElem? (i := 155) (by decide +kernel), List.mem_of_getElem? (i := 292) (by decide +kernel), List.mem_of_getElem? (i := 293) (by decide +kernel)⟩
theorem lw_p5 : lw_okq (⟨"CatalogueLoader$Catalogue", "layKeys", "(LCatalogueLoader$Loads;II)V"⟩, 7) := ⟨⟨by decide +kernel, by decide +kernel⟩, List.mem_of_getElem? (i := 155) (by decide +kernel), List.mem_of_getElem? (i := 297) (by decide +kernel), List.mem_of_getElem? (i := 298) (by decide +kernel)⟩
theorem lw_p6 : lw_okq (⟨"CatalogueLoader$Catalogue", "layFields", "(LCatalogueLoader$Settings;LCatalogueLoader$Loads;II)V"⟩, 7) := ⟨⟨by decide +kernel, by decide +kernel⟩, List.mem_of_getElem? (i := 155) (by decide +kernel), List.mem_of_getElem? (i := 305) (by decide +kernel), List.mem_of_getElem? (i := 306) (by decide +kernel)⟩
theorem lw_p7 : lw_okq (⟨"java/lang/Throwable", "fillInStackTrace", "(I)Ljava/lang/Throwable;"⟩, 6) := ⟨⟨by decide +kernel, by decide +kernel⟩, List.mem_of_getElem? (i := 378) (by decide +kernel), List.mem_of_getElem? (i := 376) (by decide +kernel), List.mem_of_getElem? (i := 377) (by decide +kernel)⟩
theorem lw_p8 : lw_okq (⟨"CatalogueLoader", "needNothingLoaded", "()V"⟩, 5) := ⟨⟨by decide +kernel, by decide +kernel⟩, List.mem_of_getElem? (i := 18) (by decide +kernel), List.mem_of_getElem? (i := 427) (by decide +kernel), List.mem_of_getElem? (i := 428) (by decide +kernel)⟩
theorem lw_p9 : lw_okq (⟨"CatalogueLoader", "needRecord", "(I)V"⟩, 5) := ⟨⟨by decide +kernel, by decide +kernel⟩, List.mem_of_getElem? (i := 18) (by decide +kernel), List.mem_of_getElem? (i := 517) (by decide +kernel), List.mem_of_getElem? (i := 518) (by decide +kernel)⟩
theorem lw_p10 : lw_okq (⟨"CatalogueLoader", "needActLeft", "()V"⟩, 5) := ⟨⟨by decide +kernel, by decide +kernel⟩, List.mem_of_getElem? (i := 18) (by decide +kernel), List.mem_of_getElem? (i := 522) (by decide +kernel), List.mem_of_getElem? (i := 523) (by decide +kernel)⟩
theorem lw_p11 : lw_okq (⟨"CatalogueLoaderModel", "emptyDraft", "()V"⟩, 25) := ⟨⟨by decide +kernel, by decide +kernel⟩, List.mem_of_getElem? (i := 596) (by decide +kernel), List.mem_of_getElem? (i := 602) (by decide +kernel), List.mem_of_getElem? (i := 603) (by decide +kernel)⟩
theorem lw_p12 : lw_okq (⟨"CatalogueLoaderModel", "add", "(III)V"⟩, 25) := ⟨⟨by decide +kernel, by decide +kernel⟩, List.mem_of_getElem? (i := 596) (by decide +kernel), List.mem_of_getElem? (i := 718) (by decide +kernel), List.mem_of_getElem? (i := 719) (by decide +kernel)⟩
theorem lw_p13 : lw_okq (⟨"CatalogueLoaderModel", "perform", "(I)V"⟩, 25) := ⟨⟨by decide +kernel, by decide +kernel⟩, List.mem_of_getElem? (i := 596) (by decide +kernel), List.mem_of_getElem? (i := 722) (by decide +kernel), List.mem_of_getElem? (i := 723) (by decide +kernel)⟩
theorem lw_p14 : lw_okq (⟨"CatalogueLoaderModel", "doLoad", "(I)V"⟩, 25) := ⟨⟨by decide +kernel, by decide +kernel⟩, List.mem_of_getElem? (i := 596) (by decide +kernel), List.mem_of_getElem? (i := 726) (by decide +kernel), List.mem_of_getElem? (i := 727) (by decide +kernel)⟩
theorem lw_p15 : lw_okq (⟨"CatalogueLoaderModel", "match", "(I)I"⟩, 25) := ⟨⟨by decide +kernel, by decide +kernel⟩, List.mem_of_getElem? (i := 596) (by decide +kernel), List.mem_of_getElem? (i := 730) (by decide +kernel), List.mem_of_getElem? (i := 731) (by decide +kernel)⟩
def lw_privs_1 : List (MethodName × Nat) := [(⟨"CatalogueLoader$Catalogue", "values", "(I)I"⟩, 7), (⟨"CatalogueLoader", "doAllAnew", "(LCatalogueLoader$Catalogue;)V"⟩, 5), (⟨"CatalogueLoader", "doStep", "(LCatalogueLoader$Catalogue;I)V"⟩, 5), (⟨"CatalogueLoader$Catalogue", "target", "(LCatalogueLoader$Settings;LCatalogueLoader$Loads;I)I"⟩, 7), (⟨"CatalogueLoader$Catalogue", "find", "(II)I"⟩, 7), (⟨"CatalogueLoader$Catalogue", "layKeys", "(LCatalogueLoader$Loads;II)V"⟩, 7), (⟨"CatalogueLoader$Catalogue", "layFields", "(LCatalogueLoader$Settings;LCatalogueLoader$Loads;II)V"⟩, 7), (⟨"java/lang/Throwable", "fillInStackTrace", "(I)Ljava/lang/Throwable;"⟩, 6), (⟨"CatalogueLoader", "needNothingLoaded", "()V"⟩, 5), (⟨"CatalogueLoader", "needRecord", "(I)V"⟩, 5), (⟨"CatalogueLoader", "needActLeft", "()V"⟩, 5), (⟨"CatalogueLoaderModel", "emptyDraft", "()V"⟩, 25), (⟨"CatalogueLoaderModel", "add", "(III)V"⟩, 25), (⟨"CatalogueLoaderModel", "perform", "(I)V"⟩, 25), (⟨"CatalogueLoaderModel", "doLoad", "(I)V"⟩, 25), (⟨"CatalogueLoaderModel", "match", "(I)I"⟩, 25)]
theorem lw_r1 : ∀ q ∈ lw_privs_1, lw_okq q := List.forall_mem_cons.mpr ⟨lw_p0, List.forall_mem_cons.mpr ⟨lw_p1, List.forall_mem_cons.mpr ⟨lw_p2, List.forall_mem_cons.mpr ⟨lw_p3, List.forall_mem_cons.mpr ⟨lw_p4, List.forall_mem_cons.mpr ⟨lw_p5, List.forall_mem_cons.mpr ⟨lw_p6, List.forall_mem_cons.mpr ⟨lw_p7, List.forall_mem_cons.mpr ⟨lw_p8, List.forall_mem_cons.mpr ⟨lw_p9, List.forall_mem_cons.mpr ⟨lw_p10, List.forall_mem_cons.mpr ⟨lw_p11, List.forall_mem_cons.mpr ⟨lw_p12, List.forall_mem_cons.mpr ⟨lw_p13, List.forall_mem_cons.mpr ⟨lw_p14, List.forall_mem_cons.mpr ⟨lw_p15, fun _ h => absurd h List.not_mem_nil⟩⟩⟩⟩⟩⟩⟩⟩⟩⟩⟩⟩⟩⟩⟩⟩
theorem lw_p16 : lw_okq (⟨"CatalogueLoaderModel", "makeRecord", "(I)V"⟩, 25) := ⟨⟨by decide +kernel, by decide +kernel⟩, List.mem_of_getElem? (i := 596) (by decide +kernel), List.mem_of_getElem? (i := 734) (by decide +kernel), List.mem_of_getElem? (i := 735) (by decide +kernel)⟩
theorem lw_p17 : lw_okq (⟨"CatalogueLoaderModel", "layOver", "(II)V"⟩, 25) := ⟨⟨by decide +kernel, by decide +kernel⟩, List.mem_of_getElem? (i := 596) (by decide +kernel), List.mem_of_getElem? (i := 738) (by decide +kernel), List.mem_of_getElem? (i := 739) (by decide +kernel)⟩
theorem lw_p18 : lw_okq (⟨"CatalogueLoaderModel", "doMerge", "(II)V"⟩, 25) := ⟨⟨by decide +kernel, by decide +kernel⟩, List.mem_of_getElem? (i := 596) (by decide +kernel), List.mem_of_getElem? (i := 742) (by decide +kernel), List.mem_of_getElem? (i := 743) (by decide +kernel)⟩
theorem lw_p19 : lw_okq (⟨"CatalogueLoaderModel", "isRecord", "(I)Z"⟩, 25) := ⟨⟨by decide +kernel, by decide +kernel⟩, List.mem_of_getElem? (i := 596) (by decide +kernel), List.mem_of_getElem? (i := 750) (by decide +kernel), List.mem_of_getElem? (i := 751) (by decide +kernel)⟩
theorem lw_p20 : lw_okq (⟨"CatalogueLoaderModel", "makeAnew", "()V"⟩, 25) := ⟨⟨by decide +kernel, by decide +kernel⟩, List.mem_of_getElem? (i := 596) (by decide +kernel), List.mem_of_getElem? (i := 766) (by decide +kernel), List.mem_of_getElem? (i := 767) (by decide +kernel)⟩
theorem lw_p21 : lw_okq (⟨"CatalogueLoaderModel", "recordMany", "()I"⟩, 25) := ⟨⟨by decide +kernel, by decide +kernel⟩, List.mem_of_getElem? (i := 596) (by decide +kernel), List.mem_of_getElem? (i := 770) (by decide +kernel), List.mem_of_getElem? (i := 771) (by decide +kernel)⟩
theorem lw_p22 : lw_okq (⟨"CatalogueLoaderModel", "sum", "()I"⟩, 25) := ⟨⟨by decide +kernel, by decide +kernel⟩, List.mem_of_getElem? (i := 596) (by decide +kernel), List.mem_of_getElem? (i := 818) (by decide +kernel), List.mem_of_getElem? (i := 819) (by decide +kernel)⟩
def lw_privs_2 : List (MethodName × Nat) := [(⟨"CatalogueLoaderModel", "makeRecord", "(I)V"⟩, 25), (⟨"CatalogueLoaderModel", "layOver", "(II)V"⟩, 25), (⟨"CatalogueLoaderModel", "doMerge", "(II)V"⟩, 25), (⟨"CatalogueLoaderModel", "isRecord", "(I)Z"⟩, 25), (⟨"CatalogueLoaderModel", "makeAnew", "()V"⟩, 25), (⟨"CatalogueLoaderModel", "recordMany", "()I"⟩, 25), (⟨"CatalogueLoaderModel", "sum", "()I"⟩, 25)]
theorem lw_r2 : ∀ q ∈ lw_privs_2, lw_okq q := List.forall_mem_cons.mpr ⟨lw_p16, List.forall_mem_cons.mpr ⟨lw_p17, List.forall_mem_cons.mpr ⟨lw_p18, List.forall_mem_cons.mpr ⟨lw_p19, List.forall_mem_cons.mpr ⟨lw_p20, List.forall_mem_cons.mpr ⟨lw_p21, List.forall_mem_cons.mpr ⟨lw_p22, fun _ h => absurd h List.not_mem_nil⟩⟩⟩⟩⟩⟩⟩
def lw_privs : List (MethodName × Nat) := lw_privs_1 ++ (lw_privs_2)
def lw_tbl : List Cond := k2_sels lw_privs ++ tables_1
theorem lw_privs_ok : ∀ q ∈ lw_privs, lw_okq q := by
  show ∀ q ∈ lw_privs_1 ++ (lw_privs_2), lw_okq q
  exact List.forall_mem_append.mpr ⟨lw_r1, lw_r2⟩
/-! ===== BEGIN words of one list among another's, by their places ===== -/
theorem goodIn_r {big : List Cond} (ws : List Cond) (ps : List Nat) (hp : ws = ps.filterMap (fun i => big[i]?)) (h : ws.all goodWord = true) : GoodIn big ws := by
  intro w hw
  have h1 := List.all_eq_true.mp h w hw
  rw [hp] at hw
  obtain ⟨i, -, hi⟩ := List.mem_filterMap.mp hw
  have hm : w ∈ big := by first | exact List.mem_of_getElem? hi | exact List.getElem?_mem hi
  exact ⟨hm, good_of_word h1⟩
theorem goodIn_app {big a b : List Cond} (ha : GoodIn big a) (hb : GoodIn big b) : GoodIn big (a ++ b) := fun w h => (List.mem_append.mp h).elim (ha w) (hb w)
theorem goodIn_ca {big a b : List Cond} {c : Cond} (ha : GoodIn big (c :: a)) (hb : GoodIn big b) : GoodIn big (c :: (a ++ b)) := fun w h => (List.mem_cons.mp h).elim (fun e => ha w (List.mem_cons.mpr (Or.inl e))) (fun h => (List.mem_append.mp h).elim (fun h => ha w (List.mem_cons.mpr (Or.inr h))) (hb w))
theorem goodIn_sub {big ws : List Cond} (hm : ∀ w ∈ ws, w ∈ big) (h : ws.all goodWord = true) : GoodIn big ws := fun w hw => ⟨hm w hw, good_of_word (List.all_eq_true.mp h w hw)⟩
/-! ===== END ===== -/

/-! ===== BEGIN exceptions that leave a method, and their catching by the caller (launches without stack traces) ===== -/
section VXA
/-! The laws vx_back, vx_callV, vx_callS, vx_callSW, vx_throw0, vx_throwS follow proofs of the library, with one case more: JvmDerived/Free/Laws.lean (Back.of_free), Shelf42/LK1.lean (callV, callS), Shelf/KitTraced.lean (throwNew0V, throwNewS). -/
/-- where a method has thrown q: the class by its name, the cell, what was written, the world -/
def vx_T (XC : String → State → State → Prop) (st : State) (q : Addr) (t : State) (mc ms : Nat) (free : Addr → Prop) : Prop :=
  ∃ (E : String) (ce : Cell) (L : List Loc), XC E st t ∧ t.heap[q]? = some ce ∧ ce.vm = .none ∧ st.vm.findClass E = some ce.cls ∧ st.WarmedH t.vm ∧ st.sameButNew ({ t with vm := st.vm } : State) L mc ms ∧ ∀ z ∈ L, free z.base
def vx_Q (Qc : Array Value → State → Outcome → State → Prop) (XC : String → State → State → Prop) (mc ms : Nat) (free : Addr → Prop) : Array Value → State → Outcome → State → Prop := fun a st o t =>
  (Qc a st o t ∧ ∃ L, FrameEnd st o t L mc ms ∧ ∀ q ∈ L, free q.base) ∨ ∃ q, o = .threw q ∧ vx_T XC st q t mc ms free
/-- a callee that returns or throws -/
def vx_Met (l : Launch) (y : MethodName) (ws : List Cond) (rm : Room) (Pc : Array Value → State → Prop) (Qc : Array Value → State → Outcome → State → Prop) (XC : String → State → State → Prop) (mc ms : Nat) (free : Addr → Prop) : Prop :=
  MetFree l y (headSpec ws rm) Pc (fun _ _ _ _ _ => True) (vx_Q Qc XC mc ms free)
def vx_Post (XC : String → State → State → Prop) (mc ms : Nat) (free : Addr → Prop) : Pt → Array Value → Addr → Pt → Prop := fun A a q B =>
  ∃ (g : JFrame) (mk : MethodId) (t : State) (L : List Loc) (E : String) (ce : Cell), B.U.heap = t.heap ∧ B.U.vm = t.vm ∧ XC E (A.U.calling g mk a) t ∧ t.heap[q]? = some ce ∧ ce.vm = .none ∧ A.U.vm.findClass E = some ce.cls ∧ B.locs = A.locs ++ L ∧ (∀ z ∈ L, free z.base) ∧ B.cells = A.cells + mc ∧ B.slots = A.slots + ms
def vx_Back (l : Launch) (R : Room) (p : Program) (e : Env) (below : List Frame) (s : State) (sargs : Array Value) (y : MethodName) (len W9 : Nat)
    (Pre : Pt → Array Value → Prop) (Post : Pt → Array Value → Option Value → Pt → Prop) (PostX : Pt → Array Value → Addr → Pt → Prop) : Prop :=
  ∀ (m : MethodId) (meth : Method) (c : Code) (A : Pt) (g : JFrame) (ig : Instr) (mk : MethodId) (a : Array Value),
    Stand p l e R s m sargs below meth c A.U A.locs A.cells A.slots → g.method = m → g.locals.size = c.maxLocals → decode c.code g.pc = .ok (ig, len) →
    2 * g.monitorRoom + (g.stack.map fun v => v.category).sum ≤ W9 → A.U.methodNamed? y = some mk → Pre A a →
    (∃ (v : Option Value) (B : Pt), Stand p l e R s m sargs below meth c B.U B.locs B.cells B.slots ∧ Post A a v B ∧
      Steps p.tables e below (doInvoke e (A.U.setTop g) [] mk a).1 (B.U.setTop { g with pc := g.pc + len, stack := v.toList ++ g.stack })) ∨
    (∃ (q : Addr) (B : Pt), Stand p l e R s m sargs below meth c B.U B.locs B.cells B.slots ∧ PostX A a q B ∧
      Steps p.tables e below (doInvoke e (A.U.setTop g) [] mk a).1 ((B.U.setTop g).pushFrame (.throwing q)))
section Payer
variable {l : Launch} {R : Room} {p : Program} {e : Env} {below : List Frame} {s : State} {sargs : Array Value} {y : MethodName} {len W9 : Nat}
theorem vx_back {ws : List Cond} {rm : Room} {Pc : Array Value → State → Prop} {Qc : Array Value → State → Outcome → State → Prop} {XC : String → State → State → Prop} {mc ms : Nat} {free : Addr → Prop} {bytes : ByteArray} {maxL : Nat} {ret : Option FieldType}
    (hM : vx_Met l y ws rm Pc Qc XC mc ms free) (hblind : FrameBlind Pc) (hrc : rm.cells = mc) (hrs : rm.slots = ms)
    (hframes : rm.frames + 1 ≤ R.frames) (hlocals : W9 + (maxL + 11) + rm.locals ≤ R.locals)
    (hws : ∀ w ∈ ws, ∀ a' U, s.WarmedH U.vm → w.before a' U = true) (hcode : Cond.code y bytes maxL ret ∈ ws) (hinit : ∀ a' U, s.WarmedH U.vm → (Cond.initialized y.cls).before a' U = true) :
    vx_Back l R p e below s sargs y len W9 (PreOf R mc ms Pc) (PostOf Qc mc ms free) (vx_Post XC mc ms free) := by
  intro m meth c A g ig mk a X hg hsize hdg hW hn hp
  have h1 : (headSpec ws rm).pre.before a A.U = true := atoms_intro fun w hw => hws w hw _ _ X.warmed
  have h2 : (Cond.code y bytes maxL ret).before a A.U = true := hws _ hcode _ _ X.warmed
  have h3 : (Cond.initialized y.cls).before a A.U = true := hinit _ _ X.warmed
  have h4 : A.cells + (headSpec ws rm).room.cells ≤ R.cells := by rw [show (headSpec ws rm).room.cells = mc from hrc]; exact hp.1
  have h5 : A.slots + (headSpec ws rm).room.slots ≤ R.slots := by rw [show (headSpec ws rm).room.slots = ms from hrs]; exact hp.2.1
  have hPc : Pc a (A.U.calling g mk a) := hblind _ _ _ _ hp.2.2
  obtain ⟨U, Ls, c0, s0⟩ := A
  dsimp only [Pt.U, Pt.locs, Pt.cells, Pt.slots] at h1 h2 h3 h4 h5 X hn hPc ⊢
  obtain ⟨methY, cY, hmY, hcY, -, hlY, -, -, -, -⟩ := Cond.code_spec hn h2
  obtain ⟨kY, hkY, -⟩ := className_of_methodNamed hn
  have hinitY : kY.init = .initialized := Cond.initialized_spec (findClass_of_methodNamed hn) hkY h3
  have h : At U g.method c below := by rw [hg]; exact X.here
  have hlocals9 : W9 + (maxL + 11) + (headSpec ws rm).room.locals ≤ R.locals := hlocals
  have happ : (headSpec ws rm).appliesLoose y e.platform (U.calling g mk a) = true :=
    Spec.appliesLoose_calling (g := g) h hdg hn hkY hinitY
      (X.room_calling (g := g) (R' := (headSpec ws rm).room) hsize hmY hcY hframes (by rw [hlY]; omega) h4 h5) h1
  obtain ⟨mid, hmid⟩ := h.above
  have hfr : (U.setTop g).frames = (.java g :: mid) ++ below := by rw [State.frames_setTop' g h.top, hmid]; rfl
  obtain ⟨o, s₂, hsteps, -, hend, hq⟩ := Steps.callFree hM p X.admits X.cas X.clock (acts := []) hfr happ hPc trivial
  have hq' : vx_Q Qc XC mc ms free a (U.calling g mk a) o s₂ := hq
  rw [State.frames_setTop' g h.top] at hend
  obtain ⟨g₀, hg0⟩ := Option.isSome_iff_exists.mp h.top
  obtain ⟨r, hr⟩ := State.topJava?_eq_some.mp hg0
  have hr' : (({ U with heap := s₂.heap, slotsUsed := s₂.slotsUsed } : State).setVm s₂.vm).frames = .java g₀ :: r := hr
  rcases hq' with ⟨hqc, L, hfe, hL⟩ | ⟨q, rfl, E, ce, L, hx, hce, hcv, hcl, hW₂, hsm, hL⟩
  · obtain ⟨⟨v, rfl⟩, hW₂, e2, q2, q3, q4, q5, q6⟩ := id hfe
    have e3 : s₂ = ({ (U.calling g mk a).setFrames s₂.frames with heap := s₂.heap, slotsUsed := s₂.slotsUsed } : State).setVm s₂.vm := by
      have : s₂ = ({ s₂ with vm := (U.calling g mk a).vm } : State).setVm s₂.vm := rfl
      rw [e2] at this
      exact this
    obtain ⟨c₂, i₂, len₂, hc₂, hd₂, hf₂⟩ := hend
    have hW' : U.WarmedH s₂.vm := hW₂
    have hcc : c₂ = c := by
      have h1 : s₂.code? g.method = U.code? g.method := by
        rw [State.code?_eq, State.code?_eq, hW'.alike.method?]
      exact Option.some.inj (hc₂.symm.trans (h1.trans h.code))
    subst hcc
    have hlen : len₂ = len := by rw [hdg] at hd₂; cases hd₂; rfl
    subst hlen
    have hs₂ : s₂ = (({ U with heap := s₂.heap, slotsUsed := s₂.slotsUsed } : State).setVm s₂.vm).setTop { g with pc := g.pc + len₂, stack := v.toList ++ g.stack } := by
      refine e3.trans ?_
      rw [hf₂, State.calling_eq h.top, State.setFrames_setFrames, State.setTop_of_frames _ hr', hr]
      rfl
    have hsame : U.sameButNew ({ U with heap := s₂.heap, slotsUsed := s₂.slotsUsed } : State) L mc ms := by
      refine ⟨?_, q2, q3, q4, q5, q6⟩
      obtain ⟨t, ht, -⟩ := State.frames_cons hr
      show ({ U with heap := s₂.heap, slotsUsed := s₂.slotsUsed } : State) = { U.setFrames U.frames with heap := s₂.heap, slotsUsed := s₂.slotsUsed }
      rw [State.setFrames_self ht]
    subst hg
    refine Or.inl ⟨v, ⟨(({ U with heap := s₂.heap, slotsUsed := s₂.slotsUsed } : State).setVm s₂.vm), Ls ++ L, c0 + mc, s0 + ms⟩,
      ⟨X.admits, X.cas, X.clock, X.frames, X.room, X.hears, X.method, X.code, (X.here.setHeapUsed s₂.heap s₂.slotsUsed).setVm hW'.alike, X.tail, State.WarmedH.trans X.warmed hW', X.limits, X.bytes, X.same.trans (hsame.setVm s.vm)⟩,
      ⟨g, mk, s₂, L, rfl, rfl, hqc, rfl, hL, rfl, rfl⟩, ?_⟩
    show Steps p.tables e below _ ((({ U with heap := s₂.heap, slotsUsed := s₂.slotsUsed } : State).setVm s₂.vm).setTop { g with pc := g.pc + len₂, stack := v.toList ++ g.stack })
    rw [← hs₂]
    exact hsteps
  · obtain ⟨e2, q2, q3, q4, q5, q6⟩ := id hsm
    have e3 : s₂ = ({ (U.calling g mk a).setFrames s₂.frames with heap := s₂.heap, slotsUsed := s₂.slotsUsed } : State).setVm s₂.vm := by
      have : s₂ = ({ s₂ with vm := (U.calling g mk a).vm } : State).setVm s₂.vm := rfl
      rw [e2] at this
      exact this
    have hf₂ : s₂.frames = .throwing q :: .java g :: U.frames.tail := hend
    have hW' : U.WarmedH s₂.vm := hW₂
    have hs₂ : s₂ = ((({ U with heap := s₂.heap, slotsUsed := s₂.slotsUsed } : State).setVm s₂.vm).setTop g).pushFrame (.throwing q) := by
      refine e3.trans ?_
      rw [hf₂, State.calling_eq h.top, State.setFrames_setFrames, State.pushFrame, State.frames_setTop _ hr', State.setTop_of_frames _ hr', State.setFrames_setFrames, hr]
      rfl
    have hsame : U.sameButNew ({ U with heap := s₂.heap, slotsUsed := s₂.slotsUsed } : State) L mc ms := by
      refine ⟨?_, q2, q3, q4, q5, q6⟩
      obtain ⟨t, ht, -⟩ := State.frames_cons hr
      show ({ U with heap := s₂.heap, slotsUsed := s₂.slotsUsed } : State) = { U.setFrames U.frames with heap := s₂.heap, slotsUsed := s₂.slotsUsed }
      rw [State.setFrames_self ht]
    subst hg
    refine Or.inr ⟨q, ⟨(({ U with heap := s₂.heap, slotsUsed := s₂.slotsUsed } : State).setVm s₂.vm), Ls ++ L, c0 + mc, s0 + ms⟩,
      ⟨X.admits, X.cas, X.clock, X.frames, X.room, X.hears, X.method, X.code, (X.here.setHeapUsed s₂.heap s₂.slotsUsed).setVm hW'.alike, X.tail, State.WarmedH.trans X.warmed hW', X.limits, X.bytes, X.same.trans (hsame.setVm s.vm)⟩,
      ⟨g, mk, s₂, L, E, ce, rfl, rfl, hx, hce, hcv, hcl, rfl, hL, rfl, rfl⟩, ?_⟩
    show Steps p.tables e below _ (((({ U with heap := s₂.heap, slotsUsed := s₂.slotsUsed } : State).setVm s₂.vm).setTop g).pushFrame (.throwing q))
    rw [← hs₂]
    exact hsteps
end Payer
section Calls
variable {p : Program} {l : Launch} {e : Env} {R : Room} {s : State} {m : MethodId} {args : Array Value} {below : List Frame} {meth : Method} {c : Code} {T : State} {locs : List Loc} {cells slots : Nat}
theorem vx_callV (X : Stand p l e R s m args below meth c T locs cells slots) (hexec : p.tables.exec = Jvm.exec) {own C : String} {index : Nat} {y : MethodName} {bytes : ByteArray} {maxL : Nat} {ret : Option FieldType}
    (hown : s.vm.findClass own = some m.cls) (hlink : (Cond.methodLink own index y).before args s = true) (hinst : (Cond.instanceMethod y).before args s = true) (hsel : (Cond.selects C y y).before args s = true)
    (hcode : (Cond.code y bytes maxL ret).before args s = true) (hy : y.cls ≠ "java/lang/invoke/MethodHandle" ∧ y.cls ≠ "java/lang/invoke/VarHandle")
    {W9 : Nat} {Pre : Pt → Array Value → Prop} {Post : Pt → Array Value → Option Value → Pt → Prop} {PostX : Pt → Array Value → Addr → Pt → Prop} (hK : vx_Back l R p e below s args y 3 W9 Pre Post PostX)
    {b : Addr} {cellB : Cell} (hcell : T.heap[b]? = some cellB) (hobj : cellB.vm.isStatics = false) (hcls : s.vm.findClass C = some cellB.cls)
    {g : JFrame} (hg : g.method = m) (hsize : g.locals.size = c.maxLocals) {argsL rest : List Value} (hlen : ∀ sig, parseMethodDescriptor y.desc = some sig → argsL.length = sig.parameters.length)
    (hstack : g.stack = argsL.reverse ++ .ref b :: rest) (hW : 2 * g.monitorRoom + (rest.map fun v => v.category).sum ≤ W9) (hdg : decode c.code g.pc = .ok (.invokevirtual index, 3))
    (hpre : ∀ vm₁, s.WarmedH vm₁ → Pre ⟨T.setVm vm₁, locs, cells, slots⟩ (Value.ref b :: argsL).toArray) :
    (∃ (v : Option Value) (vm₁ : Vm) (B : Pt), s.WarmedH vm₁ ∧ Stand p l e R s m args below meth c B.U B.locs B.cells B.slots ∧ Post ⟨T.setVm vm₁, locs, cells, slots⟩ (Value.ref b :: argsL).toArray v B ∧
      ∀ target, Steps p.tables e below (B.U.setTop { g with pc := g.pc + 3, stack := v.toList ++ rest }) target → Steps p.tables e below (T.setTop g) target) ∨
    (∃ (q : Addr) (vm₁ : Vm) (B : Pt), s.WarmedH vm₁ ∧ Stand p l e R s m args below meth c B.U B.locs B.cells B.slots ∧ PostX ⟨T.setVm vm₁, locs, cells, slots⟩ (Value.ref b :: argsL).toArray q B ∧
      Steps p.tables e below (T.setTop g) ((B.U.setTop { g with stack := rest }).pushFrame (.throwing q))) := by
  obtain ⟨mk, methM, hnamed, hmethM, hstM, habM⟩ := Cond.instanceMethod_spec hinst
  obtain ⟨methM', cM, hmethM', -, -, -, -, -, -, hsigM⟩ := Cond.code_spec hnamed hcode
  cases hmethM.symm.trans hmethM'
  obtain ⟨c2, r2, m2, q1, q2, q3, q4, kP, hkP, hkPi⟩ := Cond.selects_spec hsel
  cases hcls.symm.trans q1
  cases (State.methodFound?_of_named hnamed hy).symm.trans q2
  cases hnamed.symm.trans q3
  have hselP : selectMethod e.platform s.vm cellB.cls mk = .method mk := by rw [Launch.admits_selectMethod X.admits]; exact q4
  obtain ⟨vm₁, X₁, hstep₁⟩ := X.invokevirtual hexec hown hlink hnamed hmethM hstM hkP hkPi hy (a := b) (cell := cellB) hcell
    (fun z h => by rw [h] at hobj; cases hobj) hselP hmethM habM hkP hkPi (g := g) hg (argsL := argsL) (rest := rest) (hlen _ hsigM) hstack hdg
  rcases hK m meth c ⟨T.setVm vm₁, locs, cells, slots⟩ { g with stack := rest } (.invokevirtual index) mk (Value.ref b :: argsL).toArray X₁ hg hsize hdg hW (X₁.named hnamed) (hpre vm₁ X₁.warmed) with ⟨v, B, X', hpost, hsteps⟩ | ⟨q, B, X', hpost, hsteps⟩
  · exact Or.inl ⟨v, vm₁, B, X₁.warmed, X', hpost, fun target h => hstep₁ _ fun acts => by rw [doInvoke_state]; exact hsteps.trans h⟩
  · exact Or.inr ⟨q, vm₁, B, X₁.warmed, X', hpost, hstep₁ _ fun acts => by rw [doInvoke_state]; exact hsteps⟩
theorem vx_callS (X : Stand p l e R s m args below meth c T locs cells slots) (hexec : p.tables.exec = Jvm.exec) {own : String} {index : Nat} {y : MethodName} {bytes : ByteArray} {maxL : Nat} {ret : Option FieldType}
    (hown : s.vm.findClass own = some m.cls) (hlink : (Cond.methodLink own index y).before args s = true) (hstat : (Cond.static y).before args s = true) (hinit : (Cond.initialized y.cls).before args s = true)
    (hcode : (Cond.code y bytes maxL ret).before args s = true) (hy : y.cls ≠ "java/lang/invoke/MethodHandle" ∧ y.cls ≠ "java/lang/invoke/VarHandle")
    {W9 : Nat} {Pre : Pt → Array Value → Prop} {Post : Pt → Array Value → Option Value → Pt → Prop} {PostX : Pt → Array Value → Addr → Pt → Prop} (hK : vx_Back l R p e below s args y 3 W9 Pre Post PostX)
    {g : JFrame} (hg : g.method = m) (hsize : g.locals.size = c.maxLocals) {argsL rest : List Value} (hlen : ∀ sig, parseMethodDescriptor y.desc = some sig → argsL.length = sig.parameters.length)
    (hstack : g.stack = argsL.reverse ++ rest) (hW : 2 * g.monitorRoom + (rest.map fun v => v.category).sum ≤ W9) (hdg : decode c.code g.pc = .ok (.invokestatic index, 3))
    (hpre : ∀ vm₁, s.WarmedH vm₁ → Pre ⟨T.setVm vm₁, locs, cells, slots⟩ argsL.toArray) :
    (∃ (v : Option Value) (vm₁ : Vm) (B : Pt), s.WarmedH vm₁ ∧ Stand p l e R s m args below meth c B.U B.locs B.cells B.slots ∧ Post ⟨T.setVm vm₁, locs, cells, slots⟩ argsL.toArray v B ∧
      ∀ target, Steps p.tables e below (B.U.setTop { g with pc := g.pc + 3, stack := v.toList ++ rest }) target → Steps p.tables e below (T.setTop g) target) ∨
    (∃ (q : Addr) (vm₁ : Vm) (B : Pt), s.WarmedH vm₁ ∧ Stand p l e R s m args below meth c B.U B.locs B.cells B.slots ∧ PostX ⟨T.setVm vm₁, locs, cells, slots⟩ argsL.toArray q B ∧
      Steps p.tables e below (T.setTop g) ((B.U.setTop { g with stack := rest }).pushFrame (.throwing q))) := by
  obtain ⟨mk, hnamed⟩ := Cond.code_named hcode
  obtain ⟨methM, cM, hmethM, -, -, -, -, -, -, hsigM⟩ := Cond.code_spec hnamed hcode
  have hstatic : methM.isStatic = true := Cond.static_spec hnamed hmethM hstat
  obtain ⟨kP, hkP, -⟩ := className_of_methodNamed hnamed
  have hinitP : kP.init = .initialized := Cond.initialized_spec (findClass_of_methodNamed hnamed) hkP hinit
  obtain ⟨vm₁, X₁, hstep₁⟩ := X.invokestatic hexec hown hlink hnamed hmethM hstatic hkP hinitP hy (g := g) hg (argsL := argsL) (rest := rest) (hlen _ hsigM) hstack hdg
  rcases hK m meth c ⟨T.setVm vm₁, locs, cells, slots⟩ { g with stack := rest } (.invokestatic index) mk argsL.toArray X₁ hg hsize hdg hW (X₁.named hnamed) (hpre vm₁ X₁.warmed) with ⟨v, B, X', hpost, hsteps⟩ | ⟨q, B, X', hpost, hsteps⟩
  · exact Or.inl ⟨v, vm₁, B, X₁.warmed, X', hpost, fun target h => hstep₁ _ fun acts => by rw [doInvoke_state]; exact hsteps.trans h⟩
  · exact Or.inr ⟨q, vm₁, B, X₁.warmed, X', hpost, hstep₁ _ fun acts => by rw [doInvoke_state]; exact hsteps⟩
end Calls
theorem vx_cls {s : State} {T : State} {vm₁ : Vm} {E : String} {k : ClassId} (hW : s.WarmedH vm₁) (h : (T.setVm vm₁).vm.findClass E = some k) : s.vm.findClass E = some k := by
  have h1 : vm₁.findClass E = some k := h
  rw [hW.alike.findClass] at h1
  exact h1
/-- the method's frame g, with q thrown over it -/
def vx_W (p : Program) (l : Launch) (e : Env) (R : Room) (s : State) (m : MethodId) (args : Array Value) (below : List Frame) (meth : Method) (c : Code) (H : Heap) (locs : List Loc) (cells slots : Nat) (Q : State → Prop) (g : JFrame) (q : Addr) : Prop :=
  ∀ T : State, T.heap = H → Stand p l e R s m args below meth c T locs cells slots → ∃ t, Steps p.tables e below ((T.setTop g).pushFrame (.throwing q)) t ∧ Q t
def vx_Run (p : Program) (l : Launch) (e : Env) (R : Room) (s : State) (m : MethodId) (args : Array Value) (below : List Frame) (meth : Method) (c : Code) (H : Heap) (locs : List Loc) (cells slots mc ms : Nat) (g : JFrame) (rest : List Value) (Qa : State → Outcome → State → Prop) (XC : String → State → State → Prop) (free : Addr → Prop) : Prop :=
  ∀ T : State, T.heap = H → Stand p l e R s m args below meth c T locs cells slots →
    (∃ (v : Option Value) (st₀ t T' : State) (L : List Loc), st₀.heap = H ∧ Stand p l e R s m args below meth c T' (locs ++ L) (cells + mc) (slots + ms) ∧ (∀ q ∈ L, free q.base) ∧ T'.heap = t.heap ∧ T'.vm = t.vm ∧ Qa st₀ (.returned v) t ∧
      Goes p e below T g T' { g with pc := g.pc + 3, stack := v.toList ++ rest }) ∨
    (∃ (q : Addr) (st₀ t T' : State) (L : List Loc) (E : String) (ce : Cell), st₀.heap = H ∧ Stand p l e R s m args below meth c T' (locs ++ L) (cells + mc) (slots + ms) ∧ (∀ z ∈ L, free z.base) ∧ T'.heap = t.heap ∧ T'.vm = t.vm ∧ XC E st₀ t ∧ t.heap[q]? = some ce ∧ ce.vm = .none ∧ s.vm.findClass E = some ce.cls ∧
      Steps p.tables e below (T.setTop g) ((T'.setTop { g with stack := rest }).pushFrame (.throwing q)))
def vx_X {S : Type} (px : S → Prop) (B : String → S → State → Prop) (A : Nat → Prop) : String → State → State → Prop := fun E st t => ∃ u : S, px u ∧ B E u t ∧ va_F A st t
section Runs
variable {p : Program} {l : Launch} {e : Env} {R : Room} {s : State} {m : MethodId} {args : Array Value} {below : List Frame} {meth : Method} {c : Code} {H : Heap} {locs : List Loc} {cells slots : Nat}
variable {y : MethodName} {bytes cc : ByteArray} {maxL nL mc ms n index : Nat} {ret : Option FieldType} {ws : List Cond} {rm : Room} {Pc : Array Value → State → Prop} {Qc : Array Value → State → Outcome → State → Prop} {XC : String → State → State → Prop} {free : Addr → Prop} {Ts : List Cond} {own C : String} {b : Addr} {As rest : List Value} {g : JFrame}
theorem vx_callBack (cb : CallB R s args own index y bytes maxL ret ws rm mc ms n) (hM : vx_Met l y ws rm Pc Qc XC mc ms free) (hbl : FrameBlind Pc) : vx_Back l R p e below s args y 3 8 (PreOf R mc ms Pc) (PostOf Qc mc ms free) (vx_Post XC mc ms free) := by
  obtain ⟨hrc, hrs, hfr, hlo, hws, hcw, -, hini, -⟩ := cb
  exact vx_back (bytes := bytes) (maxL := maxL) (ret := ret) hM hbl hrc hrs hfr hlo hws hcw (fun a' U hW => word_at hW (Or.inl (by first | rfl | simp [Cond.onTables, Cond.keeps, Cond.steady])) hini)
theorem vx_runV (S : CallFix p m c cc nL s args Ts own) (hM : vx_Met l y ws rm Pc Qc XC mc ms free) (cw : CallW R s args own C index y bytes maxL ret ws rm mc ms n) (hp : PreV s H C b Pc As)
    (hg : g.method = m) (hn : As.length = n) (hsize : g.locals.size = nL) (hstack : g.stack = As.reverse ++ .ref b :: rest) (hW : 2 * g.monitorRoom + (rest.map fun v => v.category).sum ≤ 8) (hdg : decode cc g.pc = .ok (.invokevirtual index, 3)) (hf : cells + mc ≤ R.cells ∧ slots + ms ≤ R.slots) :
    vx_Run p l e R s m args below meth c H locs cells slots mc ms g rest (Qc (Value.ref b :: As).toArray) XC free := by
  have hK : vx_Back l R p e below s args y 3 8 (PreOf R mc ms Pc) (PostOf Qc mc ms free) (vx_Post XC mc ms free) := vx_callBack cw.1 hM hp.1
  obtain ⟨⟨-, -, -, -, -, -, hcode, -, hy, hlen, hl⟩, hin, hse⟩ := cw
  obtain ⟨hx, hb, hml, ho, -⟩ := S
  obtain ⟨-, ⟨cellB, hcB, hoB, hclB⟩, hPc⟩ := hp
  intro T hT X
  rcases vx_callV X hx (C := C) (bytes := bytes) (maxL := maxL) (ret := ret) ho hl hin hse hcode hy hK (by rw [hT]; exact hcB) hoB hclB hg (hsize.trans hml.symm) (argsL := As) (rest := rest) (fun sig h => hn.trans (hlen sig h)) hstack hW (by rw [hb]; exact hdg)
    (fun vm₁ hW₁ => ⟨hf.1, hf.2, hPc (T.setVm vm₁) hT hW₁⟩) with ⟨v, vm₁, ⟨U', l2, c2, s2⟩, hW₁, X', ⟨g', mk, t, L, e1, e2, hq, h1, hL, h2, h3⟩, st⟩ | ⟨q, vm₁, ⟨U', l2, c2, s2⟩, hW₁, X', ⟨g', mk, t, L, E, ce, e1, e2, hq, hce, hcv, hcl, h1, hL, h2, h3⟩, st⟩
  · dsimp only [Pt.U, Pt.locs, Pt.cells, Pt.slots] at X' e1 e2 h1 h2 h3 st
    subst h1; subst h2; subst h3
    exact Or.inl ⟨v, (T.setVm vm₁).calling g' mk (Value.ref b :: As).toArray, t, U', L, hT, X', hL, e1, e2, hq, st⟩
  · dsimp only [Pt.U, Pt.locs, Pt.cells, Pt.slots] at X' e1 e2 h1 h2 h3 st hcl
    subst h1; subst h2; subst h3
    exact Or.inr ⟨q, (T.setVm vm₁).calling g' mk (Value.ref b :: As).toArray, t, U', L, E, ce, hT, X', hL, e1, e2, hq, hce, hcv, vx_cls hW₁ hcl, st⟩
theorem vx_runS (S : CallFix p m c cc nL s args Ts own) (hM : vx_Met l y ws rm Pc Qc XC mc ms free) (cw : CallB R s args own index y bytes maxL ret ws rm mc ms n ∧ (Cond.static y).before args s = true) (hp : PreS s H Pc As)
    (hg : g.method = m) (hn : As.length = n) (hsize : g.locals.size = nL) (hstack : g.stack = As.reverse ++ rest) (hW : 2 * g.monitorRoom + (rest.map fun v => v.category).sum ≤ 8) (hdg : decode cc g.pc = .ok (.invokestatic index, 3)) (hf : cells + mc ≤ R.cells ∧ slots + ms ≤ R.slots) :
    vx_Run p l e R s m args below meth c H locs cells slots mc ms g rest (Qc As.toArray) XC free := by
  have hK : vx_Back l R p e below s args y 3 8 (PreOf R mc ms Pc) (PostOf Qc mc ms free) (vx_Post XC mc ms free) := vx_callBack cw.1 hM hp.1
  obtain ⟨⟨-, -, -, -, -, -, hcode, hini, hy, hlen, hl⟩, hstt⟩ := cw
  obtain ⟨hx, hb, hml, ho, -⟩ := S
  intro T hT X
  rcases vx_callS X hx (bytes := bytes) (maxL := maxL) (ret := ret) ho hl hstt hini hcode hy hK hg (hsize.trans hml.symm) (argsL := As) (rest := rest) (fun sig h => hn.trans (hlen sig h)) hstack hW (by rw [hb]; exact hdg)
    (fun vm₁ hW₁ => ⟨hf.1, hf.2, hp.2 (T.setVm vm₁) hT hW₁⟩) with ⟨v, vm₁, ⟨U', l2, c2, s2⟩, hW₁, X', ⟨g', mk, t, L, e1, e2, hq, h1, hL, h2, h3⟩, st⟩ | ⟨q, vm₁, ⟨U', l2, c2, s2⟩, hW₁, X', ⟨g', mk, t, L, E, ce, e1, e2, hq, hce, hcv, hcl, h1, hL, h2, h3⟩, st⟩
  · dsimp only [Pt.U, Pt.locs, Pt.cells, Pt.slots] at X' e1 e2 h1 h2 h3 st
    subst h1; subst h2; subst h3
    exact Or.inl ⟨v, (T.setVm vm₁).calling g' mk As.toArray, t, U', L, hT, X', hL, e1, e2, hq, st⟩
  · dsimp only [Pt.U, Pt.locs, Pt.cells, Pt.slots] at X' e1 e2 h1 h2 h3 st hcl
    subst h1; subst h2; subst h3
    exact Or.inr ⟨q, (T.setVm vm₁).calling g' mk As.toArray, t, U', L, E, ce, hT, X', hL, e1, e2, hq, hce, hcv, vx_cls hW₁ hcl, st⟩
end Runs
section Rows
variable {p : Program} {l : Launch} {e : Env} {R : Room} {s : State} {m : MethodId} {args : Array Value} {below : List Frame} {meth : Method} {c : Code} {H : Heap} {locs : List Loc} {cells slots : Nat} {Q : State → Prop}
variable {mc ms : Nat} {free : Addr → Prop} {A0 A1 : Nat → Prop} {H0 : Heap} {a : Array Value} {pc : Nat} {ls : Array Slot} {st0 rest : List Value}
theorem vx_keep {st₀ t T' : State} {L : List Loc} (h0 : st₀.heap = H) (e1 : T'.heap = t.heap) (hS : va_S A0 H0 H locs) (hA : ∀ q, q < H.size → A1 q → A0 q) (hf : ∀ q, free q → A0 q) (hL : ∀ q ∈ L, free q.base) (hF : va_F A1 st₀ t) :
    H.size ≤ T'.heap.size ∧ (∀ q : Nat, q < H.size → ¬ A1 q → T'.heap[q]? = H[q]?) ∧ va_S A0 H0 T'.heap (locs ++ L) := by
  obtain ⟨hz, hk⟩ := hF
  rw [h0] at hz hk
  exact ⟨by rw [e1]; exact hz, fun q h1 h2 => by rw [e1]; exact hk q h1 h2,
    ⟨Nat.le_trans hS.1 (by rw [e1]; exact hz), fun q h1 h2 => by rw [e1, hk q (Nat.lt_of_lt_of_le h1 hS.1) (fun z => h2 (hA q (Nat.lt_of_lt_of_le h1 hS.1) z))]; exact hS.2.1 q h1 h2, fun q hq => by
      rcases List.mem_append.mp hq with h | h
      · exact hS.2.2 q h
      · exact hf _ (hL q h)⟩⟩
theorem vx_calli {S SX : Type} {post : Int32 → S → Prop} {px : SX → Prop} {B : S → State → Prop} {BX : String → SX → State → Prop} {AX : Nat → Prop} (hr : vx_Run p l e R s m args below meth c H locs cells slots mc ms (F0 m pc ls st0) rest (va_Qi post B A1 a) (vx_X px BX AX) free) (hS : va_S A0 H0 H locs) (hA : ∀ q, q < H.size → A1 q → A0 q) (hf : ∀ q, free q → A0 q) (hAX : ∀ q, q < H.size → AX q → A0 q)
    (kx : ∀ (E : String) (ce : Cell) (q9 : Addr) (u : SX) (t : State) (H1 : Heap) (locs1 : List Loc), t.heap = H1 → s.vm.Alike t.vm → px u → BX E u t → H.size ≤ H1.size → (∀ q : Nat, q < H.size → ¬ AX q → H1[q]? = H[q]?) → va_S A0 H0 H1 locs1 → H1[q9]? = some ce → ce.vm = .none → s.vm.findClass E = some ce.cls → vx_W p l e R s m args below meth c H1 locs1 (cells + mc) (slots + ms) Q (F0 m pc ls rest) q9)
    (kk : ∀ (r : Int32) (u : S) (t : State) (H1 : Heap) (locs1 : List Loc), t.heap = H1 → s.vm.Alike t.vm → post r u → B u t → H.size ≤ H1.size → (∀ q : Nat, q < H.size → ¬ A1 q → H1[q]? = H[q]?) → va_S A0 H0 H1 locs1 → W p l e R s m args below meth c H1 locs1 (cells + mc) (slots + ms) Q (F0 m (pc + 3) ls (.int r :: rest))) : W p l e R s m args below meth c H locs cells slots Q (F0 m pc ls st0) := by
  intro T hT X
  rcases hr T hT X with ⟨v, st₀, t, T', L, h0, X', hL, e1, e2, ⟨⟨r, u, hv, hp, hb⟩, hF⟩, st⟩ | ⟨q, st₀, t, T', L, E, ce, h0, X', hL, e1, e2, ⟨u, hp, hb, hF⟩, hce, hcv, hcl, st⟩
  · cases hv
    obtain ⟨k1, k2, k3⟩ := vx_keep h0 e1 hS hA hf hL hF
    obtain ⟨t2, a1, b1⟩ := kk r u t T'.heap (locs ++ L) e1.symm (by rw [← e2]; exact X'.warmed.alike) hp hb k1 k2 k3 T' rfl X'
    exact ⟨t2, st t2 a1, b1⟩
  · obtain ⟨k1, k2, k3⟩ := vx_keep h0 e1 hS hAX hf hL hF
    obtain ⟨t2, a1, b1⟩ := kx E ce q u t T'.heap (locs ++ L) e1.symm (by rw [← e2]; exact X'.warmed.alike) hp hb k1 k2 k3 (by rw [e1]; exact hce) hcv hcl T' rfl X'
    exact ⟨t2, st.trans a1, b1⟩
theorem vx_calll {S SX : Type} {post : Int64 → S → Prop} {px : SX → Prop} {B : S → State → Prop} {BX : String → SX → State → Prop} {AX : Nat → Prop} (hr : vx_Run p l e R s m args below meth c H locs cells slots mc ms (F0 m pc ls st0) rest (va_Ql post B A1 a) (vx_X px BX AX) free) (hS : va_S A0 H0 H locs) (hA : ∀ q, q < H.size → A1 q → A0 q) (hf : ∀ q, free q → A0 q) (hAX : ∀ q, q < H.size → AX q → A0 q)
    (kx : ∀ (E : String) (ce : Cell) (q9 : Addr) (u : SX) (t : State) (H1 : Heap) (locs1 : List Loc), t.heap = H1 → s.vm.Alike t.vm → px u → BX E u t → H.size ≤ H1.size → (∀ q : Nat, q < H.size → ¬ AX q → H1[q]? = H[q]?) → va_S A0 H0 H1 locs1 → H1[q9]? = some ce → ce.vm = .none → s.vm.findClass E = some ce.cls → vx_W p l e R s m args below meth c H1 locs1 (cells + mc) (slots + ms) Q (F0 m pc ls rest) q9)
    (kk : ∀ (r : Int64) (u : S) (t : State) (H1 : Heap) (locs1 : List Loc), t.heap = H1 → s.vm.Alike t.vm → post r u → B u t → H.size ≤ H1.size → (∀ q : Nat, q < H.size → ¬ A1 q → H1[q]? = H[q]?) → va_S A0 H0 H1 locs1 → W p l e R s m args below meth c H1 locs1 (cells + mc) (slots + ms) Q (F0 m (pc + 3) ls (.long r :: rest))) : W p l e R s m args below meth c H locs cells slots Q (F0 m pc ls st0) := by
  intro T hT X
  rcases hr T hT X with ⟨v, st₀, t, T', L, h0, X', hL, e1, e2, ⟨⟨r, u, hv, hp, hb⟩, hF⟩, st⟩ | ⟨q, st₀, t, T', L, E, ce, h0, X', hL, e1, e2, ⟨u, hp, hb, hF⟩, hce, hcv, hcl, st⟩
  · cases hv
    obtain ⟨k1, k2, k3⟩ := vx_keep h0 e1 hS hA hf hL hF
    obtain ⟨t2, a1, b1⟩ := kk r u t T'.heap (locs ++ L) e1.symm (by rw [← e2]; exact X'.warmed.alike) hp hb k1 k2 k3 T' rfl X'
    exact ⟨t2, st t2 a1, b1⟩
  · obtain ⟨k1, k2, k3⟩ := vx_keep h0 e1 hS hAX hf hL hF
    obtain ⟨t2, a1, b1⟩ := kx E ce q u t T'.heap (locs ++ L) e1.symm (by rw [← e2]; exact X'.warmed.alike) hp hb k1 k2 k3 (by rw [e1]; exact hce) hcv hcl T' rfl X'
    exact ⟨t2, st.trans a1, b1⟩
theorem vx_callf {S SX : Type} {post : UInt32 → S → Prop} {px : SX → Prop} {B : S → State → Prop} {BX : String → SX → State → Prop} {AX : Nat → Prop} (hr : vx_Run p l e R s m args below meth c H locs cells slots mc ms (F0 m pc ls st0) rest (va_Qf post B A1 a) (vx_X px BX AX) free) (hS : va_S A0 H0 H locs) (hA : ∀ q, q < H.size → A1 q → A0 q) (hf : ∀ q, free q → A0 q) (hAX : ∀ q, q < H.size → AX q → A0 q)
    (kx : ∀ (E : String) (ce : Cell) (q9 : Addr) (u : SX) (t : State) (H1 : Heap) (locs1 : List Loc), t.heap = H1 → s.vm.Alike t.vm → px u → BX E u t → H.size ≤ H1.size → (∀ q : Nat, q < H.size → ¬ AX q → H1[q]? = H[q]?) → va_S A0 H0 H1 locs1 → H1[q9]? = some ce → ce.vm = .none → s.vm.findClass E = some ce.cls → vx_W p l e R s m args below meth c H1 locs1 (cells + mc) (slots + ms) Q (F0 m pc ls rest) q9)
    (kk : ∀ (r : UInt32) (u : S) (t : State) (H1 : Heap) (locs1 : List Loc), t.heap = H1 → s.vm.Alike t.vm → post r u → B u t → H.size ≤ H1.size → (∀ q : Nat, q < H.size → ¬ A1 q → H1[q]? = H[q]?) → va_S A0 H0 H1 locs1 → W p l e R s m args below meth c H1 locs1 (cells + mc) (slots + ms) Q (F0 m (pc + 3) ls (.float r :: rest))) : W p l e R s m args below meth c H locs cells slots Q (F0 m pc ls st0) := by
  intro T hT X
  rcases hr T hT X with ⟨v, st₀, t, T', L, h0, X', hL, e1, e2, ⟨⟨r, u, hv, hp, hb⟩, hF⟩, st⟩ | ⟨q, st₀, t, T', L, E, ce, h0, X', hL, e1, e2, ⟨u, hp, hb, hF⟩, hce, hcv, hcl, st⟩
  · cases hv
    obtain ⟨k1, k2, k3⟩ := vx_keep h0 e1 hS hA hf hL hF
    obtain ⟨t2, a1, b1⟩ := kk r u t T'.heap (locs ++ L) e1.symm (by rw [← e2]; exact X'.warmed.alike) hp hb k1 k2 k3 T' rfl X'
    exact ⟨t2, st t2 a1, b1⟩
  · obtain ⟨k1, k2, k3⟩ := vx_keep h0 e1 hS hAX hf hL hF
    obtain ⟨t2, a1, b1⟩ := kx E ce q u t T'.heap (locs ++ L) e1.symm (by rw [← e2]; exact X'.warmed.alike) hp hb k1 k2 k3 (by rw [e1]; exact hce) hcv hcl T' rfl X'
    exact ⟨t2, st.trans a1, b1⟩
theorem vx_calld {S SX : Type} {post : UInt64 → S → Prop} {px : SX → Prop} {B : S → State → Prop} {BX : String → SX → State → Prop} {AX : Nat → Prop} (hr : vx_Run p l e R s m args below meth c H locs cells slots mc ms (F0 m pc ls st0) rest (va_Qd post B A1 a) (vx_X px BX AX) free) (hS : va_S A0 H0 H locs) (hA : ∀ q, q < H.size → A1 q → A0 q) (hf : ∀ q, free q → A0 q) (hAX : ∀ q, q < H.size → AX q → A0 q)
    (kx : ∀ (E : String) (ce : Cell) (q9 : Addr) (u : SX) (t : State) (H1 : Heap) (locs1 : List Loc), t.heap = H1 → s.vm.Alike t.vm → px u → BX E u t → H.size ≤ H1.size → (∀ q : Nat, q < H.size → ¬ AX q → H1[q]? = H[q]?) → va_S A0 H0 H1 locs1 → H1[q9]? = some ce → ce.vm = .none → s.vm.findClass E = some ce.cls → vx_W p l e R s m args below meth c H1 locs1 (cells + mc) (slots + ms) Q (F0 m pc ls rest) q9)
    (kk : ∀ (r : UInt64) (u : S) (t : State) (H1 : Heap) (locs1 : List Loc), t.heap = H1 → s.vm.Alike t.vm → post r u → B u t → H.size ≤ H1.size → (∀ q : Nat, q < H.size → ¬ A1 q → H1[q]? = H[q]?) → va_S A0 H0 H1 locs1 → W p l e R s m args below meth c H1 locs1 (cells + mc) (slots + ms) Q (F0 m (pc + 3) ls (.double r :: rest))) : W p l e R s m args below meth c H locs cells slots Q (F0 m pc ls st0) := by
  intro T hT X
  rcases hr T hT X with ⟨v, st₀, t, T', L, h0, X', hL, e1, e2, ⟨⟨r, u, hv, hp, hb⟩, hF⟩, st⟩ | ⟨q, st₀, t, T', L, E, ce, h0, X', hL, e1, e2, ⟨u, hp, hb, hF⟩, hce, hcv, hcl, st⟩
  · cases hv
    obtain ⟨k1, k2, k3⟩ := vx_keep h0 e1 hS hA hf hL hF
    obtain ⟨t2, a1, b1⟩ := kk r u t T'.heap (locs ++ L) e1.symm (by rw [← e2]; exact X'.warmed.alike) hp hb k1 k2 k3 T' rfl X'
    exact ⟨t2, st t2 a1, b1⟩
  · obtain ⟨k1, k2, k3⟩ := vx_keep h0 e1 hS hAX hf hL hF
    obtain ⟨t2, a1, b1⟩ := kx E ce q u t T'.heap (locs ++ L) e1.symm (by rw [← e2]; exact X'.warmed.alike) hp hb k1 k2 k3 (by rw [e1]; exact hce) hcv hcl T' rfl X'
    exact ⟨t2, st.trans a1, b1⟩
theorem vx_callv {S SX : Type} {post : S → Prop} {px : SX → Prop} {B : S → State → Prop} {BX : String → SX → State → Prop} {AX : Nat → Prop} (hr : vx_Run p l e R s m args below meth c H locs cells slots mc ms (F0 m pc ls st0) rest (va_Qv post B A1 a) (vx_X px BX AX) free) (hS : va_S A0 H0 H locs) (hA : ∀ q, q < H.size → A1 q → A0 q) (hf : ∀ q, free q → A0 q) (hAX : ∀ q, q < H.size → AX q → A0 q)
    (kx : ∀ (E : String) (ce : Cell) (q9 : Addr) (u : SX) (t : State) (H1 : Heap) (locs1 : List Loc), t.heap = H1 → s.vm.Alike t.vm → px u → BX E u t → H.size ≤ H1.size → (∀ q : Nat, q < H.size → ¬ AX q → H1[q]? = H[q]?) → va_S A0 H0 H1 locs1 → H1[q9]? = some ce → ce.vm = .none → s.vm.findClass E = some ce.cls → vx_W p l e R s m args below meth c H1 locs1 (cells + mc) (slots + ms) Q (F0 m pc ls rest) q9)
    (kk : ∀ (u : S) (t : State) (H1 : Heap) (locs1 : List Loc), t.heap = H1 → s.vm.Alike t.vm → post u → B u t → H.size ≤ H1.size → (∀ q : Nat, q < H.size → ¬ A1 q → H1[q]? = H[q]?) → va_S A0 H0 H1 locs1 → W p l e R s m args below meth c H1 locs1 (cells + mc) (slots + ms) Q (F0 m (pc + 3) ls (rest))) : W p l e R s m args below meth c H locs cells slots Q (F0 m pc ls st0) := by
  intro T hT X
  rcases hr T hT X with ⟨v, st₀, t, T', L, h0, X', hL, e1, e2, ⟨⟨u, hv, hp, hb⟩, hF⟩, st⟩ | ⟨q, st₀, t, T', L, E, ce, h0, X', hL, e1, e2, ⟨u, hp, hb, hF⟩, hce, hcv, hcl, st⟩
  · cases hv
    obtain ⟨k1, k2, k3⟩ := vx_keep h0 e1 hS hA hf hL hF
    obtain ⟨t2, a1, b1⟩ := kk u t T'.heap (locs ++ L) e1.symm (by rw [← e2]; exact X'.warmed.alike) hp hb k1 k2 k3 T' rfl X'
    exact ⟨t2, st t2 a1, b1⟩
  · obtain ⟨k1, k2, k3⟩ := vx_keep h0 e1 hS hAX hf hL hF
    obtain ⟨t2, a1, b1⟩ := kx E ce q u t T'.heap (locs ++ L) e1.symm (by rw [← e2]; exact X'.warmed.alike) hp hb k1 k2 k3 (by rw [e1]; exact hce) hcv hcl T' rfl X'
    exact ⟨t2, st.trans a1, b1⟩
/-- caught by the row x of this method's table; the rows ahead don't take it -/
theorem vx_catch {own name : String} {E : String} {ce : Cell} {q : Addr} (hown : s.vm.findClass own = some m.cls) (pre : List ExceptionTableEntry) (x : ExceptionTableEntry) (suf : List ExceptionTableEntry) (hsplit : c.exceptionTable.toList = pre ++ x :: suf)
    (hpass : ∀ z ∈ pre, covers z pc = false ∨ (z.catchType ≠ 0 ∧ ∃ nm : String, (Cond.classLink own z.catchType nm).before args s = true ∧ va_Nc E nm s)) (hx : covers x pc = true) (h0 : x.catchType ≠ 0)
    (hlink : (Cond.classLink own x.catchType name).before args s = true) (hcast : (Cond.castable E name).before args s = true) (hcell : H[q]? = some ce) (hv : ce.vm = .none) (hcl : s.vm.findClass E = some ce.cls)
    (kk : W p l e R s m args below meth c H locs cells slots Q (F0 m x.handlerPc ls [.ref q])) : vx_W p l e R s m args below meth c H locs cells slots Q (F0 m pc ls rest) q := by
  intro T hT X
  have hpl : e.platform.magicAccessors = ({} : Platform).magicAccessors := by rw [X.admits.platform]
  obtain ⟨c3, c4, hc3, hc4, hasg⟩ := Cond.castable_spec hcast
  cases Option.some.inj (hc3.symm.trans hcl)
  obtain ⟨c5, hc5, hcl5⟩ := Cond.classLink_spec hown hlink e.platform hpl
  cases Option.some.inj (hc4.symm.trans hc5)
  obtain ⟨vm', X', st⟩ := X.thenCaughtThrough q (g := F0 m pc ls rest) rfl (Steps.refl _) (by rw [hT]; exact hcell) (by rw [hv]; rfl) (by obtain ⟨k9, h9, -⟩ := Vm.findClass_spec hcl; exact ⟨k9, h9⟩) pre x suf hsplit
    (fun z hz => by
      rcases hpass z hz with h | ⟨hz0, nm, hl1, hn1⟩
      · exact Or.inl h
      · obtain ⟨c6, hc6, hcl6⟩ := Cond.classLink_spec hown hl1 e.platform hpl
        obtain ⟨a8, b8, h1, h2, h3⟩ := hn1
        cases Option.some.inj (h1.symm.trans hcl)
        cases Option.some.inj (h2.symm.trans hc6)
        exact Or.inr ⟨hz0, _, hcl6, h3⟩) hx (Or.inr ⟨h0, c4, hcl5, hasg⟩)
  obtain ⟨t, a1, b1⟩ := kk (T.setVm vm') hT X'
  exact ⟨t, st.trans a1, b1⟩
end Rows
section Ends
variable {p : Program} {l : Launch} {e : Env} {R : Room} {s : State} {m : MethodId} {args : Array Value} {below : List Frame} {meth : Method} {c : Code} {H : Heap} {locs : List Loc} {cells slots : Nat} {Q : State → Prop}
variable {mc ms : Nat} {free : Addr → Prop} {A0 A1 : Nat → Prop} {H0 : Heap} {a : Array Value} {ls : Array Slot} {st0 rest : List Value}
variable {Qc : Array Value → State → Outcome → State → Prop} {XC : String → State → State → Prop}
/-- what a body that may throw owes at its end -/
def vx_MQ (below : List Frame) (Qc : Array Value → State → Outcome → State → Prop) (XC : String → State → State → Prop) (a : Array Value) (s : State) (mc ms : Nat) (free : Addr → Prop) : State → Prop := fun t =>
  ∃ o, t.status = .running ∧ Ended t below o ∧ vx_Q Qc XC mc ms free a s o t
theorem vx_ret {g : JFrame} {mc ms : Nat} (k : W p l e R s m args below meth c H locs cells slots (MQ below Qc args s mc ms free) g) : W p l e R s m args below meth c H locs cells slots (vx_MQ below Qc XC args s mc ms free) g := by
  intro T hT X
  obtain ⟨t, a1, o, b1, b2, b3, b4⟩ := k T hT X
  exact ⟨t, a1, o, b1, b2, Or.inl ⟨b3, b4⟩⟩
/-- not caught here: it goes on to the caller -/
theorem vx_widen {g : JFrame} {q : Addr} {k n : Nat} (h1 : cells ≤ k) (h2 : slots ≤ n) (kk : vx_W p l e R s m args below meth c H locs k n Q g q) : vx_W p l e R s m args below meth c H locs cells slots Q g q := fun T hT X => kk T hT (stand_widen X h1 h2)
theorem vx_out {pc : Nat} {E : String} {ce : Cell} {q : Addr} {mc ms : Nat} (hout : ∀ x ∈ c.exceptionTable.toList, covers x pc = false) (hlocks : meth.locks = false) (hcell : H[q]? = some ce) (hv : ce.vm = .none) (hcl : s.vm.findClass E = some ce.cls)
    (hx : ∀ t : State, t.heap = H → s.vm.Alike t.vm → XC E s t) (hf : ∀ z ∈ locs, free z.base) (hc : cells ≤ mc) (hs : slots ≤ ms) :
    vx_W p l e R s m args below meth c H locs cells slots (vx_MQ below Qc XC args s mc ms free) (F0 m pc ls rest) q := by
  intro T hT X
  obtain ⟨st1, hrun, hend, hW, hsm⟩ := X.leaveThrown q (g := F0 m pc ls rest) rfl rfl rfl hout hlocks
  have hcell9 : (T.setFrames (.throwing q :: below)).heap[q]? = some ce := by
    show T.heap[q]? = some ce
    rw [hT]; exact hcell
  exact ⟨_, st1, .threw q, hrun, hend, Or.inr ⟨q, rfl, E, ce, locs, hx _ hT hW.alike, hcell9, hv, hcl, hW, hsm.mono hc hs, hf⟩⟩
theorem vx_frame {U : State} {k n : Nat} (h : s.sameButNew ({ U with vm := s.vm } : State) locs k n) : s.heap.size ≤ U.heap.size ∧ ∀ q : Nat, q < s.heap.size → (∀ z ∈ locs, z.base ≠ q) → U.heap[q]? = s.heap[q]? := by
  obtain ⟨-, h2, -, -, -, h6⟩ := h
  refine ⟨h2, fun q hq hz => ?_⟩
  obtain ⟨c9, e1, e2, e3, e4⟩ := h6 q _ (Array.getElem?_eq_getElem hq)
  have hs : c9.slots = (s.heap[q]).slots := Array.ext_getElem? fun i => e4 i fun hm => hz _ hm rfl
  have h9 : c9 = s.heap[q] := by
    rw [hs] at e2
    exact e2
  have e5 : U.heap[q]? = some c9 := e1
  rw [e5, h9, Array.getElem?_eq_getElem hq]
/-- the words of a throw but the four that speak of the heap -/
def vx_no (w : Cond) : Bool := decide (w ≠ .isRef (.static Bundle.tN "UNASSIGNED_STACK" Bundle.steD)) && decide (w ≠ .isRef (.static Bundle.tN "SUPPRESSED_SENTINEL" Bundle.listD)) && decide (w ≠ .laysStatic Bundle.tN "UNASSIGNED_STACK" Bundle.steD) && decide (w ≠ .laysStatic Bundle.tN "SUPPRESSED_SENTINEL" Bundle.listD)
def vx_at0 (own : String) (ic : Nat) (X : String) (names : List String) : List Cond := (Bundle.ownAtoms0 own ic X names).filter vx_no
def vx_atS (own : String) (ic : Nat) (X : String) (names : List String) : List Cond := (Bundle.ownAtoms own ic X names).filter vx_no
/-- a word that the tables alone decide, or a good one -/
def vx_ot (w : Cond) : Bool := w.onTables || goodWord w
theorem vx_ot_at {args a' : Array Value} {s U : State} {w : Cond} (hW : s.WarmedH U.vm) (hvm : s.vm = U.vm) (hg : vx_ot w = true) (h : w.before args s = true) : w.before a' U = true := by
  simp only [vx_ot, Bool.or_eq_true] at hg
  rcases hg with hg | hg
  · exact va_tabs hg hvm h
  · exact word_at hW (good_of_word hg) h
/-- a list's words: the good ones out of the method's own list, the others by premises of their own -/
theorem vx_hat {args : Array Value} {s : State} {L B : List Cond} (h1 : ∀ w ∈ L.filter goodWord, w.before args s = true) (h2 : ∀ w ∈ L.filter (fun w => !goodWord w), w ∈ B) (h3 : ∀ w ∈ B, w.before args s = true) : ∀ w ∈ L, w.before args s = true := by
  intro w hw
  by_cases g : goodWord w = true
  · exact h1 w (List.mem_filter.mpr ⟨hw, g⟩)
  · refine h3 w (h2 w (List.mem_filter.mpr ⟨hw, ?_⟩))
    show (!goodWord w) = true
    cases hgw : goodWord w
    · rfl
    · exact absurd hgw g
theorem vx_c {args : Array Value} {s : State} {w : Cond} {B : List Cond} (h : w.before args s = true) (t : ∀ w ∈ B, w.before args s = true) : ∀ w' ∈ w :: B, w'.before args s = true := fun w' h' => (List.mem_cons.mp h').elim (fun e => by rw [e]; exact h) (t w')
theorem vx_n {args : Array Value} {s : State} : ∀ w ∈ ([] : List Cond), w.before args s = true := fun _ h => nomatch h
theorem vx_own {args : Array Value} {s : State} {L : List Cond} (h1 : ∀ w ∈ L.filter vx_no, w.before args s = true)
    (hU : (Cond.isRef (.static Bundle.tN "UNASSIGNED_STACK" Bundle.steD)).before args s = true) (hN : (Cond.isRef (.static Bundle.tN "SUPPRESSED_SENTINEL" Bundle.listD)).before args s = true)
    (lU : (Cond.laysStatic Bundle.tN "UNASSIGNED_STACK" Bundle.steD).before args s = true) (lN : (Cond.laysStatic Bundle.tN "SUPPRESSED_SENTINEL" Bundle.listD).before args s = true) : ∀ w ∈ L, w.before args s = true := by
  intro w hw
  by_cases e1 : w = .isRef (.static Bundle.tN "UNASSIGNED_STACK" Bundle.steD)
  · rw [e1]; exact hU
  · by_cases e2 : w = .isRef (.static Bundle.tN "SUPPRESSED_SENTINEL" Bundle.listD)
    · rw [e2]; exact hN
    · by_cases e3 : w = .laysStatic Bundle.tN "UNASSIGNED_STACK" Bundle.steD
      · rw [e3]; exact lU
      · by_cases e4 : w = .laysStatic Bundle.tN "SUPPRESSED_SENTINEL" Bundle.listD
        · rw [e4]; exact lN
        · exact h1 w (List.mem_filter.mpr ⟨hw, by unfold vx_no; rw [decide_eq_true e1, decide_eq_true e2, decide_eq_true e3, decide_eq_true e4]; rfl⟩)
/-- where a static field lies, its class's statics cell in H -/
def vx_L (C n d : String) (A : Nat → Prop) (U : State) (H : Heap) : Prop := ∃ (c : ClassId) (k : Class) (i : Nat) (f : Field) (a : Nat) (cell : Cell), U.vm.findClass C = some c ∧ U.fieldFound? C n d = some (c, k, i, f) ∧ f.isStatic = true ∧ k.statics = some a ∧ H[a]? = some cell ∧ cell.vm.isStatics = true ∧ cell.cls = c ∧ f.slot < cell.slots.size ∧ k.staticTypes[f.slot]? = some f.type ∧ ¬ A a
theorem vx_L.moved {C n d : String} {A : Nat → Prop} {u U : State} {H : Heap} (hvm : u.vm.Alike U.vm) (h : vx_L C n d A u H) : vx_L C n d A U H := by
  obtain ⟨c, k, i, f, a, cell, h1, h2, h3, h4, h5, h6, h7, h8, h9, h10⟩ := h
  obtain ⟨k', hi', he⟩ := State.fieldFound?_setVm hvm h2
  exact ⟨c, k', i, f, a, cell, by rw [hvm.findClass]; exact h1, hi', h3, by rw [he]; exact h4, h5, h6, h7, h8, by rw [he]; exact h9, h10⟩
theorem vx_L.kept {C n d : String} {A : Nat → Prop} {U : State} {H H1 : Heap} (h : vx_L C n d A U H) (hq : ∀ a : Nat, a < H.size → ¬ A a → H1[a]? = H[a]?) : vx_L C n d A U H1 := by
  obtain ⟨c, k, i, f, a, cell, h1, h2, h3, h4, h5, h6, h7, h8, h9, h10⟩ := h
  exact ⟨c, k, i, f, a, cell, h1, h2, h3, h4, by rw [hq a (Array.getElem?_eq_some_iff.mp h5).1 h10]; exact h5, h6, h7, h8, h9, h10⟩
theorem vx_L.narrow {C n d : String} {A B : Nat → Prop} {U : State} {H : Heap} (h : vx_L C n d A U H) (hAB : ∀ q, B q → A q) : vx_L C n d B U H := by
  obtain ⟨c, k, i, f, a, cell, h1, h2, h3, h4, h5, h6, h7, h8, h9, h10⟩ := h
  exact ⟨c, k, i, f, a, cell, h1, h2, h3, h4, h5, h6, h7, h8, h9, fun z => h10 (hAB _ z)⟩
theorem vx_L.word {C n d : String} {A : Nat → Prop} {s : State} {args : Array Value} (h : vx_L C n d A s s.heap) : (Cond.laysStatic C n d).before args s = true := by
  obtain ⟨c, k, i, f, a, cell, h1, h2, h3, h4, h5, h6, h7, h8, h9, -⟩ := h
  show (Cond.laysStatic C n d).holds args s none s [] = true
  exact Cond.laysStatic_of h1 h2 h3 h4 h5 h6 h7 h8 h9
/-- .. and what it holds: null or some reference -/
def vx_Zq (C n d : String) (A : Nat → Prop) (U : State) (H : Heap) : Prop := va_Zq C n d A U H ∧ vx_L C n d A U H
theorem vx_Zq.moved {C n d : String} {A : Nat → Prop} {u U : State} {H : Heap} (hvm : u.vm.Alike U.vm) (h : vx_Zq C n d A u H) : vx_Zq C n d A U H := ⟨va_Zq.moved hvm h.1, vx_L.moved hvm h.2⟩
theorem vx_Zq.kept {C n d : String} {A : Nat → Prop} {U : State} {H H1 : Heap} (h : vx_Zq C n d A U H) (hq : ∀ a : Nat, a < H.size → ¬ A a → H1[a]? = H[a]?) : vx_Zq C n d A U H1 := ⟨va_Zq.kept h.1 hq, vx_L.kept h.2 hq⟩
theorem vx_Zq.narrow {C n d : String} {A B : Nat → Prop} {U : State} {H : Heap} (h : vx_Zq C n d A U H) (hAB : ∀ q, B q → A q) : vx_Zq C n d B U H := ⟨va_Zq.narrow h.1 hAB, vx_L.narrow h.2 hAB⟩
theorem vx_Zqof {args : Array Value} {s : State} {C n d : String} {A : Nat → Prop} (hl : (Cond.laysStatic C n d).before args s = true) (hini : (Cond.initialized C).before args s = true) (h : (Cond.isRef (.static C n d)).before args s = true) (hA : ∀ a : Nat, a < s.heap.size → ¬ A a) : vx_Zq C n d A s s.heap := by
  refine ⟨va_Zqof hl hini h hA, ?_⟩
  obtain ⟨c, k, i, f, a, cell, h1, h2, h3, h4, h5, h6, h7, h8, h9⟩ := Cond.laysStatic_spec hl
  exact ⟨c, k, i, f, a, cell, h1, h2, h3, h4, h5, h6, h7, h8, h9, hA a (Array.getElem?_eq_some_iff.mp h5).1⟩
theorem vx_isRef {C n d : String} {v : Value} {A : Nat → Prop} {s : State} {args : Array Value} (h : va_Z C n d v A s s.heap) (hv : v.isRef = true) : (Cond.isRef (.static C n d)).before args s = true := by
  obtain ⟨cf, kf, fi, f, a, cell, h1, h2, h3, h4, h5, h6, h7, -⟩ := h
  have he : (Term.static C n d).eval args s none [] s = some v := by
    simp [Term.eval, State.fieldNamed?, h1, h2, h4, h5, h6, h7]
  simp only [Cond.before, Cond.holds, Cond.value, he]
  cases v <;> simp_all [Value.isRef]
theorem vx_isRefq {C n d : String} {A : Nat → Prop} {s : State} {args : Array Value} (h : va_Zq C n d A s s.heap) : (Cond.isRef (.static C n d)).before args s = true := by
  rcases h with h | ⟨t, h⟩
  · exact vx_isRef h rfl
  · exact vx_isRef h rfl
/-- the same frame, seen from here: as if the method were called anew in this heap -/
theorem vx_rebase {T : State} (X : Stand p l e R s m args below meth c T locs cells slots) {R' : Room} (hf : R'.frames ≤ R.frames) (hl : R'.locals ≤ R.locals) (hc : cells + R'.cells ≤ R.cells) (hs : slots + R'.slots ≤ R.slots) :
    Stand p l e R' ((T.setVm s.vm).setFrames (.invoking m args :: below)) m args below meth c T [] 0 0 := by
  have htop : (T.setVm s.vm).topJava?.isSome := X.here.top
  have hF : ((T.setVm s.vm).setFrames (.invoking m args :: below)).frames = .invoking m args :: below := State.frames_setFrames _ (State.cur_lt_of_top htop)
  obtain ⟨g₀, hg0⟩ := Option.isSome_iff_exists.mp htop
  obtain ⟨r, hr⟩ := State.topJava?_eq_some.mp hg0
  have hl9 : e.platform.stackLimits (T.setVm s.vm).me = e.platform.stackLimits s.me := X.limits
  have hb9 : (T.setVm s.vm).me.stackBytes = s.me.stackBytes := X.bytes
  refine ⟨X.admits, X.cas, X.clock, hF, ?_, X.hears, X.method, X.code, X.here, X.tail, X.warmed, ?_, ?_, ?_⟩
  · have h := X.room
    have hU : ((T.setVm s.vm).setFrames (.invoking m args :: below)).localsInUse = s.localsInUse := by
      rw [State.localsInUse_invoking hF (meth := meth) (c := c) X.method X.code, State.localsInUse_invoking X.frames X.method X.code]
    simp only [State.hasRoom, Bool.and_eq_true, decide_eq_true_eq] at h ⊢
    obtain ⟨⟨⟨⟨h1, h2, h3, h4, h5, h6⟩, h7⟩, h8⟩, h9⟩ := h
    rw [X.frames, List.length_cons] at h2 h3
    have q1 := X.heapSize
    have q2 := X.used
    simp only [hF, hU, List.length_cons, State.stackLimits_setFrames, State.stackBytes_setFrames, hl9, hb9]
    refine ⟨⟨⟨⟨by omega, by omega, by omega, by omega, by omega, h6⟩, ?_⟩, ?_⟩, X.book⟩
    · show T.heap.size + R'.cells ≤ e.platform.maxCells
      omega
    · show T.slotsUsed + R'.slots ≤ e.platform.maxSlots
      omega
  · rw [State.stackLimits_setFrames]; rfl
  · rw [State.stackBytes_setFrames]; rfl
  · refine ⟨?_, Nat.le_refl _, Nat.le_refl _, ?_, ?_, fun a c9 h9 => ⟨c9, h9, rfl, rfl, fun _ _ => rfl⟩⟩
    · obtain ⟨t, ht, -⟩ := State.frames_cons hr
      show T.setVm s.vm = { ((T.setVm s.vm).setFrames (.invoking m args :: below)).setFrames (T.setVm s.vm).frames with heap := T.heap, slotsUsed := T.slotsUsed }
      rw [State.setFrames_setFrames, State.setFrames_self ht]
      rfl
    · show T.slotsUsed = T.slotsUsed + ((T.heap.toList.drop T.heap.size).map (·.slots.size)).sum
      rw [List.drop_eq_nil_of_le (Nat.le_of_eq Array.length_toList)]
      rfl
    · show ((T.heap.toList.drop T.heap.size).map (·.slots.size)).sum ≤ 0
      rw [List.drop_eq_nil_of_le (Nat.le_of_eq Array.length_toList)]
      exact Nat.le_refl _
/-- 'throw new E()': new; dup; invokespecial; athrow -/
theorem vx_throw0 {cc : ByteArray} {pc : Nat} (hexec : p.tables.exec = Jvm.exec) (hb : c.code = cc) (hl : l.stackTraces = false) {own cls : String} {names : List String} {ik ic mc ms : Nat} {A : Nat → Prop}
    (hown : s.vm.findClass own = some m.cls) (hcls : Bundle.fit cls = true) (hnames : ∀ n ∈ names, Bundle.fit n = true)
    (hk : (Cond.classLink own ik cls).before args s = true) (hini : (Cond.initialized cls).before args s = true) (hat : ∀ w ∈ vx_at0 own ic cls names, w.before args s = true)
    (hgood : ∀ w ∈ Cond.classLink own ik cls :: Cond.initialized cls :: vx_at0 own ic cls names, vx_ot w = true)
    (hU : vx_Zq Bundle.tN "UNASSIGNED_STACK" Bundle.steD A s s.heap) (hN : vx_Zq Bundle.tN "SUPPRESSED_SENTINEL" Bundle.listD A s s.heap) (hS : va_S A s.heap H locs) (hsize : ls.size = c.maxLocals)
    (d0 : decode cc pc = .ok (.new ik, 3)) (d3 : decode cc (pc + 3) = .ok (.dup, 1)) (d4 : decode cc (pc + 4) = .ok (.invokespecial ic, 3)) (d7 : decode cc (pc + 7) = .ok (.athrow, 1))
    (hout : ∀ x ∈ c.exceptionTable.toList, covers x (pc + 7) = false)
    (hRframes : names.length + 3 < R.frames) (hRlocals : (rest.map fun v => v.category).sum + (13 * (names.length + 1) + 42) ≤ R.locals) (hRcells : cells + 1 ≤ R.cells) (hRslots : slots + 6 ≤ R.slots) (hlocks : meth.locks = false)
    (hx : ∀ t : State, s.vm.Alike t.vm → H.size ≤ t.heap.size → (∀ q : Nat, q < H.size → t.heap[q]? = H[q]?) → XC cls s t)
    (hf : ∀ z ∈ locs, free z.base) (hc : cells + 1 ≤ mc) (hs : slots + 6 ≤ ms) :
    W p l e R s m args below meth c H locs cells slots (vx_MQ below Qc XC args s mc ms free) (F0 m pc ls rest) := by
  intro T hT X
  have htr : e.platform.stackTraces = false := (show e.platform.stackTraces = l.stackTraces by rw [X.admits.platform]).trans hl
  have Y := vx_rebase X (R' := { frames := R.frames, locals := R.locals, cells := 1, slots := 6 }) (Nat.le_refl _) (Nat.le_refl _) hRcells hRslots
  obtain ⟨s', hA⟩ : ∃ z, z = (T.setVm s.vm).setFrames (.invoking m args :: below) := ⟨_, rfl⟩
  rw [← hA] at Y
  have hvm : s'.vm = s.vm := by rw [hA]; rfl
  have hhp : s'.heap = H := by rw [hA]; exact hT
  have hW0 : s.WarmedH s'.vm := by rw [hvm]; exact State.WarmedH.refl s
  have hat' : ∀ w ∈ vx_at0 own ic cls names, w.before args s' = true := fun w hw => vx_ot_at hW0 hvm.symm (hgood w (List.mem_cons_of_mem _ (List.mem_cons_of_mem _ hw))) (hat w hw)
  have hk' : (Cond.classLink own ik cls).before args s' = true := vx_ot_at hW0 hvm.symm (hgood _ List.mem_cons_self) hk
  have hini' : (Cond.initialized cls).before args s' = true := vx_ot_at hW0 hvm.symm (hgood _ (List.mem_cons_of_mem _ List.mem_cons_self)) hini
  have hU' : vx_Zq Bundle.tN "UNASSIGNED_STACK" Bundle.steD A s' s'.heap := by rw [hhp]; exact vx_Zq.moved hW0.alike (hU.kept hS.2.1)
  have hN' : vx_Zq Bundle.tN "SUPPRESSED_SENTINEL" Bundle.listD A s' s'.heap := by rw [hhp]; exact vx_Zq.moved hW0.alike (hN.kept hS.2.1)
  have h : ∀ w ∈ Bundle.ownAtoms0 own ic cls names, w.before args s' = true := vx_own hat' (vx_isRefq hU'.1) (vx_isRefq hN'.1) hU'.2.word hN'.2.word
  have hown' : s'.vm.findClass own = some m.cls := by rw [hvm]; exact hown
  have hins : (Cond.instantiable cls 6).before args s' = true := h _ (by simp [Bundle.ownAtoms0])
  obtain ⟨vm₁, cX, kX, hfX, hkX, -, -, X₁, st1⟩ := Y.newCold hexec (own := own) (C := cls) (index := ik) (n := 6) hown' hk' hins hini'
    (g := F0 m pc ls rest) rfl (by rw [hb]; exact d0) (Nat.le_refl _) (Nat.le_refl _)
  generalize hT1 : (T.setVm vm₁).pushCell { cls := cX, slots := kX.instanceTypes.map defaultValue, vm := .none } = T1 at X₁ st1
  have hcat : (Value.ref T.heap.size).category = 1 := rfl
  have hcellA : T1.heap[T.heap.size]? = some (freshCell cX kX) := by rw [← hT1]; exact State.heap_pushCell_size _ _
  have d3' : decode c.code (pc + 3) = .ok (.dup, 1) := by rw [hb]; exact d3
  obtain ⟨U, hsteps, hrun, hend, hW, hsame, ce, hce, hO⟩ := X₁.ctorThrow0 hexec htr (own := own) (cls := cls) (names := names) (ic := ic) hown' hcls hnames h (fun x hx => nomatch hx) hfX hkX hcellA (by rw [hhp, hT]; exact Nat.le_refl _)
    (g := { method := m, pc := pc + 4, locals := ls, stack := .ref T.heap.size :: .ref T.heap.size :: rest, locked := none }) rfl hsize rfl rfl (rest := rest) rfl
    (by rw [hb]; exact d4) (by rw [hb]; exact d7) hout hRframes (by simp only [List.map_cons, List.sum_cons, hcat]; omega) hlocks
  obtain ⟨f1, f2⟩ := vx_frame hsame
  rw [hhp] at f1 f2
  have hWs : s.WarmedH U.vm := State.WarmedH.trans hW0 hW
  have hcl : s.vm.findClass cls = some ce.cls := by
    have h9 := hO.cls
    rw [hvm] at h9
    exact h9
  have hall : s.sameButNew ({ U with vm := s.vm } : State) locs mc ms := by
    subst hA
    obtain ⟨e1, e2⟩ := hsame
    rw [State.setFrames_setFrames] at e1
    have h2 : (T.setVm s.vm).sameButNew ({ U with vm := s.vm } : State) [] (0 + 1) (0 + 6) := ⟨e1, e2⟩
    have h3 := X.same.trans h2
    rw [List.append_nil] at h3
    exact h3.mono hc hs
  refine ⟨U, ?_, .threw T.heap.size, hrun, hend, Or.inr ⟨T.heap.size, rfl, cls, ce, locs, hx U hWs.alike f1 (fun q hq => f2 q hq (fun z hz => nomatch hz)), hce, hO.vm, hcl, hWs, hall, hf⟩⟩
  refine st1 _ ?_
  show Steps p.tables e below (T1.setTop { method := m, pc := pc + 3, locals := ls, stack := .ref T.heap.size :: rest, locked := none }) _
  jvm_step X₁.here [X₁.here.top, hexec, d3', Value.category]
  exact hsteps
/-- 'throw new E("text")': new; dup; ldc; invokespecial; athrow -/
theorem vx_throwS {cc : ByteArray} {pc : Nat} (hexec : p.tables.exec = Jvm.exec) (hb : c.code = cc) (hl : l.stackTraces = false) {own cls text : String} {names : List String} {ik is ic mc ms sa : Nat} {A : Nat → Prop}
    (hown : s.vm.findClass own = some m.cls) (hcls : Bundle.fit cls = true) (hnames : ∀ n ∈ names, Bundle.fit n = true)
    (hk : (Cond.classLink own ik cls).before args s = true) (hini : (Cond.initialized cls).before args s = true) (hstr : vk_R own is text sa s) (hat : ∀ w ∈ vx_atS own ic cls names, w.before args s = true)
    (hgood : ∀ w ∈ Cond.classLink own ik cls :: Cond.initialized cls :: vx_atS own ic cls names, vx_ot w = true)
    (hU : vx_Zq Bundle.tN "UNASSIGNED_STACK" Bundle.steD A s s.heap) (hN : vx_Zq Bundle.tN "SUPPRESSED_SENTINEL" Bundle.listD A s s.heap) (hS : va_S A s.heap H locs) (hsize : ls.size = c.maxLocals)
    (d0 : decode cc pc = .ok (.new ik, 3)) (d3 : decode cc (pc + 3) = .ok (.dup, 1)) (d4 : decode cc (pc + 4) = .ok (.ldc is, 2)) (d6 : decode cc (pc + 6) = .ok (.invokespecial ic, 3)) (d9 : decode cc (pc + 9) = .ok (.athrow, 1))
    (hout : ∀ x ∈ c.exceptionTable.toList, covers x (pc + 9) = false)
    (hRframes : names.length + 3 < R.frames) (hRlocals : (rest.map fun v => v.category).sum + (13 * (names.length + 1) + 43) ≤ R.locals) (hRcells : cells + 1 ≤ R.cells) (hRslots : slots + 6 ≤ R.slots) (hlocks : meth.locks = false)
    (hx : ∀ t : State, s.vm.Alike t.vm → H.size ≤ t.heap.size → (∀ q : Nat, q < H.size → t.heap[q]? = H[q]?) → XC cls s t)
    (hf : ∀ z ∈ locs, free z.base) (hc : cells + 1 ≤ mc) (hs : slots + 6 ≤ ms) :
    W p l e R s m args below meth c H locs cells slots (vx_MQ below Qc XC args s mc ms free) (F0 m pc ls rest) := by
  intro T hT X
  have htr : e.platform.stackTraces = false := (show e.platform.stackTraces = l.stackTraces by rw [X.admits.platform]).trans hl
  have Y := vx_rebase X (R' := { frames := R.frames, locals := R.locals, cells := 1, slots := 6 }) (Nat.le_refl _) (Nat.le_refl _) hRcells hRslots
  obtain ⟨s', hA⟩ : ∃ z, z = (T.setVm s.vm).setFrames (.invoking m args :: below) := ⟨_, rfl⟩
  rw [← hA] at Y
  have hvm : s'.vm = s.vm := by rw [hA]; rfl
  have hhp : s'.heap = H := by rw [hA]; exact hT
  have hW0 : s.WarmedH s'.vm := by rw [hvm]; exact State.WarmedH.refl s
  have hat' : ∀ w ∈ vx_atS own ic cls names, w.before args s' = true := fun w hw => vx_ot_at hW0 hvm.symm (hgood w (List.mem_cons_of_mem _ (List.mem_cons_of_mem _ hw))) (hat w hw)
  have hk' : (Cond.classLink own ik cls).before args s' = true := vx_ot_at hW0 hvm.symm (hgood _ List.mem_cons_self) hk
  have hini' : (Cond.initialized cls).before args s' = true := vx_ot_at hW0 hvm.symm (hgood _ (List.mem_cons_of_mem _ List.mem_cons_self)) hini
  have hU' : vx_Zq Bundle.tN "UNASSIGNED_STACK" Bundle.steD A s' s'.heap := by rw [hhp]; exact vx_Zq.moved hW0.alike (hU.kept hS.2.1)
  have hN' : vx_Zq Bundle.tN "SUPPRESSED_SENTINEL" Bundle.listD A s' s'.heap := by rw [hhp]; exact vx_Zq.moved hW0.alike (hN.kept hS.2.1)
  have h : ∀ w ∈ Bundle.ownAtoms own ic cls names, w.before args s' = true := vx_own hat' (vx_isRefq hU'.1) (vx_isRefq hN'.1) hU'.2.word hN'.2.word
  have hown' : s'.vm.findClass own = some m.cls := by rw [hvm]; exact hown
  have hins : (Cond.instantiable cls 6).before args s' = true := h _ (by simp [Bundle.ownAtoms])
  obtain ⟨vm₁, cX, kX, hfX, hkX, -, -, X₁, st1⟩ := Y.newCold hexec (own := own) (C := cls) (index := ik) (n := 6) hown' hk' hins hini'
    (g := F0 m pc ls rest) rfl (by rw [hb]; exact d0) (Nat.le_refl _) (Nat.le_refl _)
  generalize hT1 : (T.setVm vm₁).pushCell { cls := cX, slots := kX.instanceTypes.map defaultValue, vm := .none } = T1 at X₁ st1
  have hcat : (Value.ref T.heap.size).category = 1 := rfl
  have hcellA : T1.heap[T.heap.size]? = some (freshCell cX kX) := by rw [← hT1]; exact State.heap_pushCell_size _ _
  have d3' : decode c.code (pc + 3) = .ok (.dup, 1) := by rw [hb]; exact d3
  have d4' : decode c.code (pc + 4) = .ok (.ldc is, 2) := by rw [hb]; exact d4
  have hstr' : vk_R own is text sa s' := vk_R.warm hW0 hstr
  obtain ⟨U, hsteps, hrun, hend, hW, hsame, ce, hce, hO⟩ := X₁.ctorThrowS hexec htr (own := own) (cls := cls) (names := names) (ic := ic) hown' hcls hnames h (fun x hx => nomatch hx) hfX hkX hcellA (by rw [hhp, hT]; exact Nat.le_refl _) (msg := .ref sa) rfl
    (g := { method := m, pc := pc + 6, locals := ls, stack := .ref sa :: .ref T.heap.size :: .ref T.heap.size :: rest, locked := none }) rfl hsize rfl rfl (rest := rest) rfl
    (by rw [hb]; exact d6) (by rw [hb]; exact d9) hout hRframes (by simp only [List.map_cons, List.sum_cons, hcat]; omega) hlocks
  obtain ⟨f1, f2⟩ := vx_frame hsame
  rw [hhp] at f1 f2
  have hWs : s.WarmedH U.vm := State.WarmedH.trans hW0 hW
  have hcl : s.vm.findClass cls = some ce.cls := by
    have h9 := hO.cls
    rw [hvm] at h9
    exact h9
  have hall : s.sameButNew ({ U with vm := s.vm } : State) locs mc ms := by
    subst hA
    obtain ⟨e1, e2⟩ := hsame
    rw [State.setFrames_setFrames] at e1
    have h2 : (T.setVm s.vm).sameButNew ({ U with vm := s.vm } : State) [] (0 + 1) (0 + 6) := ⟨e1, e2⟩
    have h3 := X.same.trans h2
    rw [List.append_nil] at h3
    exact h3.mono hc hs
  refine ⟨U, ?_, .threw T.heap.size, hrun, hend, Or.inr ⟨T.heap.size, rfl, cls, ce, locs, hx U hWs.alike f1 (fun q hq => f2 q hq (fun z hz => nomatch hz)), hce, hO.vm, hcl, hWs, hall, hf⟩⟩
  refine st1 _ ?_
  show Steps p.tables e below (T1.setTop { method := m, pc := pc + 3, locals := ls, stack := .ref T.heap.size :: rest, locked := none }) _
  jvm_step X₁.here [X₁.here.top, hexec, d3', Value.category]
  exact X₁.ldcString hexec (own := own) (text := text) (index := is) (a := sa) hown' hstr'.1 hstr'.2
    (g := { method := m, pc := pc + 4, locals := ls, stack := .ref T.heap.size :: .ref T.heap.size :: rest, locked := none }) rfl d4' _ hsteps
/-- 'throw new E("text")', the text by a wide index -/
theorem vx_throwSW {cc : ByteArray} {pc : Nat} (hexec : p.tables.exec = Jvm.exec) (hb : c.code = cc) (hl : l.stackTraces = false) {own cls text : String} {names : List String} {ik is ic mc ms sa : Nat} {A : Nat → Prop}
    (hown : s.vm.findClass own = some m.cls) (hcls : Bundle.fit cls = true) (hnames : ∀ n ∈ names, Bundle.fit n = true)
    (hk : (Cond.classLink own ik cls).before args s = true) (hini : (Cond.initialized cls).before args s = true) (hstr : vk_R own is text sa s) (hat : ∀ w ∈ vx_atS own ic cls names, w.before args s = true)
    (hgood : ∀ w ∈ Cond.classLink own ik cls :: Cond.initialized cls :: vx_atS own ic cls names, vx_ot w = true)
    (hU : vx_Zq Bundle.tN "UNASSIGNED_STACK" Bundle.steD A s s.heap) (hN : vx_Zq Bundle.tN "SUPPRESSED_SENTINEL" Bundle.listD A s s.heap) (hS : va_S A s.heap H locs) (hsize : ls.size = c.maxLocals)
    (d0 : decode cc pc = .ok (.new ik, 3)) (d3 : decode cc (pc + 3) = .ok (.dup, 1)) (d4 : decode cc (pc + 4) = .ok (.ldc_w is, 3)) (d7 : decode cc (pc + 7) = .ok (.invokespecial ic, 3)) (d10 : decode cc (pc + 10) = .ok (.athrow, 1))
    (hout : ∀ x ∈ c.exceptionTable.toList, covers x (pc + 10) = false)
    (hRframes : names.length + 3 < R.frames) (hRlocals : (rest.map fun v => v.category).sum + (13 * (names.length + 1) + 43) ≤ R.locals) (hRcells : cells + 1 ≤ R.cells) (hRslots : slots + 6 ≤ R.slots) (hlocks : meth.locks = false)
    (hx : ∀ t : State, s.vm.Alike t.vm → H.size ≤ t.heap.size → (∀ q : Nat, q < H.size → t.heap[q]? = H[q]?) → XC cls s t)
    (hf : ∀ z ∈ locs, free z.base) (hc : cells + 1 ≤ mc) (hs : slots + 6 ≤ ms) :
    W p l e R s m args below meth c H locs cells slots (vx_MQ below Qc XC args s mc ms free) (F0 m pc ls rest) := by
  intro T hT X
  have htr : e.platform.stackTraces = false := (show e.platform.stackTraces = l.stackTraces by rw [X.admits.platform]).trans hl
  have Y := vx_rebase X (R' := { frames := R.frames, locals := R.locals, cells := 1, slots := 6 }) (Nat.le_refl _) (Nat.le_refl _) hRcells hRslots
  obtain ⟨s', hA⟩ : ∃ z, z = (T.setVm s.vm).setFrames (.invoking m args :: below) := ⟨_, rfl⟩
  rw [← hA] at Y
  have hvm : s'.vm = s.vm := by rw [hA]; rfl
  have hhp : s'.heap = H := by rw [hA]; exact hT
  have hW0 : s.WarmedH s'.vm := by rw [hvm]; exact State.WarmedH.refl s
  have hat' : ∀ w ∈ vx_atS own ic cls names, w.before args s' = true := fun w hw => vx_ot_at hW0 hvm.symm (hgood w (List.mem_cons_of_mem _ (List.mem_cons_of_mem _ hw))) (hat w hw)
  have hk' : (Cond.classLink own ik cls).before args s' = true := vx_ot_at hW0 hvm.symm (hgood _ List.mem_cons_self) hk
  have hini' : (Cond.initialized cls).before args s' = true := vx_ot_at hW0 hvm.symm (hgood _ (List.mem_cons_of_mem _ List.mem_cons_self)) hini
  have hU' : vx_Zq Bundle.tN "UNASSIGNED_STACK" Bundle.steD A s' s'.heap := by rw [hhp]; exact vx_Zq.moved hW0.alike (hU.kept hS.2.1)
  have hN' : vx_Zq Bundle.tN "SUPPRESSED_SENTINEL" Bundle.listD A s' s'.heap := by rw [hhp]; exact vx_Zq.moved hW0.alike (hN.kept hS.2.1)
  have h : ∀ w ∈ Bundle.ownAtoms own ic cls names, w.before args s' = true := vx_own hat' (vx_isRefq hU'.1) (vx_isRefq hN'.1) hU'.2.word hN'.2.word
  have hown' : s'.vm.findClass own = some m.cls := by rw [hvm]; exact hown
  have hins : (Cond.instantiable cls 6).before args s' = true := h _ (by simp [Bundle.ownAtoms])
  obtain ⟨vm₁, cX, kX, hfX, hkX, -, -, X₁, st1⟩ := Y.newCold hexec (own := own) (C := cls) (index := ik) (n := 6) hown' hk' hins hini'
    (g := F0 m pc ls rest) rfl (by rw [hb]; exact d0) (Nat.le_refl _) (Nat.le_refl _)
  generalize hT1 : (T.setVm vm₁).pushCell { cls := cX, slots := kX.instanceTypes.map defaultValue, vm := .none } = T1 at X₁ st1
  have hcat : (Value.ref T.heap.size).category = 1 := rfl
  have hcellA : T1.heap[T.heap.size]? = some (freshCell cX kX) := by rw [← hT1]; exact State.heap_pushCell_size _ _
  have d3' : decode c.code (pc + 3) = .ok (.dup, 1) := by rw [hb]; exact d3
  have d4' : decode c.code (pc + 4) = .ok (.ldc_w is, 3) := by rw [hb]; exact d4
  have hstr' : vk_R own is text sa s' := vk_R.warm hW0 hstr
  obtain ⟨U, hsteps, hrun, hend, hW, hsame, ce, hce, hO⟩ := X₁.ctorThrowS hexec htr (own := own) (cls := cls) (names := names) (ic := ic) hown' hcls hnames h (fun x hx => nomatch hx) hfX hkX hcellA (by rw [hhp, hT]; exact Nat.le_refl _) (msg := .ref sa) rfl
    (g := { method := m, pc := pc + 7, locals := ls, stack := .ref sa :: .ref T.heap.size :: .ref T.heap.size :: rest, locked := none }) rfl hsize rfl rfl (rest := rest) rfl
    (by rw [hb]; exact d7) (by rw [hb]; exact d10) hout hRframes (by simp only [List.map_cons, List.sum_cons, hcat]; omega) hlocks
  obtain ⟨f1, f2⟩ := vx_frame hsame
  rw [hhp] at f1 f2
  have hWs : s.WarmedH U.vm := State.WarmedH.trans hW0 hW
  have hcl : s.vm.findClass cls = some ce.cls := by
    have h9 := hO.cls
    rw [hvm] at h9
    exact h9
  have hall : s.sameButNew ({ U with vm := s.vm } : State) locs mc ms := by
    subst hA
    obtain ⟨e1, e2⟩ := hsame
    rw [State.setFrames_setFrames] at e1
    have h2 : (T.setVm s.vm).sameButNew ({ U with vm := s.vm } : State) [] (0 + 1) (0 + 6) := ⟨e1, e2⟩
    have h3 := X.same.trans h2
    rw [List.append_nil] at h3
    exact h3.mono hc hs
  refine ⟨U, ?_, .threw T.heap.size, hrun, hend, Or.inr ⟨T.heap.size, rfl, cls, ce, locs, hx U hWs.alike f1 (fun q hq => f2 q hq (fun z hz => nomatch hz)), hce, hO.vm, hcl, hWs, hall, hf⟩⟩
  refine st1 _ ?_
  show Steps p.tables e below (T1.setTop { method := m, pc := pc + 3, locals := ls, stack := .ref T.heap.size :: rest, locked := none }) _
  jvm_step X₁.here [X₁.here.top, hexec, d3', Value.category]
  exact X₁.ldcStringW hexec (own := own) (text := text) (index := is) (a := sa) hown' hstr'.1 hstr'.2
    (g := { method := m, pc := pc + 4, locals := ls, stack := .ref T.heap.size :: .ref T.heap.size :: rest, locked := none }) rfl d4' _ hsteps
end Ends
section Bodies
variable {l : Launch}
theorem vx_ofW {y : MethodName} {ws ws' : List Cond} {rm : Room} {Pc : Array Value → State → Prop} {Qc : Array Value → State → Outcome → State → Prop} {XC : String → State → State → Prop} {mc ms : Nat} {free : Addr → Prop} {cc : ByteArray} {maxL : Nat} {ret : Option FieldType}
    (hy : plainName y.cls = true) (hw : ws = Cond.code y cc maxL ret :: ws')
    (body : ∀ p e s m args below meth c s₁, BodyLoose p l y (headSpec ws rm) cc maxL ret e s m args below meth c s₁ → c.maxLocals = maxL → (∀ x ∈ c.exceptionTable.toList, False) → Pc args s →
      W p l e (headSpec ws rm).room s m args below meth c s.heap [] 0 0 (vx_MQ below Qc XC args s mc ms free) (entryFrame m args maxL)) : vx_Met l y ws rm Pc Qc XC mc ms free := by
  refine MetFree.of_bodyS (code := cc) (maxLocals := maxL) (ret := ret) hy ?_ ?_
  · intro args s m h hn
    obtain ⟨meth, c, h1, h2, h3, h4, h5, h6, -, -⟩ := Cond.code_spec hn (atoms_spec (ws := ws) h _ (by rw [hw]; exact List.mem_cons_self))
    exact ⟨meth, c, h1, h2, h3, h4, h5, h6⟩
  · intro p e s m args below meth c s₁ B hml hP _
    have hh0 : s₁.heap = s.heap := by rw [B.state]; rfl
    have ht : ∀ x ∈ c.exceptionTable.toList, False := by
      obtain ⟨meth9, c9, h1, h2, -, -, -, -, h7, -⟩ := Cond.code_spec B.named (atoms_spec (ws := ws) B.pre _ (by rw [hw]; exact List.mem_cons_self))
      cases Option.some.inj (h1.symm.trans B.method)
      cases Option.some.inj (h2.symm.trans (Stand.of_body B).code)
      intro x hx
      rw [Array.isEmpty_iff.mp h7] at hx
      cases hx
    obtain ⟨t, a1, o, b1, b2, b3⟩ := body p e s m args below meth c s₁ B hml ht hP s₁ hh0 (Stand.of_body B)
    exact ⟨t, o, a1, b1, b2, b3⟩
/-- the table of a body with handlers -/
theorem vx_table {p : Program} {x y : MethodName} {S : Spec} {cc bytes : ByteArray} {maxL maxL' : Nat} {ret ret' : Option FieldType} {e : Env} {s s₁ : State} {m : MethodId} {args : Array Value} {below : List Frame} {meth : Method} {c : Code} {hh : List (Nat × Nat × Nat × Nat)}
    (B : BodyLoose p l y S cc maxL ret e s m args below meth c s₁) (h : (Cond.codeWith y bytes maxL' ret' hh).before args s = true) : c.exceptionTable.toList = tableOf hh := by
  obtain ⟨m9, meth9, c9, hn9, h1, h2, -, -, h6, -⟩ := Cond.codeWith_spec h
  cases Option.some.inj (hn9.symm.trans B.named)
  cases Option.some.inj (h1.symm.trans B.method)
  cases Option.some.inj (h2.symm.trans (Stand.of_body B).code)
  rw [← h6, table_eq]
end Bodies
end VXA
/-! ===== END ===== -/
/-! ===== BEGIN a static call of a method with an exception table ===== -/
section VXS
variable {p : Program} {l : Launch} {e : Env} {R : Room} {s : State} {m : MethodId} {args : Array Value} {below : List Frame} {meth : Method} {c : Code} {T : State} {H : Heap} {locs : List Loc} {cells slots : Nat}
abbrev vx_CSW (R : Room) (s : State) (args : Array Value) (own : String) (index : Nat) (y : MethodName) (bytes : ByteArray) (maxL : Nat) (ret : Option FieldType) (hh : List (Nat × Nat × Nat × Nat)) (ws : List Cond) (rm : Room) (mc ms n : Nat) : Prop :=
  (rm.cells = mc ∧ rm.slots = ms ∧ rm.frames + 1 ≤ R.frames ∧ 8 + (maxL + 11) + rm.locals ≤ R.locals ∧ (∀ w ∈ ws, ∀ (a' : Array Value) (U : State), s.WarmedH U.vm → w.before a' U = true) ∧ Cond.codeWith y bytes maxL ret hh ∈ ws) ∧
  (Cond.codeWith y bytes maxL ret hh).before args s = true ∧ (Cond.initialized y.cls).before args s = true ∧ (y.cls ≠ "java/lang/invoke/MethodHandle" ∧ y.cls ≠ "java/lang/invoke/VarHandle") ∧
  (∀ sig, parseMethodDescriptor y.desc = some sig → n = sig.parameters.length) ∧ (Cond.methodLink own index y).before args s = true ∧ (Cond.static y).before args s = true
theorem vx_cwSW {own : String} {index maxL mc ms : Nat} {y : MethodName} {bytes : ByteArray} {ret : Option FieldType} {hh : List (Nat × Nat × Nat × Nat)} {Ts ws ws' : List Cond} {rm : Room} (n : Nat) (ht : ∀ w ∈ Ts, w.before args s = true) (hT : GoodIn Ts (va_wsS own index y ws)) (hw : ws = Cond.codeWith y bytes maxL ret hh :: ws') (hrc : rm.cells = mc) (hrs : rm.slots = ms)
    (hd : y.cls ≠ "java/lang/invoke/MethodHandle" ∧ y.cls ≠ "java/lang/invoke/VarHandle" ∧ (parseMethodDescriptor y.desc).map (fun d => d.parameters.length) = some n) (hR : rm.frames + 1 ≤ R.frames ∧ 8 + (maxL + 11) + rm.locals ≤ R.locals) :
    vx_CSW R s args own index y bytes maxL ret hh ws rm mc ms n := by
  have ok : ∀ w ∈ va_wsS own index y ws, w.before args s = true := fun w h => ht w (hT w h).1
  have hG : GoodIn Ts ws := fun w h => hT w (by unfold va_wsS; exact List.mem_append_right _ h)
  have hc : Cond.codeWith y bytes maxL ret hh ∈ ws := by rw [hw]; exact List.mem_cons_self
  refine ⟨⟨hrc, hrs, hR.1, hR.2, pay_in ht hG, hc⟩, ht _ (hG _ hc).1, ok _ (by simp [va_wsS]), ⟨hd.1, hd.2.1⟩, fun sig h => ?_, ok _ (by simp [va_wsS]), ok _ (by simp [va_wsS])⟩
  have h2 := hd.2.2
  rw [h] at h2
  exact (Option.some.inj h2).symm
theorem vx_callSW (X : Stand p l e R s m args below meth c T locs cells slots) (hexec : p.tables.exec = Jvm.exec) {own : String} {index : Nat} {y : MethodName} {bytes : ByteArray} {maxL : Nat} {ret : Option FieldType} {hh : List (Nat × Nat × Nat × Nat)}
    (hown : s.vm.findClass own = some m.cls) (hlink : (Cond.methodLink own index y).before args s = true) (hstat : (Cond.static y).before args s = true) (hinit : (Cond.initialized y.cls).before args s = true)
    (hcode : (Cond.codeWith y bytes maxL ret hh).before args s = true) (hy : y.cls ≠ "java/lang/invoke/MethodHandle" ∧ y.cls ≠ "java/lang/invoke/VarHandle")
    {W9 : Nat} {Pre : Pt → Array Value → Prop} {Post : Pt → Array Value → Option Value → Pt → Prop} (hK : Back l R p e below s args y 3 W9 Pre Post)
    {g : JFrame} (hg : g.method = m) (hsize : g.locals.size = c.maxLocals) {argsL rest : List Value} (hlen : ∀ sig, parseMethodDescriptor y.desc = some sig → argsL.length = sig.parameters.length)
    (hstack : g.stack = argsL.reverse ++ rest) (hW : 2 * g.monitorRoom + (rest.map fun v => v.category).sum ≤ W9) (hdg : decode c.code g.pc = .ok (.invokestatic index, 3))
    (hpre : ∀ vm₁, s.WarmedH vm₁ → Pre ⟨T.setVm vm₁, locs, cells, slots⟩ argsL.toArray) :
    ∃ (v : Option Value) (vm₁ : Vm) (B : Pt), s.WarmedH vm₁ ∧ Stand p l e R s m args below meth c B.U B.locs B.cells B.slots ∧ Post ⟨T.setVm vm₁, locs, cells, slots⟩ argsL.toArray v B ∧
      ∀ target, Steps p.tables e below (B.U.setTop { g with pc := g.pc + 3, stack := v.toList ++ rest }) target → Steps p.tables e below (T.setTop g) target := by
  obtain ⟨mk, methM, cM, hnamed, hmethM, -, -, -, -, -, -, hsigM⟩ := Cond.codeWith_spec hcode
  have hstatic : methM.isStatic = true := Cond.static_spec hnamed hmethM hstat
  obtain ⟨kP, hkP, -⟩ := className_of_methodNamed hnamed
  have hinitP : kP.init = .initialized := Cond.initialized_spec (findClass_of_methodNamed hnamed) hkP hinit
  obtain ⟨vm₁, X₁, hstep₁⟩ := X.invokestatic hexec hown hlink hnamed hmethM hstatic hkP hinitP hy (g := g) hg (argsL := argsL) (rest := rest) (hlen _ hsigM) hstack hdg
  obtain ⟨v, B, X', hpost, hsteps⟩ := hK m meth c ⟨T.setVm vm₁, locs, cells, slots⟩ { g with stack := rest } (.invokestatic index) mk argsL.toArray X₁ hg hsize hdg hW (X₁.named hnamed) (hpre vm₁ X₁.warmed)
  exact ⟨v, vm₁, B, X₁.warmed, X', hpost, fun target h => hstep₁ _ fun acts => by rw [doInvoke_state]; exact hsteps.trans h⟩
theorem vx_runSW {y : MethodName} {bytes cc : ByteArray} {maxL nL mc ms n index : Nat} {ret : Option FieldType} {hh : List (Nat × Nat × Nat × Nat)} {ws : List Cond} {rm : Room} {Pc : Array Value → State → Prop} {Qc : Array Value → State → Outcome → State → Prop} {free : Addr → Prop} {Ts : List Cond} {own : String} {As rest : List Value} {g : JFrame}
    (S : CallFix p m c cc nL s args Ts own) (hM : Met l y ws rm Pc Qc mc ms free) (cw : vx_CSW R s args own index y bytes maxL ret hh ws rm mc ms n) (hp : PreS s H Pc As)
    (hg : g.method = m) (hn : As.length = n) (hsize : g.locals.size = nL) (hstack : g.stack = As.reverse ++ rest) (hW : 2 * g.monitorRoom + (rest.map fun v => v.category).sum ≤ 8) (hdg : decode cc g.pc = .ok (.invokestatic index, 3)) (hf : cells + mc ≤ R.cells ∧ slots + ms ≤ R.slots) :
    va_Run p l e R s m args below meth c H locs cells slots mc ms g rest (Qc As.toArray) (free) := by
  obtain ⟨⟨hrc, hrs, hfr, hlo, hws, hcw⟩, hcode, hini, hy, hlen, hl, hstt⟩ := cw
  have hK : Back l R p e below s args y 3 8 (PreOf R mc ms Pc) (PostOf Qc mc ms free) := va_backW (hh := hh) (bytes := bytes) (maxL := maxL) (ret := ret) hM hp.1 hrc hrs hfr hlo hws hcw (fun a' U hW => word_at hW (Or.inl (by first | rfl | simp [Cond.onTables, Cond.keeps, Cond.steady])) hini)
  obtain ⟨hx, hb, hml, ho, -⟩ := S
  intro T hT X
  obtain ⟨v, vm₁, ⟨U', l2, c2, s2⟩, hW₁, X', ⟨g', mk, t, L, e1, e2, hq, h1, hL, h2, h3⟩, st⟩ := vx_callSW X hx (hh := hh) (bytes := bytes) (maxL := maxL) (ret := ret) ho hl hstt hini hcode hy hK hg (hsize.trans hml.symm) (argsL := As) (rest := rest) (fun sig h => hn.trans (hlen sig h)) hstack hW (by rw [hb]; exact hdg)
    (fun vm₁ hW₁ => ⟨hf.1, hf.2, hp.2 (T.setVm vm₁) hT hW₁⟩)
  dsimp only [Pt.U, Pt.locs, Pt.cells, Pt.slots] at X' e1 e2 h1 h2 h3 st
  subst h1; subst h2; subst h3
  exact ⟨v, (T.setVm vm₁).calling g' mk As.toArray, t, U', L, hT, X', hL, e1, e2, hq, st⟩
/-- not caught here, past rows that name other classes: it goes on to the caller -/
theorem vx_outP {p : Program} {l : Launch} {e : Env} {R : Room} {s : State} {m : MethodId} {args : Array Value} {below : List Frame} {meth : Method} {c : Code} {H : Heap} {locs : List Loc} {cells slots : Nat} {free : Addr → Prop} {ls : Array Slot} {rest : List Value} {Qc : Array Value → State → Outcome → State → Prop} {XC : String → State → State → Prop}
    {pc : Nat} {own E : String} {ce : Cell} {q : Addr} {mc ms : Nat} (hown : s.vm.findClass own = some m.cls) (hlocks : meth.locks = false)
    (hpass : ∀ z ∈ c.exceptionTable.toList, covers z pc = false ∨ (z.catchType ≠ 0 ∧ ∃ nm : String, (Cond.classLink own z.catchType nm).before args s = true ∧ va_Nc E nm s)) (hcell : H[q]? = some ce) (hv : ce.vm = .none) (hcl : s.vm.findClass E = some ce.cls)
    (hx : ∀ t : State, t.heap = H → s.vm.Alike t.vm → XC E s t) (hf : ∀ z ∈ locs, free z.base) (hc : cells ≤ mc) (hs : slots ≤ ms) :
    vx_W p l e R s m args below meth c H locs cells slots (vx_MQ below Qc XC args s mc ms free) (F0 m pc ls rest) q := by
  intro T hT X
  have hpl : e.platform.magicAccessors = ({} : Platform).magicAccessors := by rw [X.admits.platform]
  obtain ⟨vm', hW', X', st⟩ := X.outThrough hlocks q (g := F0 m pc ls rest) rfl rfl rfl (cell := ce) (by rw [hT]; exact hcell) (by rw [hv]; rfl)
    (by obtain ⟨k9, h9, -⟩ := Vm.findClass_spec hcl; exact ⟨k9, h9⟩) (fun z hz => by
      rcases hpass z hz with h | ⟨hz0, nm, hl1, hn1⟩
      · exact Or.inl h
      · obtain ⟨c6, hc6, hcl6⟩ := Cond.classLink_spec hown hl1 e.platform hpl
        obtain ⟨a8, b8, h1, h2, h3⟩ := hn1
        cases Option.some.inj (h1.symm.trans hcl)
        cases Option.some.inj (h2.symm.trans hc6)
        exact Or.inr ⟨hz0, _, hcl6, h3⟩)
  obtain ⟨g₀, hfr⟩ := X'.frames_eq
  have hcell9 : ((T.setVm vm').setFrames (.throwing q :: below)).heap[q]? = some ce := by
    show T.heap[q]? = some ce
    rw [hT]; exact hcell
  have hend : Ended ((T.setVm vm').setFrames (.throwing q :: below)) below (.threw q) := State.frames_setFrames _ (State.cur_lt_of_frames hfr)
  refine ⟨(T.setVm vm').setFrames (.throwing q :: below), ?_, .threw q, X'.here.running, hend, Or.inr ⟨q, rfl, E, ce, locs, hx _ hT (X'.ends _).1.alike, hcell9, hv, hcl, (X'.ends _).1, (X'.ends _).2.mono hc hs, hf⟩⟩
  rw [X.pushThrowing_eq]
  exact st
/-- a thing of a world lies in the heap -/
theorem vx_lt {D : va_G} {cl : List vw_C} {ws : va_W} {H1 : Heap} (h : va_P D cl ws H1) {k : Nat} {q : Nat × va_E} (hk : ws[k]? = some q) : q.1 < H1.size := (h k q hk).lt
end VXS
/-! ===== END ===== -/
/-! ===== BEGIN methods with a table of their own: called by a name, returning or throwing ===== -/
section VXH
/-! vx_backW, vx_callVX, vx_callSX, vx_callVW, vx_runVW, vx_runVX, vx_runSX, vx_ofWH follow the same proofs as their sisters above (Free/Laws.lean, Shelf42/LK1.lean); vx_outP calls Shelf42/NT130.lean (outThrough). -/
section
variable {l : Launch} {R : Room} {p : Program} {e : Env} {below : List Frame} {s : State} {sargs : Array Value} {y : MethodName} {len W9 : Nat}
theorem vx_backW {ws : List Cond} {rm : Room} {Pc : Array Value → State → Prop} {Qc : Array Value → State → Outcome → State → Prop} {XC : String → State → State → Prop} {mc ms : Nat} {free : Addr → Prop} {bytes : ByteArray} {maxL : Nat} {ret : Option FieldType} {hh : List (Nat × Nat × Nat × Nat)}
    (hM : vx_Met l y ws rm Pc Qc XC mc ms free) (hblind : FrameBlind Pc) (hrc : rm.cells = mc) (hrs : rm.slots = ms)
    (hframes : rm.frames + 1 ≤ R.frames) (hlocals : W9 + (maxL + 11) + rm.locals ≤ R.locals)
    (hws : ∀ w ∈ ws, ∀ a' U, s.WarmedH U.vm → w.before a' U = true) (hcode : Cond.codeWith y bytes maxL ret hh ∈ ws) (hinit : ∀ a' U, s.WarmedH U.vm → (Cond.initialized y.cls).before a' U = true) :
    vx_Back l R p e below s sargs y len W9 (PreOf R mc ms Pc) (PostOf Qc mc ms free) (vx_Post XC mc ms free) := by
  intro m meth c A g ig mk a X hg hsize hdg hW hn hp
  have h1 : (headSpec ws rm).pre.before a A.U = true := atoms_intro fun w hw => hws w hw _ _ X.warmed
  have h2 : (Cond.codeWith y bytes maxL ret hh).before a A.U = true := hws _ hcode _ _ X.warmed
  have h3 : (Cond.initialized y.cls).before a A.U = true := hinit _ _ X.warmed
  have h4 : A.cells + (headSpec ws rm).room.cells ≤ R.cells := by rw [show (headSpec ws rm).room.cells = mc from hrc]; exact hp.1
  have h5 : A.slots + (headSpec ws rm).room.slots ≤ R.slots := by rw [show (headSpec ws rm).room.slots = ms from hrs]; exact hp.2.1
  have hPc : Pc a (A.U.calling g mk a) := hblind _ _ _ _ hp.2.2
  obtain ⟨U, Ls, c0, s0⟩ := A
  dsimp only [Pt.U, Pt.locs, Pt.cells, Pt.slots] at h1 h2 h3 h4 h5 X hn hPc ⊢
  obtain ⟨m9, methY, cY, hn9, hmY, hcY, -, hlY, -⟩ := Cond.codeWith_spec h2
  cases Option.some.inj (hn9.symm.trans hn)
  obtain ⟨kY, hkY, -⟩ := className_of_methodNamed hn
  have hinitY : kY.init = .initialized := Cond.initialized_spec (findClass_of_methodNamed hn) hkY h3
  have h : At U g.method c below := by rw [hg]; exact X.here
  have hlocals9 : W9 + (maxL + 11) + (headSpec ws rm).room.locals ≤ R.locals := hlocals
  have happ : (headSpec ws rm).appliesLoose y e.platform (U.calling g mk a) = true :=
    Spec.appliesLoose_calling (g := g) h hdg hn hkY hinitY
      (X.room_calling (g := g) (R' := (headSpec ws rm).room) hsize hmY hcY hframes (by rw [hlY]; omega) h4 h5) h1
  obtain ⟨mid, hmid⟩ := h.above
  have hfr : (U.setTop g).frames = (.java g :: mid) ++ below := by rw [State.frames_setTop' g h.top, hmid]; rfl
  obtain ⟨o, s₂, hsteps, -, hend, hq⟩ := Steps.callFree hM p X.admits X.cas X.clock (acts := []) hfr happ hPc trivial
  have hq' : vx_Q Qc XC mc ms free a (U.calling g mk a) o s₂ := hq
  rw [State.frames_setTop' g h.top] at hend
  obtain ⟨g₀, hg0⟩ := Option.isSome_iff_exists.mp h.top
  obtain ⟨r, hr⟩ := State.topJava?_eq_some.mp hg0
  have hr' : (({ U with heap := s₂.heap, slotsUsed := s₂.slotsUsed } : State).setVm s₂.vm).frames = .java g₀ :: r := hr
  rcases hq' with ⟨hqc, L, hfe, hL⟩ | ⟨q, rfl, E, ce, L, hx, hce, hcv, hcl, hW₂, hsm, hL⟩
  · obtain ⟨⟨v, rfl⟩, hW₂, e2, q2, q3, q4, q5, q6⟩ := id hfe
    have e3 : s₂ = ({ (U.calling g mk a).setFrames s₂.frames with heap := s₂.heap, slotsUsed := s₂.slotsUsed } : State).setVm s₂.vm := by
      have : s₂ = ({ s₂ with vm := (U.calling g mk a).vm } : State).setVm s₂.vm := rfl
      rw [e2] at this
      exact this
    obtain ⟨c₂, i₂, len₂, hc₂, hd₂, hf₂⟩ := hend
    have hW' : U.WarmedH s₂.vm := hW₂
    have hcc : c₂ = c := by
      have h1 : s₂.code? g.method = U.code? g.method := by
        rw [State.code?_eq, State.code?_eq, hW'.alike.method?]
      exact Option.some.inj (hc₂.symm.trans (h1.trans h.code))
    subst hcc
    have hlen : len₂ = len := by rw [hdg] at hd₂; cases hd₂; rfl
    subst hlen
    have hs₂ : s₂ = (({ U with heap := s₂.heap, slotsUsed := s₂.slotsUsed } : State).setVm s₂.vm).setTop { g with pc := g.pc + len₂, stack := v.toList ++ g.stack } := by
      refine e3.trans ?_
      rw [hf₂, State.calling_eq h.top, State.setFrames_setFrames, State.setTop_of_frames _ hr', hr]
      rfl
    have hsame : U.sameButNew ({ U with heap := s₂.heap, slotsUsed := s₂.slotsUsed } : State) L mc ms := by
      refine ⟨?_, q2, q3, q4, q5, q6⟩
      obtain ⟨t, ht, -⟩ := State.frames_cons hr
      show ({ U with heap := s₂.heap, slotsUsed := s₂.slotsUsed } : State) = { U.setFrames U.frames with heap := s₂.heap, slotsUsed := s₂.slotsUsed }
      rw [State.setFrames_self ht]
    subst hg
    refine Or.inl ⟨v, ⟨(({ U with heap := s₂.heap, slotsUsed := s₂.slotsUsed } : State).setVm s₂.vm), Ls ++ L, c0 + mc, s0 + ms⟩,
      ⟨X.admits, X.cas, X.clock, X.frames, X.room, X.hears, X.method, X.code, (X.here.setHeapUsed s₂.heap s₂.slotsUsed).setVm hW'.alike, X.tail, State.WarmedH.trans X.warmed hW', X.limits, X.bytes, X.same.trans (hsame.setVm s.vm)⟩,
      ⟨g, mk, s₂, L, rfl, rfl, hqc, rfl, hL, rfl, rfl⟩, ?_⟩
    show Steps p.tables e below _ ((({ U with heap := s₂.heap, slotsUsed := s₂.slotsUsed } : State).setVm s₂.vm).setTop { g with pc := g.pc + len₂, stack := v.toList ++ g.stack })
    rw [← hs₂]
    exact hsteps
  · obtain ⟨e2, q2, q3, q4, q5, q6⟩ := id hsm
    have e3 : s₂ = ({ (U.calling g mk a).setFrames s₂.frames with heap := s₂.heap, slotsUsed := s₂.slotsUsed } : State).setVm s₂.vm := by
      have : s₂ = ({ s₂ with vm := (U.calling g mk a).vm } : State).setVm s₂.vm := rfl
      rw [e2] at this
      exact this
    have hf₂ : s₂.frames = .throwing q :: .java g :: U.frames.tail := hend
    have hW' : U.WarmedH s₂.vm := hW₂
    have hs₂ : s₂ = ((({ U with heap := s₂.heap, slotsUsed := s₂.slotsUsed } : State).setVm s₂.vm).setTop g).pushFrame (.throwing q) := by
      refine e3.trans ?_
      rw [hf₂, State.calling_eq h.top, State.setFrames_setFrames, State.pushFrame, State.frames_setTop _ hr', State.setTop_of_frames _ hr', State.setFrames_setFrames, hr]
      rfl
    have hsame : U.sameButNew ({ U with heap := s₂.heap, slotsUsed := s₂.slotsUsed } : State) L mc ms := by
      refine ⟨?_, q2, q3, q4, q5, q6⟩
      obtain ⟨t, ht, -⟩ := State.frames_cons hr
      show ({ U with heap := s₂.heap, slotsUsed := s₂.slotsUsed } : State) = { U.setFrames U.frames with heap := s₂.heap, slotsUsed := s₂.slotsUsed }
      rw [State.setFrames_self ht]
    subst hg
    refine Or.inr ⟨q, ⟨(({ U with heap := s₂.heap, slotsUsed := s₂.slotsUsed } : State).setVm s₂.vm), Ls ++ L, c0 + mc, s0 + ms⟩,
      ⟨X.admits, X.cas, X.clock, X.frames, X.room, X.hears, X.method, X.code, (X.here.setHeapUsed s₂.heap s₂.slotsUsed).setVm hW'.alike, X.tail, State.WarmedH.trans X.warmed hW', X.limits, X.bytes, X.same.trans (hsame.setVm s.vm)⟩,
      ⟨g, mk, s₂, L, E, ce, rfl, rfl, hx, hce, hcv, hcl, rfl, hL, rfl, rfl⟩, ?_⟩
    show Steps p.tables e below _ (((({ U with heap := s₂.heap, slotsUsed := s₂.slotsUsed } : State).setVm s₂.vm).setTop g).pushFrame (.throwing q))
    rw [← hs₂]
    exact hsteps
end
variable {p : Program} {l : Launch} {e : Env} {R : Room} {s : State} {m : MethodId} {args : Array Value} {below : List Frame} {meth : Method} {c : Code} {T : State} {H : Heap} {locs : List Loc} {cells slots : Nat}
theorem vx_callVX (X : Stand p l e R s m args below meth c T locs cells slots) (hexec : p.tables.exec = Jvm.exec) {own C : String} {index : Nat} {y : MethodName} {bytes : ByteArray} {maxL : Nat} {ret : Option FieldType} {hh : List (Nat × Nat × Nat × Nat)}
    (hown : s.vm.findClass own = some m.cls) (hlink : (Cond.methodLink own index y).before args s = true) (hinst : (Cond.instanceMethod y).before args s = true) (hsel : (Cond.selects C y y).before args s = true)
    (hcode : (Cond.codeWith y bytes maxL ret hh).before args s = true) (hy : y.cls ≠ "java/lang/invoke/MethodHandle" ∧ y.cls ≠ "java/lang/invoke/VarHandle")
    {W9 : Nat} {Pre : Pt → Array Value → Prop} {Post : Pt → Array Value → Option Value → Pt → Prop} {PostX : Pt → Array Value → Addr → Pt → Prop} (hK : vx_Back l R p e below s args y 3 W9 Pre Post PostX)
    {b : Addr} {cellB : Cell} (hcell : T.heap[b]? = some cellB) (hobj : cellB.vm.isStatics = false) (hcls : s.vm.findClass C = some cellB.cls)
    {g : JFrame} (hg : g.method = m) (hsize : g.locals.size = c.maxLocals) {argsL rest : List Value} (hlen : ∀ sig, parseMethodDescriptor y.desc = some sig → argsL.length = sig.parameters.length)
    (hstack : g.stack = argsL.reverse ++ .ref b :: rest) (hW : 2 * g.monitorRoom + (rest.map fun v => v.category).sum ≤ W9) (hdg : decode c.code g.pc = .ok (.invokevirtual index, 3))
    (hpre : ∀ vm₁, s.WarmedH vm₁ → Pre ⟨T.setVm vm₁, locs, cells, slots⟩ (Value.ref b :: argsL).toArray) :
    (∃ (v : Option Value) (vm₁ : Vm) (B : Pt), s.WarmedH vm₁ ∧ Stand p l e R s m args below meth c B.U B.locs B.cells B.slots ∧ Post ⟨T.setVm vm₁, locs, cells, slots⟩ (Value.ref b :: argsL).toArray v B ∧
      ∀ target, Steps p.tables e below (B.U.setTop { g with pc := g.pc + 3, stack := v.toList ++ rest }) target → Steps p.tables e below (T.setTop g) target) ∨
    (∃ (q : Addr) (vm₁ : Vm) (B : Pt), s.WarmedH vm₁ ∧ Stand p l e R s m args below meth c B.U B.locs B.cells B.slots ∧ PostX ⟨T.setVm vm₁, locs, cells, slots⟩ (Value.ref b :: argsL).toArray q B ∧
      Steps p.tables e below (T.setTop g) ((B.U.setTop { g with stack := rest }).pushFrame (.throwing q))) := by
  obtain ⟨mk, methM, hnamed, hmethM, hstM, habM⟩ := Cond.instanceMethod_spec hinst
  obtain ⟨m8, methM', cM, hn8, hmethM', -, -, -, -, -, -, hsigM⟩ := Cond.codeWith_spec hcode
  cases Option.some.inj (hn8.symm.trans hnamed)
  cases hmethM.symm.trans hmethM'
  obtain ⟨c2, r2, m2, q1, q2, q3, q4, kP, hkP, hkPi⟩ := Cond.selects_spec hsel
  cases hcls.symm.trans q1
  cases (State.methodFound?_of_named hnamed hy).symm.trans q2
  cases hnamed.symm.trans q3
  have hselP : selectMethod e.platform s.vm cellB.cls mk = .method mk := by rw [Launch.admits_selectMethod X.admits]; exact q4
  obtain ⟨vm₁, X₁, hstep₁⟩ := X.invokevirtual hexec hown hlink hnamed hmethM hstM hkP hkPi hy (a := b) (cell := cellB) hcell
    (fun z h => by rw [h] at hobj; cases hobj) hselP hmethM habM hkP hkPi (g := g) hg (argsL := argsL) (rest := rest) (hlen _ hsigM) hstack hdg
  rcases hK m meth c ⟨T.setVm vm₁, locs, cells, slots⟩ { g with stack := rest } (.invokevirtual index) mk (Value.ref b :: argsL).toArray X₁ hg hsize hdg hW (X₁.named hnamed) (hpre vm₁ X₁.warmed) with ⟨v, B, X', hpost, hsteps⟩ | ⟨q, B, X', hpost, hsteps⟩
  · exact Or.inl ⟨v, vm₁, B, X₁.warmed, X', hpost, fun target h => hstep₁ _ fun acts => by rw [doInvoke_state]; exact hsteps.trans h⟩
  · exact Or.inr ⟨q, vm₁, B, X₁.warmed, X', hpost, hstep₁ _ fun acts => by rw [doInvoke_state]; exact hsteps⟩
theorem vx_callSX (X : Stand p l e R s m args below meth c T locs cells slots) (hexec : p.tables.exec = Jvm.exec) {own : String} {index : Nat} {y : MethodName} {bytes : ByteArray} {maxL : Nat} {ret : Option FieldType} {hh : List (Nat × Nat × Nat × Nat)}
    (hown : s.vm.findClass own = some m.cls) (hlink : (Cond.methodLink own index y).before args s = true) (hstat : (Cond.static y).before args s = true) (hinit : (Cond.initialized y.cls).before args s = true)
    (hcode : (Cond.codeWith y bytes maxL ret hh).before args s = true) (hy : y.cls ≠ "java/lang/invoke/MethodHandle" ∧ y.cls ≠ "java/lang/invoke/VarHandle")
    {W9 : Nat} {Pre : Pt → Array Value → Prop} {Post : Pt → Array Value → Option Value → Pt → Prop} {PostX : Pt → Array Value → Addr → Pt → Prop} (hK : vx_Back l R p e below s args y 3 W9 Pre Post PostX)
    {g : JFrame} (hg : g.method = m) (hsize : g.locals.size = c.maxLocals) {argsL rest : List Value} (hlen : ∀ sig, parseMethodDescriptor y.desc = some sig → argsL.length = sig.parameters.length)
    (hstack : g.stack = argsL.reverse ++ rest) (hW : 2 * g.monitorRoom + (rest.map fun v => v.category).sum ≤ W9) (hdg : decode c.code g.pc = .ok (.invokestatic index, 3))
    (hpre : ∀ vm₁, s.WarmedH vm₁ → Pre ⟨T.setVm vm₁, locs, cells, slots⟩ argsL.toArray) :
    (∃ (v : Option Value) (vm₁ : Vm) (B : Pt), s.WarmedH vm₁ ∧ Stand p l e R s m args below meth c B.U B.locs B.cells B.slots ∧ Post ⟨T.setVm vm₁, locs, cells, slots⟩ argsL.toArray v B ∧
      ∀ target, Steps p.tables e below (B.U.setTop { g with pc := g.pc + 3, stack := v.toList ++ rest }) target → Steps p.tables e below (T.setTop g) target) ∨
    (∃ (q : Addr) (vm₁ : Vm) (B : Pt), s.WarmedH vm₁ ∧ Stand p l e R s m args below meth c B.U B.locs B.cells B.slots ∧ PostX ⟨T.setVm vm₁, locs, cells, slots⟩ argsL.toArray q B ∧
      Steps p.tables e below (T.setTop g) ((B.U.setTop { g with stack := rest }).pushFrame (.throwing q))) := by
  obtain ⟨mk, methM, cM, hnamed, hmethM, -, -, -, -, -, -, hsigM⟩ := Cond.codeWith_spec hcode
  have hstatic : methM.isStatic = true := Cond.static_spec hnamed hmethM hstat
  obtain ⟨kP, hkP, -⟩ := className_of_methodNamed hnamed
  have hinitP : kP.init = .initialized := Cond.initialized_spec (findClass_of_methodNamed hnamed) hkP hinit
  obtain ⟨vm₁, X₁, hstep₁⟩ := X.invokestatic hexec hown hlink hnamed hmethM hstatic hkP hinitP hy (g := g) hg (argsL := argsL) (rest := rest) (hlen _ hsigM) hstack hdg
  rcases hK m meth c ⟨T.setVm vm₁, locs, cells, slots⟩ { g with stack := rest } (.invokestatic index) mk argsL.toArray X₁ hg hsize hdg hW (X₁.named hnamed) (hpre vm₁ X₁.warmed) with ⟨v, B, X', hpost, hsteps⟩ | ⟨q, B, X', hpost, hsteps⟩
  · exact Or.inl ⟨v, vm₁, B, X₁.warmed, X', hpost, fun target h => hstep₁ _ fun acts => by rw [doInvoke_state]; exact hsteps.trans h⟩
  · exact Or.inr ⟨q, vm₁, B, X₁.warmed, X', hpost, hstep₁ _ fun acts => by rw [doInvoke_state]; exact hsteps⟩
theorem vx_callVW (X : Stand p l e R s m args below meth c T locs cells slots) (hexec : p.tables.exec = Jvm.exec) {own C : String} {index : Nat} {y : MethodName} {bytes : ByteArray} {maxL : Nat} {ret : Option FieldType} {hh : List (Nat × Nat × Nat × Nat)}
    (hown : s.vm.findClass own = some m.cls) (hlink : (Cond.methodLink own index y).before args s = true) (hinst : (Cond.instanceMethod y).before args s = true) (hsel : (Cond.selects C y y).before args s = true)
    (hcode : (Cond.codeWith y bytes maxL ret hh).before args s = true) (hy : y.cls ≠ "java/lang/invoke/MethodHandle" ∧ y.cls ≠ "java/lang/invoke/VarHandle")
    {W9 : Nat} {Pre : Pt → Array Value → Prop} {Post : Pt → Array Value → Option Value → Pt → Prop} (hK : Back l R p e below s args y 3 W9 Pre Post)
    {b : Addr} {cellB : Cell} (hcell : T.heap[b]? = some cellB) (hobj : cellB.vm.isStatics = false) (hcls : s.vm.findClass C = some cellB.cls)
    {g : JFrame} (hg : g.method = m) (hsize : g.locals.size = c.maxLocals) {argsL rest : List Value} (hlen : ∀ sig, parseMethodDescriptor y.desc = some sig → argsL.length = sig.parameters.length)
    (hstack : g.stack = argsL.reverse ++ .ref b :: rest) (hW : 2 * g.monitorRoom + (rest.map fun v => v.category).sum ≤ W9) (hdg : decode c.code g.pc = .ok (.invokevirtual index, 3))
    (hpre : ∀ vm₁, s.WarmedH vm₁ → Pre ⟨T.setVm vm₁, locs, cells, slots⟩ (Value.ref b :: argsL).toArray) :
    ∃ (v : Option Value) (vm₁ : Vm) (B : Pt), s.WarmedH vm₁ ∧ Stand p l e R s m args below meth c B.U B.locs B.cells B.slots ∧ Post ⟨T.setVm vm₁, locs, cells, slots⟩ (Value.ref b :: argsL).toArray v B ∧
      ∀ target, Steps p.tables e below (B.U.setTop { g with pc := g.pc + 3, stack := v.toList ++ rest }) target → Steps p.tables e below (T.setTop g) target := by
  obtain ⟨mk, methM, hnamed, hmethM, hstM, habM⟩ := Cond.instanceMethod_spec hinst
  obtain ⟨m8, methM', cM, hn8, hmethM', -, -, -, -, -, -, hsigM⟩ := Cond.codeWith_spec hcode
  cases Option.some.inj (hn8.symm.trans hnamed)
  cases hmethM.symm.trans hmethM'
  obtain ⟨c2, r2, m2, q1, q2, q3, q4, kP, hkP, hkPi⟩ := Cond.selects_spec hsel
  cases hcls.symm.trans q1
  cases (State.methodFound?_of_named hnamed hy).symm.trans q2
  cases hnamed.symm.trans q3
  have hselP : selectMethod e.platform s.vm cellB.cls mk = .method mk := by rw [Launch.admits_selectMethod X.admits]; exact q4
  obtain ⟨vm₁, X₁, hstep₁⟩ := X.invokevirtual hexec hown hlink hnamed hmethM hstM hkP hkPi hy (a := b) (cell := cellB) hcell
    (fun z h => by rw [h] at hobj; cases hobj) hselP hmethM habM hkP hkPi (g := g) hg (argsL := argsL) (rest := rest) (hlen _ hsigM) hstack hdg
  obtain ⟨v, B, X', hpost, hsteps⟩ := hK m meth c ⟨T.setVm vm₁, locs, cells, slots⟩ { g with stack := rest } (.invokevirtual index) mk (Value.ref b :: argsL).toArray X₁ hg hsize hdg hW (X₁.named hnamed) (hpre vm₁ X₁.warmed)
  exact ⟨v, vm₁, B, X₁.warmed, X', hpost, fun target h => hstep₁ _ fun acts => by rw [doInvoke_state]; exact hsteps.trans h⟩
abbrev vx_CVW (R : Room) (s : State) (args : Array Value) (own C : String) (index : Nat) (y : MethodName) (bytes : ByteArray) (maxL : Nat) (ret : Option FieldType) (hh : List (Nat × Nat × Nat × Nat)) (ws : List Cond) (rm : Room) (mc ms n : Nat) : Prop :=
  (rm.cells = mc ∧ rm.slots = ms ∧ rm.frames + 1 ≤ R.frames ∧ 8 + (maxL + 11) + rm.locals ≤ R.locals ∧ (∀ w ∈ ws, ∀ (a' : Array Value) (U : State), s.WarmedH U.vm → w.before a' U = true) ∧ Cond.codeWith y bytes maxL ret hh ∈ ws) ∧
  (Cond.codeWith y bytes maxL ret hh).before args s = true ∧ (Cond.initialized y.cls).before args s = true ∧ (y.cls ≠ "java/lang/invoke/MethodHandle" ∧ y.cls ≠ "java/lang/invoke/VarHandle") ∧
  (∀ sig, parseMethodDescriptor y.desc = some sig → n = sig.parameters.length) ∧ (Cond.methodLink own index y).before args s = true ∧ (Cond.instanceMethod y).before args s = true ∧ (Cond.selects C y y).before args s = true
theorem vx_cwVW {own C : String} {index maxL mc ms : Nat} {y : MethodName} {bytes : ByteArray} {ret : Option FieldType} {hh : List (Nat × Nat × Nat × Nat)} {Ts ws ws' : List Cond} {rm : Room} (n : Nat) (ht : ∀ w ∈ Ts, w.before args s = true) (hT : GoodIn Ts (wsV own index C y ws)) (hw : ws = Cond.codeWith y bytes maxL ret hh :: ws') (hrc : rm.cells = mc) (hrs : rm.slots = ms)
    (hd : y.cls = C ∧ y.cls ≠ "java/lang/invoke/MethodHandle" ∧ y.cls ≠ "java/lang/invoke/VarHandle" ∧ (parseMethodDescriptor y.desc).map (fun d => d.parameters.length) = some n) (hR : rm.frames + 1 ≤ R.frames ∧ 8 + (maxL + 11) + rm.locals ≤ R.locals) :
    vx_CVW R s args own C index y bytes maxL ret hh ws rm mc ms n := by
  obtain ⟨hC, hd⟩ := hd
  subst hC
  have ok : ∀ w ∈ wsV own index y.cls y ws, w.before args s = true := fun w h => ht w (hT w h).1
  have hG : GoodIn Ts ws := fun w h => hT w (by unfold wsV; exact List.mem_append_right _ h)
  have hc : Cond.codeWith y bytes maxL ret hh ∈ ws := by rw [hw]; exact List.mem_cons_self
  refine ⟨⟨hrc, hrs, hR.1, hR.2, pay_in ht hG, hc⟩, ht _ (hG _ hc).1, ok _ (by simp [wsV]), ⟨hd.1, hd.2.1⟩, fun sig h => ?_, ok _ (by simp [wsV]), ok _ (by simp [wsV]), ok _ (by simp [wsV])⟩
  have h2 := hd.2.2
  rw [h] at h2
  exact (Option.some.inj h2).symm
theorem vx_runVW {y : MethodName} {bytes cc : ByteArray} {maxL nL mc ms n index : Nat} {ret : Option FieldType} {hh : List (Nat × Nat × Nat × Nat)} {ws : List Cond} {rm : Room} {Pc : Array Value → State → Prop} {Qc : Array Value → State → Outcome → State → Prop} {free : Addr → Prop} {Ts : List Cond} {own C : String} {b : Addr} {As rest : List Value} {g : JFrame}
    (S : CallFix p m c cc nL s args Ts own) (hM : Met l y ws rm Pc Qc mc ms free) (cw : vx_CVW R s args own C index y bytes maxL ret hh ws rm mc ms n) (hp : PreV s H C b Pc As)
    (hg : g.method = m) (hn : As.length = n) (hsize : g.locals.size = nL) (hstack : g.stack = As.reverse ++ .ref b :: rest) (hW : 2 * g.monitorRoom + (rest.map fun v => v.category).sum ≤ 8) (hdg : decode cc g.pc = .ok (.invokevirtual index, 3)) (hf : cells + mc ≤ R.cells ∧ slots + ms ≤ R.slots) :
    va_Run p l e R s m args below meth c H locs cells slots mc ms g rest (Qc (Value.ref b :: As).toArray) free := by
  obtain ⟨⟨hrc, hrs, hfr, hlo, hws, hcw⟩, hcode, hini, hy, hlen, hl, hin, hse⟩ := cw
  have hK : Back l R p e below s args y 3 8 (PreOf R mc ms Pc) (PostOf Qc mc ms free) := va_backW (hh := hh) (bytes := bytes) (maxL := maxL) (ret := ret) hM hp.1 hrc hrs hfr hlo hws hcw (fun a' U hW => word_at hW (Or.inl (by first | rfl | simp [Cond.onTables, Cond.keeps, Cond.steady])) hini)
  obtain ⟨hx, hb, hml, ho, -⟩ := S
  obtain ⟨-, ⟨cellB, hcB, hoB, hclB⟩, hPc⟩ := hp
  intro T hT X
  obtain ⟨v, vm₁, ⟨U', l2, c2, s2⟩, hW₁, X', ⟨g', mk, t, L, e1, e2, hq, h1, hL, h2, h3⟩, st⟩ := vx_callVW X hx (C := C) (hh := hh) (bytes := bytes) (maxL := maxL) (ret := ret) ho hl hin hse hcode hy hK (by rw [hT]; exact hcB) hoB hclB hg (hsize.trans hml.symm) (argsL := As) (rest := rest) (fun sig h => hn.trans (hlen sig h)) hstack hW (by rw [hb]; exact hdg)
    (fun vm₁ hW₁ => ⟨hf.1, hf.2, hPc (T.setVm vm₁) hT hW₁⟩)
  dsimp only [Pt.U, Pt.locs, Pt.cells, Pt.slots] at X' e1 e2 h1 h2 h3 st
  subst h1; subst h2; subst h3
  exact ⟨v, (T.setVm vm₁).calling g' mk (Value.ref b :: As).toArray, t, U', L, hT, X', hL, e1, e2, hq, st⟩
section
variable {y : MethodName} {bytes cc : ByteArray} {maxL nL mc ms n index : Nat} {ret : Option FieldType} {ws : List Cond} {rm : Room} {Pc : Array Value → State → Prop} {Qc : Array Value → State → Outcome → State → Prop} {XC : String → State → State → Prop} {free : Addr → Prop} {Ts : List Cond} {own C : String} {b : Addr} {As rest : List Value} {g : JFrame}
theorem vx_runVX {hh : List (Nat × Nat × Nat × Nat)} (S : CallFix p m c cc nL s args Ts own) (hM : vx_Met l y ws rm Pc Qc XC mc ms free) (cw : vx_CVW R s args own C index y bytes maxL ret hh ws rm mc ms n) (hp : PreV s H C b Pc As)
    (hg : g.method = m) (hn : As.length = n) (hsize : g.locals.size = nL) (hstack : g.stack = As.reverse ++ .ref b :: rest) (hW : 2 * g.monitorRoom + (rest.map fun v => v.category).sum ≤ 8) (hdg : decode cc g.pc = .ok (.invokevirtual index, 3)) (hf : cells + mc ≤ R.cells ∧ slots + ms ≤ R.slots) :
    vx_Run p l e R s m args below meth c H locs cells slots mc ms g rest (Qc (Value.ref b :: As).toArray) XC free := by
  obtain ⟨⟨hrc, hrs, hfr, hlo, hws, hcw⟩, hcode, hini, hy, hlen, hl, hin, hse⟩ := cw
  have hK : vx_Back l R p e below s args y 3 8 (PreOf R mc ms Pc) (PostOf Qc mc ms free) (vx_Post XC mc ms free) := vx_backW (hh := hh) (bytes := bytes) (maxL := maxL) (ret := ret) hM hp.1 hrc hrs hfr hlo hws hcw (fun a' U hW => word_at hW (Or.inl (by first | rfl | simp [Cond.onTables, Cond.keeps, Cond.steady])) hini)
  obtain ⟨hx, hb, hml, ho, -⟩ := S
  obtain ⟨-, ⟨cellB, hcB, hoB, hclB⟩, hPc⟩ := hp
  intro T hT X
  rcases vx_callVX X hx (C := C) (hh := hh) (bytes := bytes) (maxL := maxL) (ret := ret) ho hl hin hse hcode hy hK (by rw [hT]; exact hcB) hoB hclB hg (hsize.trans hml.symm) (argsL := As) (rest := rest) (fun sig h => hn.trans (hlen sig h)) hstack hW (by rw [hb]; exact hdg)
    (fun vm₁ hW₁ => ⟨hf.1, hf.2, hPc (T.setVm vm₁) hT hW₁⟩) with ⟨v, vm₁, ⟨U', l2, c2, s2⟩, hW₁, X', ⟨g', mk, t, L, e1, e2, hq, h1, hL, h2, h3⟩, st⟩ | ⟨q, vm₁, ⟨U', l2, c2, s2⟩, hW₁, X', ⟨g', mk, t, L, E, ce, e1, e2, hq, hce, hcv, hcl, h1, hL, h2, h3⟩, st⟩
  · dsimp only [Pt.U, Pt.locs, Pt.cells, Pt.slots] at X' e1 e2 h1 h2 h3 st
    subst h1; subst h2; subst h3
    exact Or.inl ⟨v, (T.setVm vm₁).calling g' mk (Value.ref b :: As).toArray, t, U', L, hT, X', hL, e1, e2, hq, st⟩
  · dsimp only [Pt.U, Pt.locs, Pt.cells, Pt.slots] at X' e1 e2 h1 h2 h3 st hcl
    subst h1; subst h2; subst h3
    exact Or.inr ⟨q, (T.setVm vm₁).calling g' mk (Value.ref b :: As).toArray, t, U', L, E, ce, hT, X', hL, e1, e2, hq, hce, hcv, vx_cls hW₁ hcl, st⟩
theorem vx_runSX {hh : List (Nat × Nat × Nat × Nat)} (S : CallFix p m c cc nL s args Ts own) (hM : vx_Met l y ws rm Pc Qc XC mc ms free) (cw : vx_CSW R s args own index y bytes maxL ret hh ws rm mc ms n) (hp : PreS s H Pc As)
    (hg : g.method = m) (hn : As.length = n) (hsize : g.locals.size = nL) (hstack : g.stack = As.reverse ++ rest) (hW : 2 * g.monitorRoom + (rest.map fun v => v.category).sum ≤ 8) (hdg : decode cc g.pc = .ok (.invokestatic index, 3)) (hf : cells + mc ≤ R.cells ∧ slots + ms ≤ R.slots) :
    vx_Run p l e R s m args below meth c H locs cells slots mc ms g rest (Qc As.toArray) XC free := by
  obtain ⟨⟨hrc, hrs, hfr, hlo, hws, hcw⟩, hcode, hini, hy, hlen, hl, hstt⟩ := cw
  have hK : vx_Back l R p e below s args y 3 8 (PreOf R mc ms Pc) (PostOf Qc mc ms free) (vx_Post XC mc ms free) := vx_backW (hh := hh) (bytes := bytes) (maxL := maxL) (ret := ret) hM hp.1 hrc hrs hfr hlo hws hcw (fun a' U hW => word_at hW (Or.inl (by first | rfl | simp [Cond.onTables, Cond.keeps, Cond.steady])) hini)
  obtain ⟨hx, hb, hml, ho, -⟩ := S
  intro T hT X
  rcases vx_callSX X hx (hh := hh) (bytes := bytes) (maxL := maxL) (ret := ret) ho hl hstt hini hcode hy hK hg (hsize.trans hml.symm) (argsL := As) (rest := rest) (fun sig h => hn.trans (hlen sig h)) hstack hW (by rw [hb]; exact hdg)
    (fun vm₁ hW₁ => ⟨hf.1, hf.2, hp.2 (T.setVm vm₁) hT hW₁⟩) with ⟨v, vm₁, ⟨U', l2, c2, s2⟩, hW₁, X', ⟨g', mk, t, L, e1, e2, hq, h1, hL, h2, h3⟩, st⟩ | ⟨q, vm₁, ⟨U', l2, c2, s2⟩, hW₁, X', ⟨g', mk, t, L, E, ce, e1, e2, hq, hce, hcv, hcl, h1, hL, h2, h3⟩, st⟩
  · dsimp only [Pt.U, Pt.locs, Pt.cells, Pt.slots] at X' e1 e2 h1 h2 h3 st
    subst h1; subst h2; subst h3
    exact Or.inl ⟨v, (T.setVm vm₁).calling g' mk As.toArray, t, U', L, hT, X', hL, e1, e2, hq, st⟩
  · dsimp only [Pt.U, Pt.locs, Pt.cells, Pt.slots] at X' e1 e2 h1 h2 h3 st hcl
    subst h1; subst h2; subst h3
    exact Or.inr ⟨q, (T.setVm vm₁).calling g' mk As.toArray, t, U', L, E, ce, hT, X', hL, e1, e2, hq, hce, hcv, vx_cls hW₁ hcl, st⟩
end
end VXH
theorem vx_ofWH {l : Launch} {y : MethodName} {ws ws' : List Cond} {rm : Room} {Pc : Array Value → State → Prop} {Qc : Array Value → State → Outcome → State → Prop} {XC : String → State → State → Prop} {mc ms : Nat} {free : Addr → Prop} {cc : ByteArray} {maxL : Nat} {ret : Option FieldType} {hh : List (Nat × Nat × Nat × Nat)}
    (hy : plainName y.cls = true) (hw : ws = Cond.codeWith y cc maxL ret hh :: ws')
    (body : ∀ p e s m args below meth c s₁, BodyLoose p l y (headSpec ws rm) cc maxL ret e s m args below meth c s₁ → c.maxLocals = maxL → Pc args s →
      W p l e (headSpec ws rm).room s m args below meth c s.heap [] 0 0 (vx_MQ below Qc XC args s mc ms free) (entryFrame m args maxL)) : vx_Met l y ws rm Pc Qc XC mc ms free := by
  refine MetFree.of_bodyS (code := cc) (maxLocals := maxL) (ret := ret) hy ?_ ?_
  · intro args s m h hn
    obtain ⟨m9, meth, c, hn9, h1, h2, h3, h4, -, h5, h6, -⟩ := Cond.codeWith_spec (atoms_spec (ws := ws) h _ (by rw [hw]; exact List.mem_cons_self))
    cases hn.symm.trans hn9
    exact ⟨meth, c, h1, h2, h3, h4, h5, h6⟩
  · intro p e s m args below meth c s₁ B hml hP _
    have hh0 : s₁.heap = s.heap := by rw [B.state]; rfl
    obtain ⟨t, a1, o, b1, b2, b3⟩ := body p e s m args below meth c s₁ B hml hP s₁ hh0 (Stand.of_body B)
    exact ⟨t, o, a1, b1, b2, b3⟩
/-! ===== END ===== -/

/-! ===== BEGIN printed: names, fields, word lists, decode rows ===== -/
def RX0 : String := "CatalogueLoader$Catalogue"
def TX0 : u_T := fun k => match k with
  | 0 => ("CatalogueLoader$Catalogue", "there", "LCatalogueLoader$Row;", true)
  | 1 => ("CatalogueLoader$Catalogue", "keys", "LCatalogueLoader$Grid;", true)
  | 2 => ("CatalogueLoader$Catalogue", "fields", "LCatalogueLoader$Grid;", true)
  | 3 => ("CatalogueLoader$Catalogue", "sources", "LCatalogueLoader$Grid;", true)
  | 4 => ("CatalogueLoader$Catalogue", "guards", "LCatalogueLoader$Grid;", true)
  | 5 => ("CatalogueLoader$Catalogue", "held", "LCatalogueLoader$Row;", true)
  | _ => ("CatalogueLoader$Catalogue", "hits", "LCatalogueLoader$Row;", true)
def tyX0 : Nat → FieldType := fun k => match k with
  | 0 => .object "CatalogueLoader$Row"
  | 1 => .object "CatalogueLoader$Grid"
  | 2 => .object "CatalogueLoader$Grid"
  | 3 => .object "CatalogueLoader$Grid"
  | 4 => .object "CatalogueLoader$Grid"
  | 5 => .object "CatalogueLoader$Row"
  | _ => .object "CatalogueLoader$Row"
abbrev wsX00 : List Cond := u_ws RX0 TX0 7
theorem nmX0 : ∀ a, a < 7 → ∀ b, b < 7 → a ≠ b → (TX0 a).2.1 ≠ (TX0 b).2.1 := by decide +kernel
theorem tyX0_ok : ∀ k, k < 7 → parseFieldDescriptor (TX0 k).2.2.1 = some (tyX0 k) := by decide +kernel
abbrev cX0_init : ByteArray := prog_2_method_1_code
def yX0_init : MethodName := ⟨RX0, "<init>", "()V"⟩
abbrev cX0_clear : ByteArray := prog_2_method_2_code
def yX0_clear : MethodName := ⟨RX0, "clear", "()V"⟩
abbrev cX0_has : ByteArray := prog_2_method_3_code
def yX0_has : MethodName := ⟨RX0, "has", "(I)Z"⟩
abbrev cX0_count : ByteArray := prog_2_method_4_code
def yX0_count : MethodName := ⟨RX0, "count", "()I"⟩
abbrev cX0_take : ByteArray := prog_2_method_5_code
def yX0_take : MethodName := ⟨RX0, "take", "(LCatalogueLoader$Settings;LCatalogueLoader$Loads;I)I"⟩
abbrev cX0_target : ByteArray := prog_2_method_6_code
def yX0_target : MethodName := ⟨RX0, "target", "(LCatalogueLoader$Settings;LCatalogueLoader$Loads;I)I"⟩
abbrev cX0_find : ByteArray := prog_2_method_7_code
def yX0_find : MethodName := ⟨RX0, "find", "(II)I"⟩
abbrev cX0_layKeys : ByteArray := prog_2_method_8_code
def yX0_layKeys : MethodName := ⟨RX0, "layKeys", "(LCatalogueLoader$Loads;II)V"⟩
abbrev cX0_layFields : ByteArray := prog_2_method_9_code
def yX0_layFields : MethodName := ⟨RX0, "layFields", "(LCatalogueLoader$Settings;LCatalogueLoader$Loads;II)V"⟩
abbrev cX0_guard : ByteArray := prog_2_method_10_code
def yX0_guard : MethodName := ⟨RX0, "guard", "(III)I"⟩
abbrev cX0_addHoldings : ByteArray := prog_2_method_11_code
def yX0_addHoldings : MethodName := ⟨RX0, "addHoldings", "(II)I"⟩
abbrev cX0_join : ByteArray := prog_2_method_12_code
def yX0_join : MethodName := ⟨RX0, "join", "(II)I"⟩
abbrev cX0_sum : ByteArray := prog_2_method_13_code
def yX0_sum : MethodName := ⟨RX0, "sum", "()I"⟩
abbrev cX0_values : ByteArray := prog_2_method_14_code
def yX0_values : MethodName := ⟨RX0, "values", "(I)I"⟩
def RX1 : String := "CatalogueLoader$Grid"
def TX1 : u_T := fun k => match k with
  | 0 => ("CatalogueLoader$Grid", "lines", "I", true)
  | 1 => ("CatalogueLoader$Grid", "columns", "I", true)
  | _ => ("CatalogueLoader$Grid", "cells", "[I", true)
def tyX1 : Nat → FieldType := fun k => match k with
  | 0 => .int
  | 1 => .int
  | _ => .array .int
abbrev wsX10 : List Cond := u_ws RX1 TX1 3
theorem nmX1 : ∀ a, a < 3 → ∀ b, b < 3 → a ≠ b → (TX1 a).2.1 ≠ (TX1 b).2.1 := by decide +kernel
theorem tyX1_ok : ∀ k, k < 3 → parseFieldDescriptor (TX1 k).2.2.1 = some (tyX1 k) := by decide +kernel
abbrev cX1_init : ByteArray := prog_3_method_1_code
def yX1_init : MethodName := ⟨RX1, "<init>", "(III)V"⟩
abbrev cX1_get : ByteArray := prog_3_method_2_code
def yX1_get : MethodName := ⟨RX1, "get", "(II)I"⟩
abbrev cX1_set : ByteArray := prog_3_method_3_code
def yX1_set : MethodName := ⟨RX1, "set", "(III)V"⟩
abbrev cX1_fill : ByteArray := prog_3_method_4_code
def yX1_fill : MethodName := ⟨RX1, "fill", "(I)V"⟩
def RX2 : String := "CatalogueLoader$History"
def TX2 : u_T := fun k => match k with
  | 0 => ("CatalogueLoader$History", "kinds", "LCatalogueLoader$Row;", true)
  | 1 => ("CatalogueLoader$History", "first", "LCatalogueLoader$Row;", true)
  | 2 => ("CatalogueLoader$History", "second", "LCatalogueLoader$Row;", true)
  | 3 => ("CatalogueLoader$History", "third", "LCatalogueLoader$Row;", true)
  | 4 => ("CatalogueLoader$History", "count", "I", false)
  | _ => ("CatalogueLoader$History", "loadCount", "I", false)
def tyX2 : Nat → FieldType := fun k => match k with
  | 0 => .object "CatalogueLoader$Row"
  | 1 => .object "CatalogueLoader$Row"
  | 2 => .object "CatalogueLoader$Row"
  | 3 => .object "CatalogueLoader$Row"
  | 4 => .int
  | _ => .int
abbrev wsX20 : List Cond := u_ws RX2 TX2 6
theorem nmX2 : ∀ a, a < 6 → ∀ b, b < 6 → a ≠ b → (TX2 a).2.1 ≠ (TX2 b).2.1 := by decide +kernel
theorem tyX2_ok : ∀ k, k < 6 → parseFieldDescriptor (TX2 k).2.2.1 = some (tyX2 k) := by decide +kernel
abbrev cX2_init : ByteArray := prog_4_method_1_code
def yX2_init : MethodName := ⟨RX2, "<init>", "()V"⟩
abbrev cX2_append : ByteArray := prog_4_method_2_code
def yX2_append : MethodName := ⟨RX2, "append", "(IIII)V"⟩
abbrev cX2_acts : ByteArray := prog_4_method_3_code
def yX2_acts : MethodName := ⟨RX2, "acts", "()I"⟩
def RX3 : String := "CatalogueLoader$Loads"
def TX3 : u_T := fun k => match k with
  | 0 => ("CatalogueLoader$Loads", "keys", "LCatalogueLoader$Grid;", true)
  | 1 => ("CatalogueLoader$Loads", "fields", "LCatalogueLoader$Grid;", true)
  | 2 => ("CatalogueLoader$Loads", "sources", "LCatalogueLoader$Row;", true)
  | 3 => ("CatalogueLoader$Loads", "batches", "LCatalogueLoader$Row;", true)
  | 4 => ("CatalogueLoader$Loads", "undone", "LCatalogueLoader$Row;", true)
  | 5 => ("CatalogueLoader$Loads", "count", "I", false)
  | _ => ("CatalogueLoader$Loads", "batchCount", "I", false)
def tyX3 : Nat → FieldType := fun k => match k with
  | 0 => .object "CatalogueLoader$Grid"
  | 1 => .object "CatalogueLoader$Grid"
  | 2 => .object "CatalogueLoader$Row"
  | 3 => .object "CatalogueLoader$Row"
  | 4 => .object "CatalogueLoader$Row"
  | 5 => .int
  | _ => .int
abbrev wsX30 : List Cond := u_ws RX3 TX3 7
theorem nmX3 : ∀ a, a < 7 → ∀ b, b < 7 → a ≠ b → (TX3 a).2.1 ≠ (TX3 b).2.1 := by decide +kernel
theorem tyX3_ok : ∀ k, k < 7 → parseFieldDescriptor (TX3 k).2.2.1 = some (tyX3 k) := by decide +kernel
abbrev cX3_init : ByteArray := prog_5_method_1_code
def yX3_init : MethodName := ⟨RX3, "<init>", "()V"⟩
abbrev cX3_begin : ByteArray := prog_5_method_2_code
def yX3_begin : MethodName := ⟨RX3, "begin", "()I"⟩
abbrev cX3_close : ByteArray := prog_5_method_3_code
def yX3_close : MethodName := ⟨RX3, "close", "(I)I"⟩
abbrev cX3_isLeftOut : ByteArray := prog_5_method_4_code
def yX3_isLeftOut : MethodName := ⟨RX3, "isLeftOut", "(I)Z"⟩
def RX4 : String := "CatalogueLoader$Row"
def TX4 : u_T := fun k => match k with
  | _ => ("CatalogueLoader$Row", "cells", "[I", true)
def tyX4 : Nat → FieldType := fun k => match k with
  | _ => .array .int
abbrev wsX40 : List Cond := u_ws RX4 TX4 1
theorem nmX4 : ∀ a, a < 1 → ∀ b, b < 1 → a ≠ b → (TX4 a).2.1 ≠ (TX4 b).2.1 := by decide +kernel
theorem tyX4_ok : ∀ k, k < 1 → parseFieldDescriptor (TX4 k).2.2.1 = some (tyX4 k) := by decide +kernel
abbrev cX4_init : ByteArray := prog_6_method_1_code
def yX4_init : MethodName := ⟨RX4, "<init>", "(II)V"⟩
abbrev cX4_get : ByteArray := prog_6_method_2_code
def yX4_get : MethodName := ⟨RX4, "get", "(I)I"⟩
abbrev cX4_set : ByteArray := prog_6_method_3_code
def yX4_set : MethodName := ⟨RX4, "set", "(II)V"⟩
abbrev cX4_fill : ByteArray := prog_6_method_4_code
def yX4_fill : MethodName := ⟨RX4, "fill", "(I)V"⟩
def RX5 : String := "CatalogueLoader$Settings"
def TX5 : u_T := fun k => match k with
  | 0 => ("CatalogueLoader$Settings", "ranks", "LCatalogueLoader$Row;", true)
  | 1 => ("CatalogueLoader$Settings", "rules", "LCatalogueLoader$Row;", true)
  | _ => ("CatalogueLoader$Settings", "order", "LCatalogueLoader$Row;", true)
def tyX5 : Nat → FieldType := fun k => match k with
  | 0 => .object "CatalogueLoader$Row"
  | 1 => .object "CatalogueLoader$Row"
  | _ => .object "CatalogueLoader$Row"
abbrev wsX50 : List Cond := u_ws RX5 TX5 3
theorem nmX5 : ∀ a, a < 3 → ∀ b, b < 3 → a ≠ b → (TX5 a).2.1 ≠ (TX5 b).2.1 := by decide +kernel
theorem tyX5_ok : ∀ k, k < 3 → parseFieldDescriptor (TX5 k).2.2.1 = some (tyX5 k) := by decide +kernel
abbrev cX5_init : ByteArray := prog_7_method_1_code
def yX5_init : MethodName := ⟨RX5, "<init>", "()V"⟩
abbrev cX5_replaces : ByteArray := prog_7_method_2_code
def yX5_replaces : MethodName := ⟨RX5, "replaces", "(III)Z"⟩
def RX6 : String := "CatalogueLoader"
def TX6 : u_T := fun k => match k with
  | 0 => ("CatalogueLoader", "settings", "LCatalogueLoader$Settings;", true)
  | 1 => ("CatalogueLoader", "taken", "LCatalogueLoader$Loads;", true)
  | 2 => ("CatalogueLoader", "history", "LCatalogueLoader$History;", true)
  | 3 => ("CatalogueLoader", "catalogue", "LCatalogueLoader$Catalogue;", true)
  | _ => ("CatalogueLoader", "catalogueAnew", "LCatalogueLoader$Catalogue;", true)
def tyX6 : Nat → FieldType := fun k => match k with
  | 0 => .object "CatalogueLoader$Settings"
  | 1 => .object "CatalogueLoader$Loads"
  | 2 => .object "CatalogueLoader$History"
  | 3 => .object "CatalogueLoader$Catalogue"
  | _ => .object "CatalogueLoader$Catalogue"
abbrev wsX60 : List Cond := u_ws RX6 TX6 5
theorem nmX6 : ∀ a, a < 5 → ∀ b, b < 5 → a ≠ b → (TX6 a).2.1 ≠ (TX6 b).2.1 := by decide +kernel
theorem tyX6_ok : ∀ k, k < 5 → parseFieldDescriptor (TX6 k).2.2.1 = some (tyX6 k) := by decide +kernel
abbrev cX6_init : ByteArray := prog_1_method_1_code
def yX6_init : MethodName := ⟨RX6, "<init>", "()V"⟩
abbrev cX6_setRank : ByteArray := prog_1_method_2_code
def yX6_setRank : MethodName := ⟨RX6, "setRank", "(II)I"⟩
abbrev cX6_setRule : ByteArray := prog_1_method_3_code
def yX6_setRule : MethodName := ⟨RX6, "setRule", "(II)I"⟩
abbrev cX6_setOrder : ByteArray := prog_1_method_4_code
def yX6_setOrder : MethodName := ⟨RX6, "setOrder", "(III)V"⟩
abbrev cX6_beginBatch : ByteArray := prog_1_method_5_code
def yX6_beginBatch : MethodName := ⟨RX6, "beginBatch", "()I"⟩
abbrev cX6_key : ByteArray := prog_1_method_6_code
def yX6_key : MethodName := ⟨RX6, "key", "(II)I"⟩
abbrev cX6_field : ByteArray := prog_1_method_7_code
def yX6_field : MethodName := ⟨RX6, "field", "(II)I"⟩
abbrev cX6_load : ByteArray := prog_1_method_8_code
def yX6_load : MethodName := ⟨RX6, "load", "(I)I"⟩
abbrev cX6_protect : ByteArray := prog_1_method_9_code
def yX6_protect : MethodName := ⟨RX6, "protect", "(IIZ)Z"⟩
abbrev cX6_hold : ByteArray := prog_1_method_10_code
def yX6_hold : MethodName := ⟨RX6, "hold", "(I)I"⟩
abbrev cX6_merge : ByteArray := prog_1_method_11_code
def yX6_merge : MethodName := ⟨RX6, "merge", "(II)I"⟩
abbrev cX6_undo : ByteArray := prog_1_method_12_code
def yX6_undo : MethodName := ⟨RX6, "undo", "(IZ)I"⟩
abbrev cX6_batches : ByteArray := prog_1_method_13_code
def yX6_batches : MethodName := ⟨RX6, "batches", "()I"⟩
abbrev cX6_loads : ByteArray := prog_1_method_14_code
def yX6_loads : MethodName := ⟨RX6, "loads", "()I"⟩
abbrev cX6_records : ByteArray := prog_1_method_15_code
def yX6_records : MethodName := ⟨RX6, "records", "()I"⟩
abbrev cX6_isUndone : ByteArray := prog_1_method_16_code
def yX6_isUndone : MethodName := ⟨RX6, "isUndone", "(I)Z"⟩
abbrev cX6_isThere : ByteArray := prog_1_method_17_code
def yX6_isThere : MethodName := ⟨RX6, "isThere", "(I)Z"⟩
abbrev cX6_hit : ByteArray := prog_1_method_18_code
def yX6_hit : MethodName := ⟨RX6, "hit", "(I)I"⟩
abbrev cX6_keyOf : ByteArray := prog_1_method_19_code
def yX6_keyOf : MethodName := ⟨RX6, "keyOf", "(II)I"⟩
abbrev cX6_fieldOf : ByteArray := prog_1_method_20_code
def yX6_fieldOf : MethodName := ⟨RX6, "fieldOf", "(II)I"⟩
abbrev cX6_sourceOf : ByteArray := prog_1_method_21_code
def yX6_sourceOf : MethodName := ⟨RX6, "sourceOf", "(II)I"⟩
abbrev cX6_holdings : ByteArray := prog_1_method_22_code
def yX6_holdings : MethodName := ⟨RX6, "holdings", "(I)I"⟩
abbrev cX6_digest : ByteArray := prog_1_method_23_code
def yX6_digest : MethodName := ⟨RX6, "digest", "()I"⟩
abbrev cX6_digestAnew : ByteArray := prog_1_method_24_code
def yX6_digestAnew : MethodName := ⟨RX6, "digestAnew", "()I"⟩
abbrev cX6_needIndex : ByteArray := prog_1_method_25_code
def yX6_needIndex : MethodName := ⟨RX6, "needIndex", "(II)V"⟩
abbrev cX6_needValue : ByteArray := prog_1_method_26_code
def yX6_needValue : MethodName := ⟨RX6, "needValue", "(III)V"⟩
abbrev cX6_needRecord : ByteArray := prog_1_method_27_code
def yX6_needRecord : MethodName := ⟨RX6, "needRecord", "(I)V"⟩
abbrev cX6_needNothingLoaded : ByteArray := prog_1_method_28_code
def yX6_needNothingLoaded : MethodName := ⟨RX6, "needNothingLoaded", "()V"⟩
abbrev cX6_needActLeft : ByteArray := prog_1_method_29_code
def yX6_needActLeft : MethodName := ⟨RX6, "needActLeft", "()V"⟩
abbrev cX6_doAllAnew : ByteArray := prog_1_method_30_code
def yX6_doAllAnew : MethodName := ⟨RX6, "doAllAnew", "(LCatalogueLoader$Catalogue;)V"⟩
abbrev cX6_doStep : ByteArray := prog_1_method_31_code
def yX6_doStep : MethodName := ⟨RX6, "doStep", "(LCatalogueLoader$Catalogue;I)V"⟩
def RX7 : String := "CatalogueLoaderModel"
def TX7 : u_T := fun k => match k with
  | 0 => ("CatalogueLoaderModel", "ranks", "[I", true)
  | 1 => ("CatalogueLoaderModel", "rules", "[I", true)
  | 2 => ("CatalogueLoaderModel", "order", "[I", true)
  | 3 => ("CatalogueLoaderModel", "draftKeys", "[I", true)
  | 4 => ("CatalogueLoaderModel", "draftFields", "[I", true)
  | 5 => ("CatalogueLoaderModel", "batchMany", "I", false)
  | 6 => ("CatalogueLoaderModel", "isOut", "[Z", true)
  | 7 => ("CatalogueLoaderModel", "loadMany", "I", false)
  | 8 => ("CatalogueLoaderModel", "loadBatch", "[I", true)
  | 9 => ("CatalogueLoaderModel", "loadSource", "[I", true)
  | 10 => ("CatalogueLoaderModel", "loadKeys", "[I", true)
  | 11 => ("CatalogueLoaderModel", "loadFields", "[I", true)
  | 12 => ("CatalogueLoaderModel", "hits", "[I", true)
  | 13 => ("CatalogueLoaderModel", "actMany", "I", false)
  | 14 => ("CatalogueLoaderModel", "doneMany", "I", false)
  | 15 => ("CatalogueLoaderModel", "kinds", "[I", true)
  | 16 => ("CatalogueLoaderModel", "ones", "[I", true)
  | 17 => ("CatalogueLoaderModel", "others", "[I", true)
  | 18 => ("CatalogueLoaderModel", "isIn", "[Z", true)
  | 19 => ("CatalogueLoaderModel", "keys", "[I", true)
  | 20 => ("CatalogueLoaderModel", "fields", "[I", true)
  | 21 => ("CatalogueLoaderModel", "sources", "[I", true)
  | 22 => ("CatalogueLoaderModel", "isKept", "[Z", true)
  | 23 => ("CatalogueLoaderModel", "held", "[I", true)
  | _ => ("CatalogueLoaderModel", "thrown", "I", false)
def tyX7 : Nat → FieldType := fun k => match k with
  | 0 => .array .int
  | 1 => .array .int
  | 2 => .array .int
  | 3 => .array .int
  | 4 => .array .int
  | 5 => .int
  | 6 => .array .boolean
  | 7 => .int
  | 8 => .array .int
  | 9 => .array .int
  | 10 => .array .int
  | 11 => .array .int
  | 12 => .array .int
  | 13 => .int
  | 14 => .int
  | 15 => .array .int
  | 16 => .array .int
  | 17 => .array .int
  | 18 => .array .boolean
  | 19 => .array .int
  | 20 => .array .int
  | 21 => .array .int
  | 22 => .array .boolean
  | 23 => .array .int
  | _ => .int
abbrev wsX70 : List Cond := u_ws RX7 TX7 25
theorem nmX7 : ∀ a, a < 25 → ∀ b, b < 25 → a ≠ b → (TX7 a).2.1 ≠ (TX7 b).2.1 := by decide +kernel
theorem tyX7_ok : ∀ k, k < 25 → parseFieldDescriptor (TX7 k).2.2.1 = some (tyX7 k) := by decide +kernel
abbrev cX7_init : ByteArray := prog_9_method_1_code
def yX7_init : MethodName := ⟨RX7, "<init>", "()V"⟩
abbrev cX7_thrown : ByteArray := prog_9_method_2_code
def yX7_thrown : MethodName := ⟨RX7, "thrown", "()I"⟩
abbrev cX7_in : ByteArray := prog_9_method_3_code
def yX7_in : MethodName := ⟨RX7, "in", "(III)Z"⟩
abbrev cX7_emptyDraft : ByteArray := prog_9_method_4_code
def yX7_emptyDraft : MethodName := ⟨RX7, "emptyDraft", "()V"⟩
abbrev cX7_setRank : ByteArray := prog_9_method_5_code
def yX7_setRank : MethodName := ⟨RX7, "setRank", "(II)I"⟩
abbrev cX7_setRule : ByteArray := prog_9_method_6_code
def yX7_setRule : MethodName := ⟨RX7, "setRule", "(II)I"⟩
abbrev cX7_setOrder : ByteArray := prog_9_method_7_code
def yX7_setOrder : MethodName := ⟨RX7, "setOrder", "(III)V"⟩
abbrev cX7_makeRecord : ByteArray := prog_9_method_8_code
def yX7_makeRecord : MethodName := ⟨RX7, "makeRecord", "(I)V"⟩
abbrev cX7_layOver : ByteArray := prog_9_method_9_code
def yX7_layOver : MethodName := ⟨RX7, "layOver", "(II)V"⟩
abbrev cX7_match : ByteArray := prog_9_method_10_code
def yX7_match : MethodName := ⟨RX7, "match", "(I)I"⟩
abbrev cX7_doLoad : ByteArray := prog_9_method_11_code
def yX7_doLoad : MethodName := ⟨RX7, "doLoad", "(I)V"⟩
abbrev cX7_doMerge : ByteArray := prog_9_method_12_code
def yX7_doMerge : MethodName := ⟨RX7, "doMerge", "(II)V"⟩
abbrev cX7_perform : ByteArray := prog_9_method_13_code
def yX7_perform : MethodName := ⟨RX7, "perform", "(I)V"⟩
abbrev cX7_add : ByteArray := prog_9_method_14_code
def yX7_add : MethodName := ⟨RX7, "add", "(III)V"⟩
abbrev cX7_makeAnew : ByteArray := prog_9_method_15_code
def yX7_makeAnew : MethodName := ⟨RX7, "makeAnew", "()V"⟩
abbrev cX7_beginBatch : ByteArray := prog_9_method_16_code
def yX7_beginBatch : MethodName := ⟨RX7, "beginBatch", "()I"⟩
abbrev cX7_key : ByteArray := prog_9_method_17_code
def yX7_key : MethodName := ⟨RX7, "key", "(II)I"⟩
abbrev cX7_field : ByteArray := prog_9_method_18_code
def yX7_field : MethodName := ⟨RX7, "field", "(II)I"⟩
abbrev cX7_load : ByteArray := prog_9_method_19_code
def yX7_load : MethodName := ⟨RX7, "load", "(I)I"⟩
abbrev cX7_isRecord : ByteArray := prog_9_method_20_code
def yX7_isRecord : MethodName := ⟨RX7, "isRecord", "(I)Z"⟩
abbrev cX7_protect : ByteArray := prog_9_method_21_code
def yX7_protect : MethodName := ⟨RX7, "protect", "(IIZ)Z"⟩
abbrev cX7_hold : ByteArray := prog_9_method_22_code
def yX7_hold : MethodName := ⟨RX7, "hold", "(I)I"⟩
abbrev cX7_merge : ByteArray := prog_9_method_23_code
def yX7_merge : MethodName := ⟨RX7, "merge", "(II)I"⟩
abbrev cX7_recordMany : ByteArray := prog_9_method_24_code
def yX7_recordMany : MethodName := ⟨RX7, "recordMany", "()I"⟩
abbrev cX7_undo : ByteArray := prog_9_method_25_code
def yX7_undo : MethodName := ⟨RX7, "undo", "(IZ)I"⟩
abbrev cX7_batches : ByteArray := prog_9_method_26_code
def yX7_batches : MethodName := ⟨RX7, "batches", "()I"⟩
abbrev cX7_loads : ByteArray := prog_9_method_27_code
def yX7_loads : MethodName := ⟨RX7, "loads", "()I"⟩
abbrev cX7_records : ByteArray := prog_9_method_28_code
def yX7_records : MethodName := ⟨RX7, "records", "()I"⟩
abbrev cX7_isUndone : ByteArray := prog_9_method_29_code
def yX7_isUndone : MethodName := ⟨RX7, "isUndone", "(I)Z"⟩
abbrev cX7_isThere : ByteArray := prog_9_method_30_code
def yX7_isThere : MethodName := ⟨RX7, "isThere", "(I)Z"⟩
abbrev cX7_hit : ByteArray := prog_9_method_31_code
def yX7_hit : MethodName := ⟨RX7, "hit", "(I)I"⟩
abbrev cX7_keyOf : ByteArray := prog_9_method_32_code
def yX7_keyOf : MethodName := ⟨RX7, "keyOf", "(II)I"⟩
abbrev cX7_fieldOf : ByteArray := prog_9_method_33_code
def yX7_fieldOf : MethodName := ⟨RX7, "fieldOf", "(II)I"⟩
abbrev cX7_sourceOf : ByteArray := prog_9_method_34_code
def yX7_sourceOf : MethodName := ⟨RX7, "sourceOf", "(II)I"⟩
abbrev cX7_holdings : ByteArray := prog_9_method_35_code
def yX7_holdings : MethodName := ⟨RX7, "holdings", "(I)I"⟩
abbrev cX7_sum : ByteArray := prog_9_method_36_code
def yX7_sum : MethodName := ⟨RX7, "sum", "()I"⟩
abbrev cX7_digest : ByteArray := prog_9_method_37_code
def yX7_digest : MethodName := ⟨RX7, "digest", "()I"⟩
abbrev cX7_digestAnew : ByteArray := prog_9_method_38_code
def yX7_digestAnew : MethodName := ⟨RX7, "digestAnew", "()I"⟩
def RJx145de : String := "java/io/Serializable"
def TJx145de : u_T := fun k => match k with
  | _ => ("", "", "", false)
def tyJx145de : Nat → FieldType := fun k => match k with
  | _ => .int
abbrev wsJx145de0 : List Cond := u_ws RJx145de TJx145de 0
theorem nmJx145de : ∀ a, a < 0 → ∀ b, b < 0 → a ≠ b → (TJx145de a).2.1 ≠ (TJx145de b).2.1 := by decide +kernel
theorem tyJx145de_ok : ∀ k, k < 0 → parseFieldDescriptor (TJx145de k).2.2.1 = some (tyJx145de k) := by decide +kernel
def RJ9 : String := "java/lang/Math"
def TJ9 : u_T := fun k => match k with
  | _ => ("", "", "", false)
def tyJ9 : Nat → FieldType := fun k => match k with
  | _ => .int
abbrev wsJ90 : List Cond := u_ws RJ9 TJ9 0
theorem nmJ9 : ∀ a, a < 0 → ∀ b, b < 0 → a ≠ b → (TJ9 a).2.1 ≠ (TJ9 b).2.1 := by decide +kernel
theorem tyJ9_ok : ∀ k, k < 0 → parseFieldDescriptor (TJ9 k).2.2.1 = some (tyJ9 k) := by decide +kernel
abbrev cJ9_max_7cf53 : ByteArray := prog_14_method_65_code
def yJ9_max_7cf53 : MethodName := ⟨RJ9, "max", "(II)I"⟩
def RJ0 : String := "java/lang/String"
def TJ0 : u_T := fun k => match k with
  | _ => ("", "", "", false)
def tyJ0 : Nat → FieldType := fun k => match k with
  | _ => .int
abbrev wsJ00 : List Cond := u_ws RJ0 TJ0 0
theorem nmJ0 : ∀ a, a < 0 → ∀ b, b < 0 → a ≠ b → (TJ0 a).2.1 ≠ (TJ0 b).2.1 := by decide +kernel
theorem tyJ0_ok : ∀ k, k < 0 → parseFieldDescriptor (TJ0 k).2.2.1 = some (tyJ0 k) := by decide +kernel
def RJ7 : String := "java/util/Arrays"
def TJ7 : u_T := fun k => match k with
  | _ => ("", "", "", false)
def tyJ7 : Nat → FieldType := fun k => match k with
  | _ => .int
abbrev wsJ70 : List Cond := u_ws RJ7 TJ7 0
theorem nmJ7 : ∀ a, a < 0 → ∀ b, b < 0 → a ≠ b → (TJ7 a).2.1 ≠ (TJ7 b).2.1 := by decide +kernel
theorem tyJ7_ok : ∀ k, k < 0 → parseFieldDescriptor (TJ7 k).2.2.1 = some (tyJ7 k) := by decide +kernel
abbrev cJ7_fill_53178 : ByteArray := prog_18_method_103_code
def yJ7_fill_53178 : MethodName := ⟨RJ7, "fill", "([II)V"⟩
def RL : String := "CatalogueLoaderLaw"
abbrev cL_setRank : ByteArray := method_3_code
def yL_setRank : MethodName := ⟨RL, "setRank", "(LCatalogueLoader;II[J)I"⟩
abbrev cL_setRule : ByteArray := method_4_code
def yL_setRule : MethodName := ⟨RL, "setRule", "(LCatalogueLoader;II[J)I"⟩
abbrev cL_setOrder : ByteArray := method_5_code
def yL_setOrder : MethodName := ⟨RL, "setOrder", "(LCatalogueLoader;III)I"⟩
abbrev cL_beginBatch : ByteArray := method_6_code
def yL_beginBatch : MethodName := ⟨RL, "beginBatch", "(LCatalogueLoader;[J)I"⟩
abbrev cL_key : ByteArray := method_7_code
def yL_key : MethodName := ⟨RL, "key", "(LCatalogueLoader;II[J)I"⟩
abbrev cL_field : ByteArray := method_8_code
def yL_field : MethodName := ⟨RL, "field", "(LCatalogueLoader;II[J)I"⟩
abbrev cL_load : ByteArray := method_9_code
def yL_load : MethodName := ⟨RL, "load", "(LCatalogueLoader;I[J)I"⟩
abbrev cL_protect : ByteArray := method_10_code
def yL_protect : MethodName := ⟨RL, "protect", "(LCatalogueLoader;IIZ[J)I"⟩
abbrev cL_hold : ByteArray := method_11_code
def yL_hold : MethodName := ⟨RL, "hold", "(LCatalogueLoader;I[J)I"⟩
abbrev cL_merge : ByteArray := method_12_code
def yL_merge : MethodName := ⟨RL, "merge", "(LCatalogueLoader;II[J)I"⟩
abbrev cL_undo : ByteArray := method_13_code
def yL_undo : MethodName := ⟨RL, "undo", "(LCatalogueLoader;IZ[J)I"⟩
abbrev cL_isUndone : ByteArray := method_14_code
def yL_isUndone : MethodName := ⟨RL, "isUndone", "(LCatalogueLoader;I[J)I"⟩
abbrev cL_hit : ByteArray := method_15_code
def yL_hit : MethodName := ⟨RL, "hit", "(LCatalogueLoader;I[J)I"⟩
abbrev cL_keyOf : ByteArray := method_16_code
def yL_keyOf : MethodName := ⟨RL, "keyOf", "(LCatalogueLoader;II[J)I"⟩
abbrev cL_fieldOf : ByteArray := method_17_code
def yL_fieldOf : MethodName := ⟨RL, "fieldOf", "(LCatalogueLoader;II[J)I"⟩
abbrev cL_sourceOf : ByteArray := method_18_code
def yL_sourceOf : MethodName := ⟨RL, "sourceOf", "(LCatalogueLoader;II[J)I"⟩
abbrev cL_holdings : ByteArray := method_19_code
def yL_holdings : MethodName := ⟨RL, "holdings", "(LCatalogueLoader;I[J)I"⟩
abbrev cL_law : ByteArray := code
def yL_law : MethodName := ⟨RL, "law", "([I)Z"⟩
abbrev vwCl : List vw_C := [(RX0, TX0, 7), (RX1, TX1, 3), (RX2, TX2, 6), (RX3, TX3, 7), (RX4, TX4, 1), (RX5, TX5, 3), (RX6, TX6, 5), (RX7, TX7, 25)]
end
section
def wsJ7_fill_53178 : List Cond := .code yJ7_fill_53178 cJ7_fill_53178 4 none :: ([])
def wsX4_init : List Cond := .code yX4_init cX4_init 3 none :: ([.methodLink RX4 3 objectInit, .instanceMethod objectInit, .code objectInit ⟨#[0xb1]⟩ 1 none, .methodLink RX4 9 Lib.Math.max.name, .static Lib.Math.max.name, .initialized "java/lang/Math", .code Lib.Math.max.name Lib.Math.max.code 2 (some .int), .arrayClass .int, .fieldLink RX4 15 "CatalogueLoader$Row" "cells" "[I", .methodLink RX4 21 yJ7_fill_53178, .static yJ7_fill_53178, .initialized RJ7, .code yJ7_fill_53178 cJ7_fill_53178 4 none] ++ wsX40)
def wsX1_init : List Cond := .code yX1_init cX1_init 4 none :: ([.methodLink RX1 3 objectInit, .instanceMethod objectInit, .code objectInit ⟨#[0xb1]⟩ 1 none, .fieldLink RX1 9 "CatalogueLoader$Grid" "lines" "I", .fieldLink RX1 15 "CatalogueLoader$Grid" "columns" "I", .methodLink RX1 18 Lib.Math.max.name, .static Lib.Math.max.name, .initialized "java/lang/Math", .code Lib.Math.max.name Lib.Math.max.code 2 (some .int), .arrayClass .int, .fieldLink RX1 24 "CatalogueLoader$Grid" "cells" "[I", .methodLink RX1 28 yJ7_fill_53178, .static yJ7_fill_53178, .initialized RJ7, .code yJ7_fill_53178 cJ7_fill_53178 4 none] ++ wsX10)
def wsX0_init_r1 : List Cond := [Cond.methodLink RX0 3 objectInit, Cond.instanceMethod objectInit, Cond.code objectInit ⟨#[0xb1]⟩ 1 none, Cond.classLink RX0 9 RX4, Cond.instantiable RX4 1, Cond.initialized RX4, Cond.fieldLink RX0 14 "CatalogueLoader$Catalogue" "there" "LCatalogueLoader$Row;", Cond.classLink RX0 20 RX1, Cond.instantiable RX1 3, Cond.initialized RX1, Cond.fieldLink RX0 25 "CatalogueLoader$Catalogue" "keys" "LCatalogueLoader$Grid;", Cond.fieldLink RX0 29 "CatalogueLoader$Catalogue" "fields" "LCatalogueLoader$Grid;", Cond.fieldLink RX0 32 "CatalogueLoader$Catalogue" "sources" "LCatalogueLoader$Grid;", Cond.fieldLink RX0 35 "CatalogueLoader$Catalogue" "guards" "LCatalogueLoader$Grid;", Cond.fieldLink RX0 38 "CatalogueLoader$Catalogue" "held" "LCatalogueLoader$Row;", Cond.fieldLink RX0 41 "CatalogueLoader$Catalogue" "hits" "LCatalogueLoader$Row;", Cond.methodLink RX0 11 yX4_init, Cond.instanceMethod yX4_init, Cond.code yX4_init cX4_init 3 none, Cond.methodLink RX4 3 objectInit, Cond.methodLink RX4 9 Lib.Math.max.name, Cond.static Lib.Math.max.name, Cond.initialized "java/lang/Math", Cond.code Lib.Math.max.name Lib.Math.max.code 2 (some .int)]
def wsX0_init_r2 : List Cond := [Cond.arrayClass .int, Cond.fieldLink RX4 15 "CatalogueLoader$Row" "cells" "[I", Cond.methodLink RX4 21 yJ7_fill_53178, Cond.static yJ7_fill_53178, Cond.initialized RJ7, Cond.code yJ7_fill_53178 cJ7_fill_53178 4 none, Cond.methodLink RX0 22 yX1_init, Cond.instanceMethod yX1_init, Cond.code yX1_init cX1_init 4 none, Cond.methodLink RX1 3 objectInit, Cond.fieldLink RX1 9 "CatalogueLoader$Grid" "lines" "I", Cond.fieldLink RX1 15 "CatalogueLoader$Grid" "columns" "I", Cond.methodLink RX1 18 Lib.Math.max.name, Cond.fieldLink RX1 24 "CatalogueLoader$Grid" "cells" "[I", Cond.methodLink RX1 28 yJ7_fill_53178]
def wsX0_init : List Cond := .code yX0_init cX0_init 1 none :: ((wsX0_init_r1 ++ wsX0_init_r2) ++ wsX40 ++ wsX00 ++ wsX10)
def wsX4_fill : List Cond := .code yX4_fill cX4_fill 2 none :: ([.fieldLink RX4 15 "CatalogueLoader$Row" "cells" "[I", .methodLink RX4 21 yJ7_fill_53178, .static yJ7_fill_53178, .initialized RJ7, .code yJ7_fill_53178 cJ7_fill_53178 4 none] ++ wsX40)
def wsX1_fill : List Cond := .code yX1_fill cX1_fill 2 none :: ([.fieldLink RX1 24 "CatalogueLoader$Grid" "cells" "[I", .methodLink RX1 28 yJ7_fill_53178, .static yJ7_fill_53178, .initialized RJ7, .code yJ7_fill_53178 cJ7_fill_53178 4 none] ++ wsX10)
def wsX0_clear : List Cond := .code yX0_clear cX0_clear 1 none :: ([.fieldLink RX0 14 "CatalogueLoader$Catalogue" "there" "LCatalogueLoader$Row;", .fieldLink RX0 25 "CatalogueLoader$Catalogue" "keys" "LCatalogueLoader$Grid;", .fieldLink RX0 29 "CatalogueLoader$Catalogue" "fields" "LCatalogueLoader$Grid;", .fieldLink RX0 32 "CatalogueLoader$Catalogue" "sources" "LCatalogueLoader$Grid;", .fieldLink RX0 35 "CatalogueLoader$Catalogue" "guards" "LCatalogueLoader$Grid;", .fieldLink RX0 38 "CatalogueLoader$Catalogue" "held" "LCatalogueLoader$Row;", .fieldLink RX0 41 "CatalogueLoader$Catalogue" "hits" "LCatalogueLoader$Row;", .methodLink RX0 44 yX4_fill, .instanceMethod yX4_fill, .selects RX4 yX4_fill yX4_fill, .initialized RX4, .code yX4_fill cX4_fill 2 none, .fieldLink RX4 15 "CatalogueLoader$Row" "cells" "[I", .methodLink RX4 21 yJ7_fill_53178, .static yJ7_fill_53178, .initialized RJ7, .code yJ7_fill_53178 cJ7_fill_53178 4 none, .methodLink RX0 48 yX1_fill, .instanceMethod yX1_fill, .selects RX1 yX1_fill yX1_fill, .initialized RX1, .code yX1_fill cX1_fill 2 none, .fieldLink RX1 24 "CatalogueLoader$Grid" "cells" "[I", .methodLink RX1 28 yJ7_fill_53178] ++ wsX00 ++ wsX40 ++ wsX10)
def wsX4_get : List Cond := .code yX4_get cX4_get 2 (some .int) :: ([.fieldLink RX4 15 "CatalogueLoader$Row" "cells" "[I"] ++ wsX40)
def wsX0_has : List Cond := .code yX0_has cX0_has 2 (some .boolean) :: ([.fieldLink RX0 14 "CatalogueLoader$Catalogue" "there" "LCatalogueLoader$Row;", .methodLink RX0 49 yX4_get, .instanceMethod yX4_get, .selects RX4 yX4_get yX4_get, .initialized RX4, .code yX4_get cX4_get 2 (some .int), .fieldLink RX4 15 "CatalogueLoader$Row" "cells" "[I"] ++ wsX00 ++ wsX40)
def wsX0_count : List Cond := .code yX0_count cX0_count 3 (some .int) :: ([.methodLink RX0 53 yX0_has, .instanceMethod yX0_has, .selects RX0 yX0_has yX0_has, .initialized RX0, .code yX0_has cX0_has 2 (some .boolean), .fieldLink RX0 14 "CatalogueLoader$Catalogue" "there" "LCatalogueLoader$Row;", .methodLink RX0 49 yX4_get, .instanceMethod yX4_get, .selects RX4 yX4_get yX4_get, .initialized RX4, .code yX4_get cX4_get 2 (some .int), .fieldLink RX4 15 "CatalogueLoader$Row" "cells" "[I"] ++ wsX00 ++ wsX40)
def wsX3_isLeftOut : List Cond := .code yX3_isLeftOut cX3_isLeftOut 2 (some .boolean) :: ([.fieldLink RX3 35 "CatalogueLoader$Loads" "undone" "LCatalogueLoader$Row;", .fieldLink RX3 32 "CatalogueLoader$Loads" "batches" "LCatalogueLoader$Row;", .methodLink RX3 48 yX4_get, .instanceMethod yX4_get, .selects RX4 yX4_get yX4_get, .initialized RX4, .code yX4_get cX4_get 2 (some .int), .fieldLink RX4 15 "CatalogueLoader$Row" "cells" "[I"] ++ wsX30 ++ wsX40)
def wsX1_get : List Cond := .code yX1_get cX1_get 4 (some .int) :: ([.fieldLink RX1 9 "CatalogueLoader$Grid" "lines" "I", .fieldLink RX1 15 "CatalogueLoader$Grid" "columns" "I", .fieldLink RX1 24 "CatalogueLoader$Grid" "cells" "[I"] ++ wsX10)
def wsX0_find : List Cond := .code yX0_find cX0_find 5 (some .int) :: ([.fieldLink RX0 14 "CatalogueLoader$Catalogue" "there" "LCatalogueLoader$Row;", .fieldLink RX0 25 "CatalogueLoader$Catalogue" "keys" "LCatalogueLoader$Grid;", .methodLink RX0 49 yX4_get, .instanceMethod yX4_get, .selects RX4 yX4_get yX4_get, .initialized RX4, .code yX4_get cX4_get 2 (some .int), .fieldLink RX4 15 "CatalogueLoader$Row" "cells" "[I", .methodLink RX0 83 yX1_get, .instanceMethod yX1_get, .selects RX1 yX1_get yX1_get, .initialized RX1, .code yX1_get cX1_get 4 (some .int), .fieldLink RX1 9 "CatalogueLoader$Grid" "lines" "I", .fieldLink RX1 15 "CatalogueLoader$Grid" "columns" "I", .fieldLink RX1 24 "CatalogueLoader$Grid" "cells" "[I"] ++ wsX00 ++ wsX40 ++ wsX10)
def wsX0_target : List Cond := .code yX0_target cX0_target 7 (some .int) :: ([.methodLink RX0 49 yX4_get, .instanceMethod yX4_get, .selects RX4 yX4_get yX4_get, .initialized RX4, .code yX4_get cX4_get 2 (some .int), .fieldLink RX4 15 "CatalogueLoader$Row" "cells" "[I", .methodLink RX0 83 yX1_get, .instanceMethod yX1_get, .selects RX1 yX1_get yX1_get, .initialized RX1, .code yX1_get cX1_get 4 (some .int), .fieldLink RX1 9 "CatalogueLoader$Grid" "lines" "I", .fieldLink RX1 15 "CatalogueLoader$Grid" "columns" "I", .fieldLink RX1 24 "CatalogueLoader$Grid" "cells" "[I", .methodLink RX0 86 yX0_find, .instanceMethod yX0_find, .selects RX0 yX0_find yX0_find, .initialized RX0, .code yX0_find cX0_find 5 (some .int), .fieldLink RX0 14 "CatalogueLoader$Catalogue" "there" "LCatalogueLoader$Row;", .fieldLink RX0 25 "CatalogueLoader$Catalogue" "keys" "LCatalogueLoader$Grid;"] ++ wsX50 ++ wsX30 ++ wsX40 ++ wsX10 ++ wsX00)
def wsX4_set : List Cond := .code yX4_set cX4_set 3 none :: ([.fieldLink RX4 15 "CatalogueLoader$Row" "cells" "[I"] ++ wsX40)
def wsX1_set : List Cond := .code yX1_set cX1_set 5 none :: ([.fieldLink RX1 9 "CatalogueLoader$Grid" "lines" "I", .fieldLink RX1 15 "CatalogueLoader$Grid" "columns" "I", .fieldLink RX1 24 "CatalogueLoader$Grid" "cells" "[I"] ++ wsX10)
def wsX0_layKeys : List Cond := .code yX0_layKeys cX0_layKeys 5 none :: ([.fieldLink RX0 25 "CatalogueLoader$Catalogue" "keys" "LCatalogueLoader$Grid;", .methodLink RX0 83 yX1_get, .instanceMethod yX1_get, .selects RX1 yX1_get yX1_get, .initialized RX1, .code yX1_get cX1_get 4 (some .int), .fieldLink RX1 9 "CatalogueLoader$Grid" "lines" "I", .fieldLink RX1 15 "CatalogueLoader$Grid" "columns" "I", .fieldLink RX1 24 "CatalogueLoader$Grid" "cells" "[I", .methodLink RX0 89 yX1_set, .instanceMethod yX1_set, .selects RX1 yX1_set yX1_set, .code yX1_set cX1_set 5 none] ++ wsX00 ++ wsX30 ++ wsX10)
def wsX5_replaces : List Cond := .code yX5_replaces cX5_replaces 4 (some .boolean) :: ([.fieldLink RX5 23 "CatalogueLoader$Settings" "rules" "LCatalogueLoader$Row;", .fieldLink RX5 14 "CatalogueLoader$Settings" "ranks" "LCatalogueLoader$Row;", .methodLink RX5 29 yX4_get, .instanceMethod yX4_get, .selects RX4 yX4_get yX4_get, .initialized RX4, .code yX4_get cX4_get 2 (some .int), .fieldLink RX4 15 "CatalogueLoader$Row" "cells" "[I"] ++ wsX50 ++ wsX40)
def wsX0_layFields_r1 : List Cond := [Cond.fieldLink RX0 35 "CatalogueLoader$Catalogue" "guards" "LCatalogueLoader$Grid;", Cond.fieldLink RX0 29 "CatalogueLoader$Catalogue" "fields" "LCatalogueLoader$Grid;", Cond.fieldLink RX0 32 "CatalogueLoader$Catalogue" "sources" "LCatalogueLoader$Grid;", Cond.methodLink RX0 49 yX4_get, Cond.instanceMethod yX4_get, Cond.selects RX4 yX4_get yX4_get, Cond.initialized RX4, Cond.code yX4_get cX4_get 2 (some .int), Cond.fieldLink RX4 15 "CatalogueLoader$Row" "cells" "[I", Cond.methodLink RX0 83 yX1_get, Cond.instanceMethod yX1_get, Cond.selects RX1 yX1_get yX1_get, Cond.initialized RX1, Cond.code yX1_get cX1_get 4 (some .int), Cond.fieldLink RX1 9 "CatalogueLoader$Grid" "lines" "I", Cond.fieldLink RX1 15 "CatalogueLoader$Grid" "columns" "I", Cond.fieldLink RX1 24 "CatalogueLoader$Grid" "cells" "[I", Cond.methodLink RX0 94 yX5_replaces, Cond.instanceMethod yX5_replaces, Cond.selects RX5 yX5_replaces yX5_replaces, Cond.initialized RX5, Cond.code yX5_replaces cX5_replaces 4 (some .boolean), Cond.fieldLink RX5 23 "CatalogueLoader$Settings" "rules" "LCatalogueLoader$Row;", Cond.fieldLink RX5 14 "CatalogueLoader$Settings" "ranks" "LCatalogueLoader$Row;"]
def wsX0_layFields_r2 : List Cond := [Cond.methodLink RX5 29 yX4_get, Cond.methodLink RX0 89 yX1_set, Cond.instanceMethod yX1_set, Cond.selects RX1 yX1_set yX1_set, Cond.code yX1_set cX1_set 5 none]
def wsX0_layFields : List Cond := .code yX0_layFields cX0_layFields 8 none :: ((wsX0_layFields_r1 ++ wsX0_layFields_r2) ++ wsX30 ++ wsX00 ++ wsX40 ++ wsX10 ++ wsX50)
def wsX0_take_r1 : List Cond := [Cond.fieldLink RX0 14 "CatalogueLoader$Catalogue" "there" "LCatalogueLoader$Row;", Cond.fieldLink RX0 41 "CatalogueLoader$Catalogue" "hits" "LCatalogueLoader$Row;", Cond.methodLink RX0 57 yX3_isLeftOut, Cond.instanceMethod yX3_isLeftOut, Cond.selects RX3 yX3_isLeftOut yX3_isLeftOut, Cond.initialized RX3, Cond.code yX3_isLeftOut cX3_isLeftOut 2 (some .boolean), Cond.fieldLink RX3 35 "CatalogueLoader$Loads" "undone" "LCatalogueLoader$Row;", Cond.fieldLink RX3 32 "CatalogueLoader$Loads" "batches" "LCatalogueLoader$Row;", Cond.methodLink RX3 48 yX4_get, Cond.instanceMethod yX4_get, Cond.selects RX4 yX4_get yX4_get, Cond.initialized RX4, Cond.code yX4_get cX4_get 2 (some .int), Cond.fieldLink RX4 15 "CatalogueLoader$Row" "cells" "[I", Cond.methodLink RX0 62 yX0_target, Cond.instanceMethod yX0_target, Cond.selects RX0 yX0_target yX0_target, Cond.initialized RX0, Cond.code yX0_target cX0_target 7 (some .int), Cond.methodLink RX0 49 yX4_get, Cond.methodLink RX0 83 yX1_get, Cond.instanceMethod yX1_get, Cond.selects RX1 yX1_get yX1_get]
def wsX0_take_r2 : List Cond := [Cond.initialized RX1, Cond.code yX1_get cX1_get 4 (some .int), Cond.fieldLink RX1 9 "CatalogueLoader$Grid" "lines" "I", Cond.fieldLink RX1 15 "CatalogueLoader$Grid" "columns" "I", Cond.fieldLink RX1 24 "CatalogueLoader$Grid" "cells" "[I", Cond.methodLink RX0 86 yX0_find, Cond.instanceMethod yX0_find, Cond.selects RX0 yX0_find yX0_find, Cond.code yX0_find cX0_find 5 (some .int), Cond.fieldLink RX0 25 "CatalogueLoader$Catalogue" "keys" "LCatalogueLoader$Grid;", Cond.methodLink RX0 66 yX4_set, Cond.instanceMethod yX4_set, Cond.selects RX4 yX4_set yX4_set, Cond.code yX4_set cX4_set 3 none, Cond.methodLink RX0 69 yX0_layKeys, Cond.instanceMethod yX0_layKeys, Cond.selects RX0 yX0_layKeys yX0_layKeys, Cond.code yX0_layKeys cX0_layKeys 5 none, Cond.methodLink RX0 89 yX1_set, Cond.instanceMethod yX1_set, Cond.selects RX1 yX1_set yX1_set, Cond.code yX1_set cX1_set 5 none, Cond.methodLink RX0 73 yX0_layFields, Cond.instanceMethod yX0_layFields]
def wsX0_take_r3 : List Cond := [Cond.selects RX0 yX0_layFields yX0_layFields, Cond.code yX0_layFields cX0_layFields 8 none, Cond.fieldLink RX0 35 "CatalogueLoader$Catalogue" "guards" "LCatalogueLoader$Grid;", Cond.fieldLink RX0 29 "CatalogueLoader$Catalogue" "fields" "LCatalogueLoader$Grid;", Cond.fieldLink RX0 32 "CatalogueLoader$Catalogue" "sources" "LCatalogueLoader$Grid;", Cond.methodLink RX0 94 yX5_replaces, Cond.instanceMethod yX5_replaces, Cond.selects RX5 yX5_replaces yX5_replaces, Cond.initialized RX5, Cond.code yX5_replaces cX5_replaces 4 (some .boolean), Cond.fieldLink RX5 23 "CatalogueLoader$Settings" "rules" "LCatalogueLoader$Row;", Cond.fieldLink RX5 14 "CatalogueLoader$Settings" "ranks" "LCatalogueLoader$Row;", Cond.methodLink RX5 29 yX4_get]
def wsX0_take : List Cond := .code yX0_take cX0_take 5 (some .int) :: ((wsX0_take_r1 ++ (wsX0_take_r2 ++ wsX0_take_r3)) ++ wsX00 ++ wsX30 ++ wsX40 ++ wsX50 ++ wsX10)
def wsX0_guard_r1 : List Cond := [Cond.fieldLink RX0 35 "CatalogueLoader$Catalogue" "guards" "LCatalogueLoader$Grid;", Cond.methodLink RX0 53 yX0_has, Cond.instanceMethod yX0_has, Cond.selects RX0 yX0_has yX0_has, Cond.initialized RX0, Cond.code yX0_has cX0_has 2 (some .boolean), Cond.fieldLink RX0 14 "CatalogueLoader$Catalogue" "there" "LCatalogueLoader$Row;", Cond.methodLink RX0 49 yX4_get, Cond.instanceMethod yX4_get, Cond.selects RX4 yX4_get yX4_get, Cond.initialized RX4, Cond.code yX4_get cX4_get 2 (some .int), Cond.fieldLink RX4 15 "CatalogueLoader$Row" "cells" "[I", Cond.methodLink RX0 83 yX1_get, Cond.instanceMethod yX1_get, Cond.selects RX1 yX1_get yX1_get, Cond.initialized RX1, Cond.code yX1_get cX1_get 4 (some .int), Cond.fieldLink RX1 9 "CatalogueLoader$Grid" "lines" "I", Cond.fieldLink RX1 15 "CatalogueLoader$Grid" "columns" "I", Cond.fieldLink RX1 24 "CatalogueLoader$Grid" "cells" "[I", Cond.methodLink RX0 89 yX1_set, Cond.instanceMethod yX1_set, Cond.selects RX1 yX1_set yX1_set]
def wsX0_guard_r2 : List Cond := [Cond.code yX1_set cX1_set 5 none]
def wsX0_guard : List Cond := .code yX0_guard cX0_guard 5 (some .int) :: ((wsX0_guard_r1 ++ wsX0_guard_r2) ++ wsX00 ++ wsX40 ++ wsX10)
def wsX0_addHoldings : List Cond := .code yX0_addHoldings cX0_addHoldings 3 (some .int) :: ([.fieldLink RX0 38 "CatalogueLoader$Catalogue" "held" "LCatalogueLoader$Row;", .methodLink RX0 53 yX0_has, .instanceMethod yX0_has, .selects RX0 yX0_has yX0_has, .initialized RX0, .code yX0_has cX0_has 2 (some .boolean), .fieldLink RX0 14 "CatalogueLoader$Catalogue" "there" "LCatalogueLoader$Row;", .methodLink RX0 49 yX4_get, .instanceMethod yX4_get, .selects RX4 yX4_get yX4_get, .initialized RX4, .code yX4_get cX4_get 2 (some .int), .fieldLink RX4 15 "CatalogueLoader$Row" "cells" "[I", .methodLink RX0 66 yX4_set, .instanceMethod yX4_set, .selects RX4 yX4_set yX4_set, .code yX4_set cX4_set 3 none] ++ wsX00 ++ wsX40)
def wsX0_join_r1 : List Cond := [Cond.fieldLink RX0 25 "CatalogueLoader$Catalogue" "keys" "LCatalogueLoader$Grid;", Cond.fieldLink RX0 29 "CatalogueLoader$Catalogue" "fields" "LCatalogueLoader$Grid;", Cond.fieldLink RX0 32 "CatalogueLoader$Catalogue" "sources" "LCatalogueLoader$Grid;", Cond.fieldLink RX0 14 "CatalogueLoader$Catalogue" "there" "LCatalogueLoader$Row;", Cond.fieldLink RX0 38 "CatalogueLoader$Catalogue" "held" "LCatalogueLoader$Row;", Cond.methodLink RX0 53 yX0_has, Cond.instanceMethod yX0_has, Cond.selects RX0 yX0_has yX0_has, Cond.initialized RX0, Cond.code yX0_has cX0_has 2 (some .boolean), Cond.methodLink RX0 49 yX4_get, Cond.instanceMethod yX4_get, Cond.selects RX4 yX4_get yX4_get, Cond.initialized RX4, Cond.code yX4_get cX4_get 2 (some .int), Cond.fieldLink RX4 15 "CatalogueLoader$Row" "cells" "[I", Cond.methodLink RX0 83 yX1_get, Cond.instanceMethod yX1_get, Cond.selects RX1 yX1_get yX1_get, Cond.initialized RX1, Cond.code yX1_get cX1_get 4 (some .int), Cond.fieldLink RX1 9 "CatalogueLoader$Grid" "lines" "I", Cond.fieldLink RX1 15 "CatalogueLoader$Grid" "columns" "I", Cond.fieldLink RX1 24 "CatalogueLoader$Grid" "cells" "[I"]
def wsX0_join_r2 : List Cond := [Cond.methodLink RX0 89 yX1_set, Cond.instanceMethod yX1_set, Cond.selects RX1 yX1_set yX1_set, Cond.code yX1_set cX1_set 5 none, Cond.methodLink RX0 66 yX4_set, Cond.instanceMethod yX4_set, Cond.selects RX4 yX4_set yX4_set, Cond.code yX4_set cX4_set 3 none, Cond.methodLink RX0 98 yX0_addHoldings, Cond.instanceMethod yX0_addHoldings, Cond.selects RX0 yX0_addHoldings yX0_addHoldings, Cond.code yX0_addHoldings cX0_addHoldings 3 (some .int)]
def wsX0_join : List Cond := .code yX0_join cX0_join 4 (some .int) :: ((wsX0_join_r1 ++ wsX0_join_r2) ++ wsX00 ++ wsX40 ++ wsX10)
def wsX0_values : List Cond := .code yX0_values cX0_values 4 (some .int) :: ([.fieldLink RX0 25 "CatalogueLoader$Catalogue" "keys" "LCatalogueLoader$Grid;", .methodLink RX0 104 Lib.Math.max.name, .static Lib.Math.max.name, .initialized "java/lang/Math", .code Lib.Math.max.name Lib.Math.max.code 2 (some .int), .fieldLink RX0 29 "CatalogueLoader$Catalogue" "fields" "LCatalogueLoader$Grid;", .methodLink RX0 83 yX1_get, .instanceMethod yX1_get, .selects RX1 yX1_get yX1_get, .initialized RX1, .code yX1_get cX1_get 4 (some .int), .fieldLink RX1 9 "CatalogueLoader$Grid" "lines" "I", .fieldLink RX1 15 "CatalogueLoader$Grid" "columns" "I", .fieldLink RX1 24 "CatalogueLoader$Grid" "cells" "[I"] ++ wsX00 ++ wsX10)
def wsX0_sum_r1 : List Cond := [Cond.fieldLink RX0 38 "CatalogueLoader$Catalogue" "held" "LCatalogueLoader$Row;", Cond.methodLink RX0 53 yX0_has, Cond.instanceMethod yX0_has, Cond.selects RX0 yX0_has yX0_has, Cond.initialized RX0, Cond.code yX0_has cX0_has 2 (some .boolean), Cond.fieldLink RX0 14 "CatalogueLoader$Catalogue" "there" "LCatalogueLoader$Row;", Cond.methodLink RX0 49 yX4_get, Cond.instanceMethod yX4_get, Cond.selects RX4 yX4_get yX4_get, Cond.initialized RX4, Cond.code yX4_get cX4_get 2 (some .int), Cond.fieldLink RX4 15 "CatalogueLoader$Row" "cells" "[I", Cond.methodLink RX0 101 yX0_values, Cond.instanceMethod yX0_values, Cond.selects RX0 yX0_values yX0_values, Cond.code yX0_values cX0_values 4 (some .int), Cond.fieldLink RX0 25 "CatalogueLoader$Catalogue" "keys" "LCatalogueLoader$Grid;", Cond.methodLink RX0 104 Lib.Math.max.name, Cond.static Lib.Math.max.name, Cond.initialized "java/lang/Math", Cond.code Lib.Math.max.name Lib.Math.max.code 2 (some .int), Cond.fieldLink RX0 29 "CatalogueLoader$Catalogue" "fields" "LCatalogueLoader$Grid;", Cond.methodLink RX0 83 yX1_get]
def wsX0_sum_r2 : List Cond := [Cond.instanceMethod yX1_get, Cond.selects RX1 yX1_get yX1_get, Cond.initialized RX1, Cond.code yX1_get cX1_get 4 (some .int), Cond.fieldLink RX1 9 "CatalogueLoader$Grid" "lines" "I", Cond.fieldLink RX1 15 "CatalogueLoader$Grid" "columns" "I", Cond.fieldLink RX1 24 "CatalogueLoader$Grid" "cells" "[I"]
def wsX0_sum : List Cond := .code yX0_sum cX0_sum 3 (some .int) :: ((wsX0_sum_r1 ++ wsX0_sum_r2) ++ wsX00 ++ wsX40 ++ wsX10)
def wsX2_init_r1 : List Cond := [Cond.methodLink RX2 3 objectInit, Cond.instanceMethod objectInit, Cond.code objectInit ⟨#[0xb1]⟩ 1 none, Cond.classLink RX2 9 RX4, Cond.instantiable RX4 1, Cond.initialized RX4, Cond.fieldLink RX2 14 "CatalogueLoader$History" "kinds" "LCatalogueLoader$Row;", Cond.fieldLink RX2 20 "CatalogueLoader$History" "first" "LCatalogueLoader$Row;", Cond.fieldLink RX2 23 "CatalogueLoader$History" "second" "LCatalogueLoader$Row;", Cond.fieldLink RX2 26 "CatalogueLoader$History" "third" "LCatalogueLoader$Row;", Cond.fieldLink RX2 29 "CatalogueLoader$History" "count" "I", Cond.fieldLink RX2 33 "CatalogueLoader$History" "loadCount" "I", Cond.methodLink RX2 11 yX4_init, Cond.instanceMethod yX4_init, Cond.code yX4_init cX4_init 3 none, Cond.methodLink RX4 3 objectInit, Cond.methodLink RX4 9 Lib.Math.max.name, Cond.static Lib.Math.max.name, Cond.initialized "java/lang/Math", Cond.code Lib.Math.max.name Lib.Math.max.code 2 (some .int), Cond.arrayClass .int, Cond.fieldLink RX4 15 "CatalogueLoader$Row" "cells" "[I", Cond.methodLink RX4 21 yJ7_fill_53178, Cond.static yJ7_fill_53178]
def wsX2_init_r2 : List Cond := [Cond.initialized RJ7, Cond.code yJ7_fill_53178 cJ7_fill_53178 4 none]
def wsX2_init : List Cond := .code yX2_init cX2_init 1 none :: ((wsX2_init_r1 ++ wsX2_init_r2) ++ wsX40 ++ wsX20)
def wsX2_append : List Cond := .code yX2_append cX2_append 5 none :: ([.fieldLink RX2 14 "CatalogueLoader$History" "kinds" "LCatalogueLoader$Row;", .fieldLink RX2 29 "CatalogueLoader$History" "count" "I", .fieldLink RX2 20 "CatalogueLoader$History" "first" "LCatalogueLoader$Row;", .fieldLink RX2 23 "CatalogueLoader$History" "second" "LCatalogueLoader$Row;", .fieldLink RX2 26 "CatalogueLoader$History" "third" "LCatalogueLoader$Row;", .fieldLink RX2 33 "CatalogueLoader$History" "loadCount" "I", .methodLink RX2 36 yX4_set, .instanceMethod yX4_set, .selects RX4 yX4_set yX4_set, .initialized RX4, .code yX4_set cX4_set 3 none, .fieldLink RX4 15 "CatalogueLoader$Row" "cells" "[I"] ++ wsX20 ++ wsX40)
def wsX2_acts : List Cond := .code yX2_acts cX2_acts 1 (some .int) :: ([.fieldLink RX2 29 "CatalogueLoader$History" "count" "I", .fieldLink RX2 33 "CatalogueLoader$History" "loadCount" "I"] ++ wsX20)
def wsX3_init_r1 : List Cond := [Cond.methodLink RX3 3 objectInit, Cond.instanceMethod objectInit, Cond.code objectInit ⟨#[0xb1]⟩ 1 none, Cond.classLink RX3 9 RX1, Cond.instantiable RX1 3, Cond.initialized RX1, Cond.fieldLink RX3 14 "CatalogueLoader$Loads" "keys" "LCatalogueLoader$Grid;", Cond.fieldLink RX3 20 "CatalogueLoader$Loads" "fields" "LCatalogueLoader$Grid;", Cond.classLink RX3 23 RX4, Cond.instantiable RX4 1, Cond.initialized RX4, Cond.fieldLink RX3 28 "CatalogueLoader$Loads" "sources" "LCatalogueLoader$Row;", Cond.fieldLink RX3 32 "CatalogueLoader$Loads" "batches" "LCatalogueLoader$Row;", Cond.fieldLink RX3 35 "CatalogueLoader$Loads" "undone" "LCatalogueLoader$Row;", Cond.fieldLink RX3 38 "CatalogueLoader$Loads" "count" "I", Cond.fieldLink RX3 42 "CatalogueLoader$Loads" "batchCount" "I", Cond.methodLink RX3 11 yX1_init, Cond.instanceMethod yX1_init, Cond.code yX1_init cX1_init 4 none, Cond.methodLink RX1 3 objectInit, Cond.fieldLink RX1 9 "CatalogueLoader$Grid" "lines" "I", Cond.fieldLink RX1 15 "CatalogueLoader$Grid" "columns" "I", Cond.methodLink RX1 18 Lib.Math.max.name, Cond.static Lib.Math.max.name]
def wsX3_init_r2 : List Cond := [Cond.initialized "java/lang/Math", Cond.code Lib.Math.max.name Lib.Math.max.code 2 (some .int), Cond.arrayClass .int, Cond.fieldLink RX1 24 "CatalogueLoader$Grid" "cells" "[I", Cond.methodLink RX1 28 yJ7_fill_53178, Cond.static yJ7_fill_53178, Cond.initialized RJ7, Cond.code yJ7_fill_53178 cJ7_fill_53178 4 none, Cond.methodLink RX3 25 yX4_init, Cond.instanceMethod yX4_init, Cond.code yX4_init cX4_init 3 none, Cond.methodLink RX4 3 objectInit, Cond.methodLink RX4 9 Lib.Math.max.name, Cond.fieldLink RX4 15 "CatalogueLoader$Row" "cells" "[I", Cond.methodLink RX4 21 yJ7_fill_53178]
def wsX3_init : List Cond := .code yX3_init cX3_init 1 none :: ((wsX3_init_r1 ++ wsX3_init_r2) ++ wsX10 ++ wsX30 ++ wsX40)
def wsX3_begin : List Cond := .code yX3_begin cX3_begin 2 (some .int) :: ([.fieldLink RX3 42 "CatalogueLoader$Loads" "batchCount" "I"] ++ wsX30)
def wsX3_close : List Cond := .code yX3_close cX3_close 3 (some .int) :: ([.fieldLink RX3 38 "CatalogueLoader$Loads" "count" "I", .fieldLink RX3 28 "CatalogueLoader$Loads" "sources" "LCatalogueLoader$Row;", .fieldLink RX3 32 "CatalogueLoader$Loads" "batches" "LCatalogueLoader$Row;", .fieldLink RX3 42 "CatalogueLoader$Loads" "batchCount" "I", .methodLink RX3 45 yX4_set, .instanceMethod yX4_set, .selects RX4 yX4_set yX4_set, .initialized RX4, .code yX4_set cX4_set 3 none, .fieldLink RX4 15 "CatalogueLoader$Row" "cells" "[I"] ++ wsX30 ++ wsX40)
def wsX5_init_r1 : List Cond := [Cond.methodLink RX5 3 objectInit, Cond.instanceMethod objectInit, Cond.code objectInit ⟨#[0xb1]⟩ 1 none, Cond.classLink RX5 9 RX4, Cond.instantiable RX4 1, Cond.initialized RX4, Cond.fieldLink RX5 14 "CatalogueLoader$Settings" "ranks" "LCatalogueLoader$Row;", Cond.fieldLink RX5 23 "CatalogueLoader$Settings" "rules" "LCatalogueLoader$Row;", Cond.fieldLink RX5 26 "CatalogueLoader$Settings" "order" "LCatalogueLoader$Row;", Cond.methodLink RX5 11 yX4_init, Cond.instanceMethod yX4_init, Cond.code yX4_init cX4_init 3 none, Cond.methodLink RX4 3 objectInit, Cond.methodLink RX4 9 Lib.Math.max.name, Cond.static Lib.Math.max.name, Cond.initialized "java/lang/Math", Cond.code Lib.Math.max.name Lib.Math.max.code 2 (some .int), Cond.arrayClass .int, Cond.fieldLink RX4 15 "CatalogueLoader$Row" "cells" "[I", Cond.methodLink RX4 21 yJ7_fill_53178, Cond.static yJ7_fill_53178, Cond.initialized RJ7, Cond.code yJ7_fill_53178 cJ7_fill_53178 4 none, Cond.methodLink RX5 20 yX4_set]
def wsX5_init_r2 : List Cond := [Cond.instanceMethod yX4_set, Cond.selects RX4 yX4_set yX4_set, Cond.code yX4_set cX4_set 3 none]
def wsX5_init : List Cond := .code yX5_init cX5_init 2 none :: ((wsX5_init_r1 ++ wsX5_init_r2) ++ wsX40 ++ wsX50)
def wsX6_init_r1 : List Cond := [Cond.methodLink RX6 1 objectInit, Cond.instanceMethod objectInit, Cond.code objectInit ⟨#[0xb1]⟩ 1 none, Cond.classLink RX6 7 RX5, Cond.instantiable RX5 3, Cond.initialized RX5, Cond.fieldLink RX6 10 "CatalogueLoader" "settings" "LCatalogueLoader$Settings;", Cond.classLink RX6 16 RX3, Cond.instantiable RX3 7, Cond.initialized RX3, Cond.fieldLink RX6 19 "CatalogueLoader" "taken" "LCatalogueLoader$Loads;", Cond.classLink RX6 23 RX2, Cond.instantiable RX2 6, Cond.initialized RX2, Cond.fieldLink RX6 26 "CatalogueLoader" "history" "LCatalogueLoader$History;", Cond.classLink RX6 30 RX0, Cond.instantiable RX0 7, Cond.initialized RX0, Cond.fieldLink RX6 33 "CatalogueLoader" "catalogue" "LCatalogueLoader$Catalogue;", Cond.fieldLink RX6 37 "CatalogueLoader" "catalogueAnew" "LCatalogueLoader$Catalogue;", Cond.methodLink RX6 9 yX5_init, Cond.instanceMethod yX5_init, Cond.code yX5_init cX5_init 2 none, Cond.methodLink RX5 3 objectInit]
def wsX6_init_r2 : List Cond := [Cond.classLink RX5 9 RX4, Cond.instantiable RX4 1, Cond.initialized RX4, Cond.fieldLink RX5 14 "CatalogueLoader$Settings" "ranks" "LCatalogueLoader$Row;", Cond.fieldLink RX5 23 "CatalogueLoader$Settings" "rules" "LCatalogueLoader$Row;", Cond.fieldLink RX5 26 "CatalogueLoader$Settings" "order" "LCatalogueLoader$Row;", Cond.methodLink RX5 11 yX4_init, Cond.instanceMethod yX4_init, Cond.code yX4_init cX4_init 3 none, Cond.methodLink RX4 3 objectInit, Cond.methodLink RX4 9 Lib.Math.max.name, Cond.static Lib.Math.max.name, Cond.initialized "java/lang/Math", Cond.code Lib.Math.max.name Lib.Math.max.code 2 (some .int), Cond.arrayClass .int, Cond.fieldLink RX4 15 "CatalogueLoader$Row" "cells" "[I", Cond.methodLink RX4 21 yJ7_fill_53178, Cond.static yJ7_fill_53178, Cond.initialized RJ7, Cond.code yJ7_fill_53178 cJ7_fill_53178 4 none, Cond.methodLink RX5 20 yX4_set, Cond.instanceMethod yX4_set, Cond.selects RX4 yX4_set yX4_set, Cond.code yX4_set cX4_set 3 none]
def wsX6_init_r3 : List Cond := [Cond.methodLink RX6 18 yX3_init, Cond.instanceMethod yX3_init, Cond.code yX3_init cX3_init 1 none, Cond.methodLink RX3 3 objectInit, Cond.classLink RX3 9 RX1, Cond.instantiable RX1 3, Cond.initialized RX1, Cond.fieldLink RX3 14 "CatalogueLoader$Loads" "keys" "LCatalogueLoader$Grid;", Cond.fieldLink RX3 20 "CatalogueLoader$Loads" "fields" "LCatalogueLoader$Grid;", Cond.classLink RX3 23 RX4, Cond.fieldLink RX3 28 "CatalogueLoader$Loads" "sources" "LCatalogueLoader$Row;", Cond.fieldLink RX3 32 "CatalogueLoader$Loads" "batches" "LCatalogueLoader$Row;", Cond.fieldLink RX3 35 "CatalogueLoader$Loads" "undone" "LCatalogueLoader$Row;", Cond.fieldLink RX3 38 "CatalogueLoader$Loads" "count" "I", Cond.fieldLink RX3 42 "CatalogueLoader$Loads" "batchCount" "I", Cond.methodLink RX3 11 yX1_init, Cond.instanceMethod yX1_init, Cond.code yX1_init cX1_init 4 none, Cond.methodLink RX1 3 objectInit, Cond.fieldLink RX1 9 "CatalogueLoader$Grid" "lines" "I", Cond.fieldLink RX1 15 "CatalogueLoader$Grid" "columns" "I", Cond.methodLink RX1 18 Lib.Math.max.name, Cond.fieldLink RX1 24 "CatalogueLoader$Grid" "cells" "[I", Cond.methodLink RX1 28 yJ7_fill_53178]
def wsX6_init_r4 : List Cond := [Cond.methodLink RX3 25 yX4_init, Cond.methodLink RX6 25 yX2_init, Cond.instanceMethod yX2_init, Cond.code yX2_init cX2_init 1 none, Cond.methodLink RX2 3 objectInit, Cond.classLink RX2 9 RX4, Cond.fieldLink RX2 14 "CatalogueLoader$History" "kinds" "LCatalogueLoader$Row;", Cond.fieldLink RX2 20 "CatalogueLoader$History" "first" "LCatalogueLoader$Row;", Cond.fieldLink RX2 23 "CatalogueLoader$History" "second" "LCatalogueLoader$Row;", Cond.fieldLink RX2 26 "CatalogueLoader$History" "third" "LCatalogueLoader$Row;", Cond.fieldLink RX2 29 "CatalogueLoader$History" "count" "I", Cond.fieldLink RX2 33 "CatalogueLoader$History" "loadCount" "I", Cond.methodLink RX2 11 yX4_init, Cond.methodLink RX6 32 yX0_init, Cond.instanceMethod yX0_init, Cond.code yX0_init cX0_init 1 none, Cond.methodLink RX0 3 objectInit, Cond.classLink RX0 9 RX4, Cond.fieldLink RX0 14 "CatalogueLoader$Catalogue" "there" "LCatalogueLoader$Row;", Cond.classLink RX0 20 RX1, Cond.fieldLink RX0 25 "CatalogueLoader$Catalogue" "keys" "LCatalogueLoader$Grid;", Cond.fieldLink RX0 29 "CatalogueLoader$Catalogue" "fields" "LCatalogueLoader$Grid;", Cond.fieldLink RX0 32 "CatalogueLoader$Catalogue" "sources" "LCatalogueLoader$Grid;", Cond.fieldLink RX0 35 "CatalogueLoader$Catalogue" "guards" "LCatalogueLoader$Grid;"]
def wsX6_init_r5 : List Cond := [Cond.fieldLink RX0 38 "CatalogueLoader$Catalogue" "held" "LCatalogueLoader$Row;", Cond.fieldLink RX0 41 "CatalogueLoader$Catalogue" "hits" "LCatalogueLoader$Row;", Cond.methodLink RX0 11 yX4_init, Cond.methodLink RX0 22 yX1_init]
def wsX6_init : List Cond := .code yX6_init cX6_init 1 none :: ((wsX6_init_r1 ++ (wsX6_init_r2 ++ (wsX6_init_r3 ++ (wsX6_init_r4 ++ wsX6_init_r5)))) ++ wsX50 ++ wsX60 ++ wsX30 ++ wsX20 ++ wsX00 ++ wsX40 ++ wsX10)
def wsX6_needIndex : List Cond := .code yX6_needIndex cX6_needIndex 2 none :: ([.classLink RX6 170 "java/lang/IndexOutOfBoundsException", .initialized "java/lang/IndexOutOfBoundsException"] ++ (vx_atS RX6 174 "java/lang/IndexOutOfBoundsException" ["java/lang/RuntimeException", "java/lang/Exception"]).filter goodWord)
def wsX6_needValue : List Cond := .code yX6_needValue cX6_needValue 3 none :: ([.classLink RX6 67 "java/lang/IllegalArgumentException", .initialized "java/lang/IllegalArgumentException"] ++ (vx_atS RX6 71 "java/lang/IllegalArgumentException" ["java/lang/RuntimeException", "java/lang/Exception"]).filter goodWord)
def wsX6_needNothingLoaded : List Cond := .code yX6_needNothingLoaded cX6_needNothingLoaded 1 none :: ([.classLink RX6 81 "java/lang/IllegalStateException", .initialized "java/lang/IllegalStateException", .fieldLink RX6 19 "CatalogueLoader" "taken" "LCatalogueLoader$Loads;"] ++ wsX60 ++ wsX30 ++ (vx_atS RX6 85 "java/lang/IllegalStateException" ["java/lang/RuntimeException", "java/lang/Exception"]).filter goodWord)
def wsX6_setRank_r1 : List Cond := [Cond.fieldLink RX6 10 "CatalogueLoader" "settings" "LCatalogueLoader$Settings;", Cond.methodLink RX6 40 yX6_needIndex, Cond.static yX6_needIndex, Cond.initialized RX6, Cond.code yX6_needIndex cX6_needIndex 2 none, Cond.classLink RX6 170 "java/lang/IndexOutOfBoundsException", Cond.initialized "java/lang/IndexOutOfBoundsException", Cond.methodLink RX6 44 yX6_needValue, Cond.static yX6_needValue, Cond.code yX6_needValue cX6_needValue 3 none, Cond.classLink RX6 67 "java/lang/IllegalArgumentException", Cond.initialized "java/lang/IllegalArgumentException", Cond.methodLink RX6 48 yX6_needNothingLoaded, Cond.instanceMethod yX6_needNothingLoaded, Cond.selects RX6 yX6_needNothingLoaded yX6_needNothingLoaded, Cond.code yX6_needNothingLoaded cX6_needNothingLoaded 1 none, Cond.classLink RX6 81 "java/lang/IllegalStateException", Cond.initialized "java/lang/IllegalStateException", Cond.fieldLink RX6 19 "CatalogueLoader" "taken" "LCatalogueLoader$Loads;", Cond.methodLink RX6 55 yX4_get, Cond.instanceMethod yX4_get, Cond.selects RX4 yX4_get yX4_get, Cond.initialized RX4, Cond.code yX4_get cX4_get 2 (some .int)]
def wsX6_setRank_r2 : List Cond := [Cond.fieldLink RX4 15 "CatalogueLoader$Row" "cells" "[I", Cond.methodLink RX6 61 yX4_set, Cond.instanceMethod yX4_set, Cond.selects RX4 yX4_set yX4_set, Cond.code yX4_set cX4_set 3 none]
def wsX6_setRank : List Cond := .code yX6_setRank cX6_setRank 4 (some .int) :: ((wsX6_setRank_r1 ++ wsX6_setRank_r2) ++ wsX60 ++ wsX50 ++ wsX30 ++ wsX40 ++ (vx_atS RX6 174 "java/lang/IndexOutOfBoundsException" ["java/lang/RuntimeException", "java/lang/Exception"]).filter goodWord ++ (vx_atS RX6 71 "java/lang/IllegalArgumentException" ["java/lang/RuntimeException", "java/lang/Exception"]).filter goodWord ++ (vx_atS RX6 85 "java/lang/IllegalStateException" ["java/lang/RuntimeException", "java/lang/Exception"]).filter goodWord)
def wsX6_setRule_r1 : List Cond := [Cond.fieldLink RX6 10 "CatalogueLoader" "settings" "LCatalogueLoader$Settings;", Cond.methodLink RX6 40 yX6_needIndex, Cond.static yX6_needIndex, Cond.initialized RX6, Cond.code yX6_needIndex cX6_needIndex 2 none, Cond.classLink RX6 170 "java/lang/IndexOutOfBoundsException", Cond.initialized "java/lang/IndexOutOfBoundsException", Cond.methodLink RX6 44 yX6_needValue, Cond.static yX6_needValue, Cond.code yX6_needValue cX6_needValue 3 none, Cond.classLink RX6 67 "java/lang/IllegalArgumentException", Cond.initialized "java/lang/IllegalArgumentException", Cond.methodLink RX6 48 yX6_needNothingLoaded, Cond.instanceMethod yX6_needNothingLoaded, Cond.selects RX6 yX6_needNothingLoaded yX6_needNothingLoaded, Cond.code yX6_needNothingLoaded cX6_needNothingLoaded 1 none, Cond.classLink RX6 81 "java/lang/IllegalStateException", Cond.initialized "java/lang/IllegalStateException", Cond.fieldLink RX6 19 "CatalogueLoader" "taken" "LCatalogueLoader$Loads;", Cond.methodLink RX6 55 yX4_get, Cond.instanceMethod yX4_get, Cond.selects RX4 yX4_get yX4_get, Cond.initialized RX4, Cond.code yX4_get cX4_get 2 (some .int)]
def wsX6_setRule_r2 : List Cond := [Cond.fieldLink RX4 15 "CatalogueLoader$Row" "cells" "[I", Cond.methodLink RX6 61 yX4_set, Cond.instanceMethod yX4_set, Cond.selects RX4 yX4_set yX4_set, Cond.code yX4_set cX4_set 3 none]
def wsX6_setRule : List Cond := .code yX6_setRule cX6_setRule 4 (some .int) :: ((wsX6_setRule_r1 ++ wsX6_setRule_r2) ++ wsX60 ++ wsX50 ++ wsX30 ++ wsX40 ++ (vx_atS RX6 174 "java/lang/IndexOutOfBoundsException" ["java/lang/RuntimeException", "java/lang/Exception"]).filter goodWord ++ (vx_atS RX6 71 "java/lang/IllegalArgumentException" ["java/lang/RuntimeException", "java/lang/Exception"]).filter goodWord ++ (vx_atS RX6 85 "java/lang/IllegalStateException" ["java/lang/RuntimeException", "java/lang/Exception"]).filter goodWord)
def wsX6_setOrder : List Cond := .code yX6_setOrder cX6_setOrder 4 none :: ([.classLink RX6 67 "java/lang/IllegalArgumentException", .initialized "java/lang/IllegalArgumentException", .fieldLink RX6 10 "CatalogueLoader" "settings" "LCatalogueLoader$Settings;", .methodLink RX6 44 yX6_needValue, .static yX6_needValue, .initialized RX6, .code yX6_needValue cX6_needValue 3 none, .methodLink RX6 48 yX6_needNothingLoaded, .instanceMethod yX6_needNothingLoaded, .selects RX6 yX6_needNothingLoaded yX6_needNothingLoaded, .code yX6_needNothingLoaded cX6_needNothingLoaded 1 none, .classLink RX6 81 "java/lang/IllegalStateException", .initialized "java/lang/IllegalStateException", .fieldLink RX6 19 "CatalogueLoader" "taken" "LCatalogueLoader$Loads;", .methodLink RX6 61 yX4_set, .instanceMethod yX4_set, .selects RX4 yX4_set yX4_set, .initialized RX4, .code yX4_set cX4_set 3 none, .fieldLink RX4 15 "CatalogueLoader$Row" "cells" "[I"] ++ wsX60 ++ wsX50 ++ wsX30 ++ wsX40 ++ (vx_atS RX6 71 "java/lang/IllegalArgumentException" ["java/lang/RuntimeException", "java/lang/Exception"]).filter goodWord ++ (vx_atS RX6 85 "java/lang/IllegalStateException" ["java/lang/RuntimeException", "java/lang/Exception"]).filter goodWord)
def wsX6_beginBatch : List Cond := .code yX6_beginBatch cX6_beginBatch 1 (some .int) :: ([.classLink RX6 81 "java/lang/IllegalStateException", .initialized "java/lang/IllegalStateException", .fieldLink RX6 19 "CatalogueLoader" "taken" "LCatalogueLoader$Loads;", .methodLink RX6 86 yX3_begin, .instanceMethod yX3_begin, .selects RX3 yX3_begin yX3_begin, .initialized RX3, .code yX3_begin cX3_begin 2 (some .int), .fieldLink RX3 42 "CatalogueLoader$Loads" "batchCount" "I"] ++ wsX60 ++ wsX30 ++ (vx_atS RX6 85 "java/lang/IllegalStateException" ["java/lang/RuntimeException", "java/lang/Exception"]).filter goodWord)
def wsX6_key : List Cond := .code yX6_key cX6_key 4 (some .int) :: ([.fieldLink RX6 19 "CatalogueLoader" "taken" "LCatalogueLoader$Loads;", .methodLink RX6 40 yX6_needIndex, .static yX6_needIndex, .initialized RX6, .code yX6_needIndex cX6_needIndex 2 none, .classLink RX6 170 "java/lang/IndexOutOfBoundsException", .initialized "java/lang/IndexOutOfBoundsException", .methodLink RX6 44 yX6_needValue, .static yX6_needValue, .code yX6_needValue cX6_needValue 3 none, .classLink RX6 67 "java/lang/IllegalArgumentException", .initialized "java/lang/IllegalArgumentException", .methodLink RX6 97 yX1_get, .instanceMethod yX1_get, .selects RX1 yX1_get yX1_get, .initialized RX1, .code yX1_get cX1_get 4 (some .int), .fieldLink RX1 9 "CatalogueLoader$Grid" "lines" "I", .fieldLink RX1 15 "CatalogueLoader$Grid" "columns" "I", .fieldLink RX1 24 "CatalogueLoader$Grid" "cells" "[I", .methodLink RX6 102 yX1_set, .instanceMethod yX1_set, .selects RX1 yX1_set yX1_set, .code yX1_set cX1_set 5 none] ++ wsX60 ++ wsX30 ++ wsX10 ++ (vx_atS RX6 174 "java/lang/IndexOutOfBoundsException" ["java/lang/RuntimeException", "java/lang/Exception"]).filter goodWord ++ (vx_atS RX6 71 "java/lang/IllegalArgumentException" ["java/lang/RuntimeException", "java/lang/Exception"]).filter goodWord)
def wsX6_field : List Cond := .code yX6_field cX6_field 4 (some .int) :: ([.fieldLink RX6 19 "CatalogueLoader" "taken" "LCatalogueLoader$Loads;", .methodLink RX6 40 yX6_needIndex, .static yX6_needIndex, .initialized RX6, .code yX6_needIndex cX6_needIndex 2 none, .classLink RX6 170 "java/lang/IndexOutOfBoundsException", .initialized "java/lang/IndexOutOfBoundsException", .methodLink RX6 44 yX6_needValue, .static yX6_needValue, .code yX6_needValue cX6_needValue 3 none, .classLink RX6 67 "java/lang/IllegalArgumentException", .initialized "java/lang/IllegalArgumentException", .methodLink RX6 97 yX1_get, .instanceMethod yX1_get, .selects RX1 yX1_get yX1_get, .initialized RX1, .code yX1_get cX1_get 4 (some .int), .fieldLink RX1 9 "CatalogueLoader$Grid" "lines" "I", .fieldLink RX1 15 "CatalogueLoader$Grid" "columns" "I", .fieldLink RX1 24 "CatalogueLoader$Grid" "cells" "[I", .methodLink RX6 102 yX1_set, .instanceMethod yX1_set, .selects RX1 yX1_set yX1_set, .code yX1_set cX1_set 5 none] ++ wsX60 ++ wsX30 ++ wsX10 ++ (vx_atS RX6 174 "java/lang/IndexOutOfBoundsException" ["java/lang/RuntimeException", "java/lang/Exception"]).filter goodWord ++ (vx_atS RX6 71 "java/lang/IllegalArgumentException" ["java/lang/RuntimeException", "java/lang/Exception"]).filter goodWord)
def wsX6_load_r1 : List Cond := [Cond.classLink RX6 81 "java/lang/IllegalStateException", Cond.initialized "java/lang/IllegalStateException", Cond.fieldLink RX6 19 "CatalogueLoader" "taken" "LCatalogueLoader$Loads;", Cond.fieldLink RX6 26 "CatalogueLoader" "history" "LCatalogueLoader$History;", Cond.fieldLink RX6 33 "CatalogueLoader" "catalogue" "LCatalogueLoader$Catalogue;", Cond.fieldLink RX6 10 "CatalogueLoader" "settings" "LCatalogueLoader$Settings;", Cond.methodLink RX6 40 yX6_needIndex, Cond.static yX6_needIndex, Cond.initialized RX6, Cond.code yX6_needIndex cX6_needIndex 2 none, Cond.classLink RX6 170 "java/lang/IndexOutOfBoundsException", Cond.initialized "java/lang/IndexOutOfBoundsException", Cond.methodLink RX6 111 yX3_close, Cond.instanceMethod yX3_close, Cond.selects RX3 yX3_close yX3_close, Cond.initialized RX3, Cond.code yX3_close cX3_close 3 (some .int), Cond.fieldLink RX3 38 "CatalogueLoader$Loads" "count" "I", Cond.fieldLink RX3 28 "CatalogueLoader$Loads" "sources" "LCatalogueLoader$Row;", Cond.fieldLink RX3 32 "CatalogueLoader$Loads" "batches" "LCatalogueLoader$Row;", Cond.fieldLink RX3 42 "CatalogueLoader$Loads" "batchCount" "I", Cond.methodLink RX3 45 yX4_set, Cond.instanceMethod yX4_set, Cond.selects RX4 yX4_set yX4_set]
def wsX6_load_r2 : List Cond := [Cond.initialized RX4, Cond.code yX4_set cX4_set 3 none, Cond.fieldLink RX4 15 "CatalogueLoader$Row" "cells" "[I", Cond.methodLink RX6 114 yX2_append, Cond.instanceMethod yX2_append, Cond.selects RX2 yX2_append yX2_append, Cond.initialized RX2, Cond.code yX2_append cX2_append 5 none, Cond.fieldLink RX2 14 "CatalogueLoader$History" "kinds" "LCatalogueLoader$Row;", Cond.fieldLink RX2 29 "CatalogueLoader$History" "count" "I", Cond.fieldLink RX2 20 "CatalogueLoader$History" "first" "LCatalogueLoader$Row;", Cond.fieldLink RX2 23 "CatalogueLoader$History" "second" "LCatalogueLoader$Row;", Cond.fieldLink RX2 26 "CatalogueLoader$History" "third" "LCatalogueLoader$Row;", Cond.fieldLink RX2 33 "CatalogueLoader$History" "loadCount" "I", Cond.methodLink RX2 36 yX4_set, Cond.methodLink RX6 118 yX0_take, Cond.instanceMethod yX0_take, Cond.selects RX0 yX0_take yX0_take, Cond.initialized RX0, Cond.code yX0_take cX0_take 5 (some .int), Cond.fieldLink RX0 14 "CatalogueLoader$Catalogue" "there" "LCatalogueLoader$Row;", Cond.fieldLink RX0 41 "CatalogueLoader$Catalogue" "hits" "LCatalogueLoader$Row;", Cond.methodLink RX0 57 yX3_isLeftOut, Cond.instanceMethod yX3_isLeftOut]
def wsX6_load_r3 : List Cond := [Cond.selects RX3 yX3_isLeftOut yX3_isLeftOut, Cond.code yX3_isLeftOut cX3_isLeftOut 2 (some .boolean), Cond.fieldLink RX3 35 "CatalogueLoader$Loads" "undone" "LCatalogueLoader$Row;", Cond.methodLink RX3 48 yX4_get, Cond.instanceMethod yX4_get, Cond.selects RX4 yX4_get yX4_get, Cond.code yX4_get cX4_get 2 (some .int), Cond.methodLink RX0 62 yX0_target, Cond.instanceMethod yX0_target, Cond.selects RX0 yX0_target yX0_target, Cond.code yX0_target cX0_target 7 (some .int), Cond.methodLink RX0 49 yX4_get, Cond.methodLink RX0 83 yX1_get, Cond.instanceMethod yX1_get, Cond.selects RX1 yX1_get yX1_get, Cond.initialized RX1, Cond.code yX1_get cX1_get 4 (some .int), Cond.fieldLink RX1 9 "CatalogueLoader$Grid" "lines" "I", Cond.fieldLink RX1 15 "CatalogueLoader$Grid" "columns" "I", Cond.fieldLink RX1 24 "CatalogueLoader$Grid" "cells" "[I", Cond.methodLink RX0 86 yX0_find, Cond.instanceMethod yX0_find, Cond.selects RX0 yX0_find yX0_find, Cond.code yX0_find cX0_find 5 (some .int)]
def wsX6_load_r4 : List Cond := [Cond.fieldLink RX0 25 "CatalogueLoader$Catalogue" "keys" "LCatalogueLoader$Grid;", Cond.methodLink RX0 66 yX4_set, Cond.methodLink RX0 69 yX0_layKeys, Cond.instanceMethod yX0_layKeys, Cond.selects RX0 yX0_layKeys yX0_layKeys, Cond.code yX0_layKeys cX0_layKeys 5 none, Cond.methodLink RX0 89 yX1_set, Cond.instanceMethod yX1_set, Cond.selects RX1 yX1_set yX1_set, Cond.code yX1_set cX1_set 5 none, Cond.methodLink RX0 73 yX0_layFields, Cond.instanceMethod yX0_layFields, Cond.selects RX0 yX0_layFields yX0_layFields, Cond.code yX0_layFields cX0_layFields 8 none, Cond.fieldLink RX0 35 "CatalogueLoader$Catalogue" "guards" "LCatalogueLoader$Grid;", Cond.fieldLink RX0 29 "CatalogueLoader$Catalogue" "fields" "LCatalogueLoader$Grid;", Cond.fieldLink RX0 32 "CatalogueLoader$Catalogue" "sources" "LCatalogueLoader$Grid;", Cond.methodLink RX0 94 yX5_replaces, Cond.instanceMethod yX5_replaces, Cond.selects RX5 yX5_replaces yX5_replaces, Cond.initialized RX5, Cond.code yX5_replaces cX5_replaces 4 (some .boolean), Cond.fieldLink RX5 23 "CatalogueLoader$Settings" "rules" "LCatalogueLoader$Row;", Cond.fieldLink RX5 14 "CatalogueLoader$Settings" "ranks" "LCatalogueLoader$Row;"]
def wsX6_load_r5 : List Cond := [Cond.methodLink RX5 29 yX4_get]
def wsX6_load : List Cond := .code yX6_load cX6_load 3 (some .int) :: ((wsX6_load_r1 ++ (wsX6_load_r2 ++ (wsX6_load_r3 ++ (wsX6_load_r4 ++ wsX6_load_r5)))) ++ wsX60 ++ wsX30 ++ wsX40 ++ wsX20 ++ wsX00 ++ wsX50 ++ wsX10 ++ (vx_atS RX6 85 "java/lang/IllegalStateException" ["java/lang/RuntimeException", "java/lang/Exception"]).filter goodWord ++ (vx_atS RX6 174 "java/lang/IndexOutOfBoundsException" ["java/lang/RuntimeException", "java/lang/Exception"]).filter goodWord)
def wsX6_needRecord : List Cond := .code yX6_needRecord cX6_needRecord 2 none :: ([.classLink RX6 170 "java/lang/IndexOutOfBoundsException", .initialized "java/lang/IndexOutOfBoundsException", .fieldLink RX6 33 "CatalogueLoader" "catalogue" "LCatalogueLoader$Catalogue;", .methodLink RX6 152 yX0_has, .instanceMethod yX0_has, .selects RX0 yX0_has yX0_has, .initialized RX0, .code yX0_has cX0_has 2 (some .boolean), .fieldLink RX0 14 "CatalogueLoader$Catalogue" "there" "LCatalogueLoader$Row;", .methodLink RX0 49 yX4_get, .instanceMethod yX4_get, .selects RX4 yX4_get yX4_get, .initialized RX4, .code yX4_get cX4_get 2 (some .int), .fieldLink RX4 15 "CatalogueLoader$Row" "cells" "[I"] ++ wsX60 ++ wsX00 ++ wsX40 ++ (vx_atS RX6 174 "java/lang/IndexOutOfBoundsException" ["java/lang/RuntimeException", "java/lang/Exception"]).filter goodWord)
def wsX6_needActLeft : List Cond := .code yX6_needActLeft cX6_needActLeft 1 none :: ([.classLink RX6 81 "java/lang/IllegalStateException", .initialized "java/lang/IllegalStateException", .fieldLink RX6 26 "CatalogueLoader" "history" "LCatalogueLoader$History;", .methodLink RX6 181 yX2_acts, .instanceMethod yX2_acts, .selects RX2 yX2_acts yX2_acts, .initialized RX2, .code yX2_acts cX2_acts 1 (some .int), .fieldLink RX2 29 "CatalogueLoader$History" "count" "I", .fieldLink RX2 33 "CatalogueLoader$History" "loadCount" "I"] ++ wsX60 ++ wsX20 ++ (vx_atS RX6 85 "java/lang/IllegalStateException" ["java/lang/RuntimeException", "java/lang/Exception"]).filter goodWord)
def wsX6_protect_r1 : List Cond := [Cond.fieldLink RX6 26 "CatalogueLoader" "history" "LCatalogueLoader$History;", Cond.fieldLink RX6 33 "CatalogueLoader" "catalogue" "LCatalogueLoader$Catalogue;", Cond.methodLink RX6 122 yX6_needRecord, Cond.instanceMethod yX6_needRecord, Cond.selects RX6 yX6_needRecord yX6_needRecord, Cond.initialized RX6, Cond.code yX6_needRecord cX6_needRecord 2 none, Cond.classLink RX6 170 "java/lang/IndexOutOfBoundsException", Cond.initialized "java/lang/IndexOutOfBoundsException", Cond.methodLink RX6 152 yX0_has, Cond.instanceMethod yX0_has, Cond.selects RX0 yX0_has yX0_has, Cond.initialized RX0, Cond.code yX0_has cX0_has 2 (some .boolean), Cond.fieldLink RX0 14 "CatalogueLoader$Catalogue" "there" "LCatalogueLoader$Row;", Cond.methodLink RX0 49 yX4_get, Cond.instanceMethod yX4_get, Cond.selects RX4 yX4_get yX4_get, Cond.initialized RX4, Cond.code yX4_get cX4_get 2 (some .int), Cond.fieldLink RX4 15 "CatalogueLoader$Row" "cells" "[I", Cond.methodLink RX6 40 yX6_needIndex, Cond.static yX6_needIndex, Cond.code yX6_needIndex cX6_needIndex 2 none]
def wsX6_protect_r2 : List Cond := [Cond.methodLink RX6 126 yX6_needActLeft, Cond.instanceMethod yX6_needActLeft, Cond.selects RX6 yX6_needActLeft yX6_needActLeft, Cond.code yX6_needActLeft cX6_needActLeft 1 none, Cond.classLink RX6 81 "java/lang/IllegalStateException", Cond.initialized "java/lang/IllegalStateException", Cond.methodLink RX6 181 yX2_acts, Cond.instanceMethod yX2_acts, Cond.selects RX2 yX2_acts yX2_acts, Cond.initialized RX2, Cond.code yX2_acts cX2_acts 1 (some .int), Cond.fieldLink RX2 29 "CatalogueLoader$History" "count" "I", Cond.fieldLink RX2 33 "CatalogueLoader$History" "loadCount" "I", Cond.methodLink RX6 114 yX2_append, Cond.instanceMethod yX2_append, Cond.selects RX2 yX2_append yX2_append, Cond.code yX2_append cX2_append 5 none, Cond.fieldLink RX2 14 "CatalogueLoader$History" "kinds" "LCatalogueLoader$Row;", Cond.fieldLink RX2 20 "CatalogueLoader$History" "first" "LCatalogueLoader$Row;", Cond.fieldLink RX2 23 "CatalogueLoader$History" "second" "LCatalogueLoader$Row;", Cond.fieldLink RX2 26 "CatalogueLoader$History" "third" "LCatalogueLoader$Row;", Cond.methodLink RX2 36 yX4_set, Cond.instanceMethod yX4_set, Cond.selects RX4 yX4_set yX4_set]
def wsX6_protect_r3 : List Cond := [Cond.code yX4_set cX4_set 3 none, Cond.methodLink RX6 129 yX0_guard, Cond.instanceMethod yX0_guard, Cond.selects RX0 yX0_guard yX0_guard, Cond.code yX0_guard cX0_guard 5 (some .int), Cond.fieldLink RX0 35 "CatalogueLoader$Catalogue" "guards" "LCatalogueLoader$Grid;", Cond.methodLink RX0 53 yX0_has, Cond.methodLink RX0 83 yX1_get, Cond.instanceMethod yX1_get, Cond.selects RX1 yX1_get yX1_get, Cond.initialized RX1, Cond.code yX1_get cX1_get 4 (some .int), Cond.fieldLink RX1 9 "CatalogueLoader$Grid" "lines" "I", Cond.fieldLink RX1 15 "CatalogueLoader$Grid" "columns" "I", Cond.fieldLink RX1 24 "CatalogueLoader$Grid" "cells" "[I", Cond.methodLink RX0 89 yX1_set, Cond.instanceMethod yX1_set, Cond.selects RX1 yX1_set yX1_set, Cond.code yX1_set cX1_set 5 none]
def wsX6_protect : List Cond := .code yX6_protect cX6_protect 5 (some .boolean) :: ((wsX6_protect_r1 ++ (wsX6_protect_r2 ++ wsX6_protect_r3)) ++ wsX60 ++ wsX00 ++ wsX40 ++ wsX20 ++ wsX10 ++ (vx_atS RX6 174 "java/lang/IndexOutOfBoundsException" ["java/lang/RuntimeException", "java/lang/Exception"]).filter goodWord ++ (vx_atS RX6 85 "java/lang/IllegalStateException" ["java/lang/RuntimeException", "java/lang/Exception"]).filter goodWord)
def wsX6_hold_r1 : List Cond := [Cond.fieldLink RX6 26 "CatalogueLoader" "history" "LCatalogueLoader$History;", Cond.fieldLink RX6 33 "CatalogueLoader" "catalogue" "LCatalogueLoader$Catalogue;", Cond.methodLink RX6 122 yX6_needRecord, Cond.instanceMethod yX6_needRecord, Cond.selects RX6 yX6_needRecord yX6_needRecord, Cond.initialized RX6, Cond.code yX6_needRecord cX6_needRecord 2 none, Cond.classLink RX6 170 "java/lang/IndexOutOfBoundsException", Cond.initialized "java/lang/IndexOutOfBoundsException", Cond.methodLink RX6 152 yX0_has, Cond.instanceMethod yX0_has, Cond.selects RX0 yX0_has yX0_has, Cond.initialized RX0, Cond.code yX0_has cX0_has 2 (some .boolean), Cond.fieldLink RX0 14 "CatalogueLoader$Catalogue" "there" "LCatalogueLoader$Row;", Cond.methodLink RX0 49 yX4_get, Cond.instanceMethod yX4_get, Cond.selects RX4 yX4_get yX4_get, Cond.initialized RX4, Cond.code yX4_get cX4_get 2 (some .int), Cond.fieldLink RX4 15 "CatalogueLoader$Row" "cells" "[I", Cond.methodLink RX6 126 yX6_needActLeft, Cond.instanceMethod yX6_needActLeft, Cond.selects RX6 yX6_needActLeft yX6_needActLeft]
def wsX6_hold_r2 : List Cond := [Cond.code yX6_needActLeft cX6_needActLeft 1 none, Cond.classLink RX6 81 "java/lang/IllegalStateException", Cond.initialized "java/lang/IllegalStateException", Cond.methodLink RX6 181 yX2_acts, Cond.instanceMethod yX2_acts, Cond.selects RX2 yX2_acts yX2_acts, Cond.initialized RX2, Cond.code yX2_acts cX2_acts 1 (some .int), Cond.fieldLink RX2 29 "CatalogueLoader$History" "count" "I", Cond.fieldLink RX2 33 "CatalogueLoader$History" "loadCount" "I", Cond.methodLink RX6 114 yX2_append, Cond.instanceMethod yX2_append, Cond.selects RX2 yX2_append yX2_append, Cond.code yX2_append cX2_append 5 none, Cond.fieldLink RX2 14 "CatalogueLoader$History" "kinds" "LCatalogueLoader$Row;", Cond.fieldLink RX2 20 "CatalogueLoader$History" "first" "LCatalogueLoader$Row;", Cond.fieldLink RX2 23 "CatalogueLoader$History" "second" "LCatalogueLoader$Row;", Cond.fieldLink RX2 26 "CatalogueLoader$History" "third" "LCatalogueLoader$Row;", Cond.methodLink RX2 36 yX4_set, Cond.instanceMethod yX4_set, Cond.selects RX4 yX4_set yX4_set, Cond.code yX4_set cX4_set 3 none, Cond.methodLink RX6 133 yX0_addHoldings, Cond.instanceMethod yX0_addHoldings]
def wsX6_hold_r3 : List Cond := [Cond.selects RX0 yX0_addHoldings yX0_addHoldings, Cond.code yX0_addHoldings cX0_addHoldings 3 (some .int), Cond.fieldLink RX0 38 "CatalogueLoader$Catalogue" "held" "LCatalogueLoader$Row;", Cond.methodLink RX0 53 yX0_has, Cond.methodLink RX0 66 yX4_set]
def wsX6_hold : List Cond := .code yX6_hold cX6_hold 2 (some .int) :: ((wsX6_hold_r1 ++ (wsX6_hold_r2 ++ wsX6_hold_r3)) ++ wsX60 ++ wsX00 ++ wsX40 ++ wsX20 ++ (vx_atS RX6 174 "java/lang/IndexOutOfBoundsException" ["java/lang/RuntimeException", "java/lang/Exception"]).filter goodWord ++ (vx_atS RX6 85 "java/lang/IllegalStateException" ["java/lang/RuntimeException", "java/lang/Exception"]).filter goodWord)
def wsX6_merge_r1 : List Cond := [Cond.classLink RX6 67 "java/lang/IllegalArgumentException", Cond.initialized "java/lang/IllegalArgumentException", Cond.fieldLink RX6 26 "CatalogueLoader" "history" "LCatalogueLoader$History;", Cond.fieldLink RX6 33 "CatalogueLoader" "catalogue" "LCatalogueLoader$Catalogue;", Cond.methodLink RX6 122 yX6_needRecord, Cond.instanceMethod yX6_needRecord, Cond.selects RX6 yX6_needRecord yX6_needRecord, Cond.initialized RX6, Cond.code yX6_needRecord cX6_needRecord 2 none, Cond.classLink RX6 170 "java/lang/IndexOutOfBoundsException", Cond.initialized "java/lang/IndexOutOfBoundsException", Cond.methodLink RX6 152 yX0_has, Cond.instanceMethod yX0_has, Cond.selects RX0 yX0_has yX0_has, Cond.initialized RX0, Cond.code yX0_has cX0_has 2 (some .boolean), Cond.fieldLink RX0 14 "CatalogueLoader$Catalogue" "there" "LCatalogueLoader$Row;", Cond.methodLink RX0 49 yX4_get, Cond.instanceMethod yX4_get, Cond.selects RX4 yX4_get yX4_get, Cond.initialized RX4, Cond.code yX4_get cX4_get 2 (some .int), Cond.fieldLink RX4 15 "CatalogueLoader$Row" "cells" "[I", Cond.methodLink RX6 126 yX6_needActLeft]
def wsX6_merge_r2 : List Cond := [Cond.instanceMethod yX6_needActLeft, Cond.selects RX6 yX6_needActLeft yX6_needActLeft, Cond.code yX6_needActLeft cX6_needActLeft 1 none, Cond.classLink RX6 81 "java/lang/IllegalStateException", Cond.initialized "java/lang/IllegalStateException", Cond.methodLink RX6 181 yX2_acts, Cond.instanceMethod yX2_acts, Cond.selects RX2 yX2_acts yX2_acts, Cond.initialized RX2, Cond.code yX2_acts cX2_acts 1 (some .int), Cond.fieldLink RX2 29 "CatalogueLoader$History" "count" "I", Cond.fieldLink RX2 33 "CatalogueLoader$History" "loadCount" "I", Cond.methodLink RX6 114 yX2_append, Cond.instanceMethod yX2_append, Cond.selects RX2 yX2_append yX2_append, Cond.code yX2_append cX2_append 5 none, Cond.fieldLink RX2 14 "CatalogueLoader$History" "kinds" "LCatalogueLoader$Row;", Cond.fieldLink RX2 20 "CatalogueLoader$History" "first" "LCatalogueLoader$Row;", Cond.fieldLink RX2 23 "CatalogueLoader$History" "second" "LCatalogueLoader$Row;", Cond.fieldLink RX2 26 "CatalogueLoader$History" "third" "LCatalogueLoader$Row;", Cond.methodLink RX2 36 yX4_set, Cond.instanceMethod yX4_set, Cond.selects RX4 yX4_set yX4_set, Cond.code yX4_set cX4_set 3 none]
def wsX6_merge_r3 : List Cond := [Cond.methodLink RX6 138 yX0_join, Cond.instanceMethod yX0_join, Cond.selects RX0 yX0_join yX0_join, Cond.code yX0_join cX0_join 4 (some .int), Cond.fieldLink RX0 25 "CatalogueLoader$Catalogue" "keys" "LCatalogueLoader$Grid;", Cond.fieldLink RX0 29 "CatalogueLoader$Catalogue" "fields" "LCatalogueLoader$Grid;", Cond.fieldLink RX0 32 "CatalogueLoader$Catalogue" "sources" "LCatalogueLoader$Grid;", Cond.fieldLink RX0 38 "CatalogueLoader$Catalogue" "held" "LCatalogueLoader$Row;", Cond.methodLink RX0 53 yX0_has, Cond.methodLink RX0 83 yX1_get, Cond.instanceMethod yX1_get, Cond.selects RX1 yX1_get yX1_get, Cond.initialized RX1, Cond.code yX1_get cX1_get 4 (some .int), Cond.fieldLink RX1 9 "CatalogueLoader$Grid" "lines" "I", Cond.fieldLink RX1 15 "CatalogueLoader$Grid" "columns" "I", Cond.fieldLink RX1 24 "CatalogueLoader$Grid" "cells" "[I", Cond.methodLink RX0 89 yX1_set, Cond.instanceMethod yX1_set, Cond.selects RX1 yX1_set yX1_set, Cond.code yX1_set cX1_set 5 none, Cond.methodLink RX0 66 yX4_set, Cond.methodLink RX0 98 yX0_addHoldings, Cond.instanceMethod yX0_addHoldings]
def wsX6_merge_r4 : List Cond := [Cond.selects RX0 yX0_addHoldings yX0_addHoldings, Cond.code yX0_addHoldings cX0_addHoldings 3 (some .int)]
def wsX6_merge : List Cond := .code yX6_merge cX6_merge 3 (some .int) :: ((wsX6_merge_r1 ++ (wsX6_merge_r2 ++ (wsX6_merge_r3 ++ wsX6_merge_r4))) ++ wsX60 ++ wsX00 ++ wsX40 ++ wsX20 ++ wsX10 ++ (vx_atS RX6 71 "java/lang/IllegalArgumentException" ["java/lang/RuntimeException", "java/lang/Exception"]).filter goodWord ++ (vx_atS RX6 174 "java/lang/IndexOutOfBoundsException" ["java/lang/RuntimeException", "java/lang/Exception"]).filter goodWord ++ (vx_atS RX6 85 "java/lang/IllegalStateException" ["java/lang/RuntimeException", "java/lang/Exception"]).filter goodWord)
def wsX6_doStep_r1 : List Cond := [Cond.fieldLink RX6 26 "CatalogueLoader" "history" "LCatalogueLoader$History;", Cond.fieldLink RX6 10 "CatalogueLoader" "settings" "LCatalogueLoader$Settings;", Cond.fieldLink RX6 19 "CatalogueLoader" "taken" "LCatalogueLoader$Loads;", Cond.methodLink RX6 55 yX4_get, Cond.instanceMethod yX4_get, Cond.selects RX4 yX4_get yX4_get, Cond.initialized RX4, Cond.code yX4_get cX4_get 2 (some .int), Cond.fieldLink RX4 15 "CatalogueLoader$Row" "cells" "[I", Cond.methodLink RX6 118 yX0_take, Cond.instanceMethod yX0_take, Cond.selects RX0 yX0_take yX0_take, Cond.initialized RX0, Cond.code yX0_take cX0_take 5 (some .int), Cond.fieldLink RX0 14 "CatalogueLoader$Catalogue" "there" "LCatalogueLoader$Row;", Cond.fieldLink RX0 41 "CatalogueLoader$Catalogue" "hits" "LCatalogueLoader$Row;", Cond.methodLink RX0 57 yX3_isLeftOut, Cond.instanceMethod yX3_isLeftOut, Cond.selects RX3 yX3_isLeftOut yX3_isLeftOut, Cond.initialized RX3, Cond.code yX3_isLeftOut cX3_isLeftOut 2 (some .boolean), Cond.fieldLink RX3 35 "CatalogueLoader$Loads" "undone" "LCatalogueLoader$Row;", Cond.fieldLink RX3 32 "CatalogueLoader$Loads" "batches" "LCatalogueLoader$Row;", Cond.methodLink RX3 48 yX4_get]
def wsX6_doStep_r2 : List Cond := [Cond.methodLink RX0 62 yX0_target, Cond.instanceMethod yX0_target, Cond.selects RX0 yX0_target yX0_target, Cond.code yX0_target cX0_target 7 (some .int), Cond.methodLink RX0 49 yX4_get, Cond.methodLink RX0 83 yX1_get, Cond.instanceMethod yX1_get, Cond.selects RX1 yX1_get yX1_get, Cond.initialized RX1, Cond.code yX1_get cX1_get 4 (some .int), Cond.fieldLink RX1 9 "CatalogueLoader$Grid" "lines" "I", Cond.fieldLink RX1 15 "CatalogueLoader$Grid" "columns" "I", Cond.fieldLink RX1 24 "CatalogueLoader$Grid" "cells" "[I", Cond.methodLink RX0 86 yX0_find, Cond.instanceMethod yX0_find, Cond.selects RX0 yX0_find yX0_find, Cond.code yX0_find cX0_find 5 (some .int), Cond.fieldLink RX0 25 "CatalogueLoader$Catalogue" "keys" "LCatalogueLoader$Grid;", Cond.methodLink RX0 66 yX4_set, Cond.instanceMethod yX4_set, Cond.selects RX4 yX4_set yX4_set, Cond.code yX4_set cX4_set 3 none, Cond.methodLink RX0 69 yX0_layKeys, Cond.instanceMethod yX0_layKeys]
def wsX6_doStep_r3 : List Cond := [Cond.selects RX0 yX0_layKeys yX0_layKeys, Cond.code yX0_layKeys cX0_layKeys 5 none, Cond.methodLink RX0 89 yX1_set, Cond.instanceMethod yX1_set, Cond.selects RX1 yX1_set yX1_set, Cond.code yX1_set cX1_set 5 none, Cond.methodLink RX0 73 yX0_layFields, Cond.instanceMethod yX0_layFields, Cond.selects RX0 yX0_layFields yX0_layFields, Cond.code yX0_layFields cX0_layFields 8 none, Cond.fieldLink RX0 35 "CatalogueLoader$Catalogue" "guards" "LCatalogueLoader$Grid;", Cond.fieldLink RX0 29 "CatalogueLoader$Catalogue" "fields" "LCatalogueLoader$Grid;", Cond.fieldLink RX0 32 "CatalogueLoader$Catalogue" "sources" "LCatalogueLoader$Grid;", Cond.methodLink RX0 94 yX5_replaces, Cond.instanceMethod yX5_replaces, Cond.selects RX5 yX5_replaces yX5_replaces, Cond.initialized RX5, Cond.code yX5_replaces cX5_replaces 4 (some .boolean), Cond.fieldLink RX5 23 "CatalogueLoader$Settings" "rules" "LCatalogueLoader$Row;", Cond.fieldLink RX5 14 "CatalogueLoader$Settings" "ranks" "LCatalogueLoader$Row;", Cond.methodLink RX5 29 yX4_get, Cond.methodLink RX6 129 yX0_guard, Cond.instanceMethod yX0_guard, Cond.selects RX0 yX0_guard yX0_guard]
def wsX6_doStep_r4 : List Cond := [Cond.code yX0_guard cX0_guard 5 (some .int), Cond.methodLink RX0 53 yX0_has, Cond.instanceMethod yX0_has, Cond.selects RX0 yX0_has yX0_has, Cond.code yX0_has cX0_has 2 (some .boolean), Cond.methodLink RX6 133 yX0_addHoldings, Cond.instanceMethod yX0_addHoldings, Cond.selects RX0 yX0_addHoldings yX0_addHoldings, Cond.code yX0_addHoldings cX0_addHoldings 3 (some .int), Cond.fieldLink RX0 38 "CatalogueLoader$Catalogue" "held" "LCatalogueLoader$Row;", Cond.methodLink RX6 138 yX0_join, Cond.instanceMethod yX0_join, Cond.selects RX0 yX0_join yX0_join, Cond.code yX0_join cX0_join 4 (some .int), Cond.methodLink RX0 98 yX0_addHoldings]
def wsX6_doStep : List Cond := .code yX6_doStep cX6_doStep 5 none :: ((wsX6_doStep_r1 ++ (wsX6_doStep_r2 ++ (wsX6_doStep_r3 ++ wsX6_doStep_r4))) ++ wsX60 ++ wsX20 ++ wsX40 ++ wsX00 ++ wsX30 ++ wsX50 ++ wsX10)
def wsX6_doAllAnew_r1 : List Cond := [Cond.fieldLink RX6 26 "CatalogueLoader" "history" "LCatalogueLoader$History;", Cond.methodLink RX6 186 yX0_clear, Cond.instanceMethod yX0_clear, Cond.selects RX0 yX0_clear yX0_clear, Cond.initialized RX0, Cond.code yX0_clear cX0_clear 1 none, Cond.fieldLink RX0 14 "CatalogueLoader$Catalogue" "there" "LCatalogueLoader$Row;", Cond.fieldLink RX0 25 "CatalogueLoader$Catalogue" "keys" "LCatalogueLoader$Grid;", Cond.fieldLink RX0 29 "CatalogueLoader$Catalogue" "fields" "LCatalogueLoader$Grid;", Cond.fieldLink RX0 32 "CatalogueLoader$Catalogue" "sources" "LCatalogueLoader$Grid;", Cond.fieldLink RX0 35 "CatalogueLoader$Catalogue" "guards" "LCatalogueLoader$Grid;", Cond.fieldLink RX0 38 "CatalogueLoader$Catalogue" "held" "LCatalogueLoader$Row;", Cond.fieldLink RX0 41 "CatalogueLoader$Catalogue" "hits" "LCatalogueLoader$Row;", Cond.methodLink RX0 44 yX4_fill, Cond.instanceMethod yX4_fill, Cond.selects RX4 yX4_fill yX4_fill, Cond.initialized RX4, Cond.code yX4_fill cX4_fill 2 none, Cond.fieldLink RX4 15 "CatalogueLoader$Row" "cells" "[I", Cond.methodLink RX4 21 yJ7_fill_53178, Cond.static yJ7_fill_53178, Cond.initialized RJ7, Cond.code yJ7_fill_53178 cJ7_fill_53178 4 none, Cond.methodLink RX0 48 yX1_fill]
def wsX6_doAllAnew_r2 : List Cond := [Cond.instanceMethod yX1_fill, Cond.selects RX1 yX1_fill yX1_fill, Cond.initialized RX1, Cond.code yX1_fill cX1_fill 2 none, Cond.fieldLink RX1 24 "CatalogueLoader$Grid" "cells" "[I", Cond.methodLink RX1 28 yJ7_fill_53178, Cond.methodLink RX6 190 yX6_doStep, Cond.instanceMethod yX6_doStep, Cond.selects RX6 yX6_doStep yX6_doStep, Cond.initialized RX6, Cond.code yX6_doStep cX6_doStep 5 none, Cond.fieldLink RX6 10 "CatalogueLoader" "settings" "LCatalogueLoader$Settings;", Cond.fieldLink RX6 19 "CatalogueLoader" "taken" "LCatalogueLoader$Loads;", Cond.methodLink RX6 55 yX4_get, Cond.instanceMethod yX4_get, Cond.selects RX4 yX4_get yX4_get, Cond.code yX4_get cX4_get 2 (some .int), Cond.methodLink RX6 118 yX0_take, Cond.instanceMethod yX0_take, Cond.selects RX0 yX0_take yX0_take, Cond.code yX0_take cX0_take 5 (some .int), Cond.methodLink RX0 57 yX3_isLeftOut, Cond.instanceMethod yX3_isLeftOut, Cond.selects RX3 yX3_isLeftOut yX3_isLeftOut]
def wsX6_doAllAnew_r3 : List Cond := [Cond.initialized RX3, Cond.code yX3_isLeftOut cX3_isLeftOut 2 (some .boolean), Cond.fieldLink RX3 35 "CatalogueLoader$Loads" "undone" "LCatalogueLoader$Row;", Cond.fieldLink RX3 32 "CatalogueLoader$Loads" "batches" "LCatalogueLoader$Row;", Cond.methodLink RX3 48 yX4_get, Cond.methodLink RX0 62 yX0_target, Cond.instanceMethod yX0_target, Cond.selects RX0 yX0_target yX0_target, Cond.code yX0_target cX0_target 7 (some .int), Cond.methodLink RX0 49 yX4_get, Cond.methodLink RX0 83 yX1_get, Cond.instanceMethod yX1_get, Cond.selects RX1 yX1_get yX1_get, Cond.code yX1_get cX1_get 4 (some .int), Cond.fieldLink RX1 9 "CatalogueLoader$Grid" "lines" "I", Cond.fieldLink RX1 15 "CatalogueLoader$Grid" "columns" "I", Cond.methodLink RX0 86 yX0_find, Cond.instanceMethod yX0_find, Cond.selects RX0 yX0_find yX0_find, Cond.code yX0_find cX0_find 5 (some .int), Cond.methodLink RX0 66 yX4_set, Cond.instanceMethod yX4_set, Cond.selects RX4 yX4_set yX4_set, Cond.code yX4_set cX4_set 3 none]
def wsX6_doAllAnew_r4 : List Cond := [Cond.methodLink RX0 69 yX0_layKeys, Cond.instanceMethod yX0_layKeys, Cond.selects RX0 yX0_layKeys yX0_layKeys, Cond.code yX0_layKeys cX0_layKeys 5 none, Cond.methodLink RX0 89 yX1_set, Cond.instanceMethod yX1_set, Cond.selects RX1 yX1_set yX1_set, Cond.code yX1_set cX1_set 5 none, Cond.methodLink RX0 73 yX0_layFields, Cond.instanceMethod yX0_layFields, Cond.selects RX0 yX0_layFields yX0_layFields, Cond.code yX0_layFields cX0_layFields 8 none, Cond.methodLink RX0 94 yX5_replaces, Cond.instanceMethod yX5_replaces, Cond.selects RX5 yX5_replaces yX5_replaces, Cond.initialized RX5, Cond.code yX5_replaces cX5_replaces 4 (some .boolean), Cond.fieldLink RX5 23 "CatalogueLoader$Settings" "rules" "LCatalogueLoader$Row;", Cond.fieldLink RX5 14 "CatalogueLoader$Settings" "ranks" "LCatalogueLoader$Row;", Cond.methodLink RX5 29 yX4_get, Cond.methodLink RX6 129 yX0_guard, Cond.instanceMethod yX0_guard, Cond.selects RX0 yX0_guard yX0_guard, Cond.code yX0_guard cX0_guard 5 (some .int)]
def wsX6_doAllAnew_r5 : List Cond := [Cond.methodLink RX0 53 yX0_has, Cond.instanceMethod yX0_has, Cond.selects RX0 yX0_has yX0_has, Cond.code yX0_has cX0_has 2 (some .boolean), Cond.methodLink RX6 133 yX0_addHoldings, Cond.instanceMethod yX0_addHoldings, Cond.selects RX0 yX0_addHoldings yX0_addHoldings, Cond.code yX0_addHoldings cX0_addHoldings 3 (some .int), Cond.methodLink RX6 138 yX0_join, Cond.instanceMethod yX0_join, Cond.selects RX0 yX0_join yX0_join, Cond.code yX0_join cX0_join 4 (some .int), Cond.methodLink RX0 98 yX0_addHoldings]
def wsX6_doAllAnew : List Cond := .code yX6_doAllAnew cX6_doAllAnew 3 none :: ((wsX6_doAllAnew_r1 ++ (wsX6_doAllAnew_r2 ++ (wsX6_doAllAnew_r3 ++ (wsX6_doAllAnew_r4 ++ wsX6_doAllAnew_r5)))) ++ wsX60 ++ wsX20 ++ wsX00 ++ wsX40 ++ wsX10 ++ wsX30 ++ wsX50)
def wsX6_undo_r1 : List Cond := [Cond.classLink RX6 81 "java/lang/IllegalStateException", Cond.initialized "java/lang/IllegalStateException", Cond.fieldLink RX6 19 "CatalogueLoader" "taken" "LCatalogueLoader$Loads;", Cond.fieldLink RX6 33 "CatalogueLoader" "catalogue" "LCatalogueLoader$Catalogue;", Cond.methodLink RX6 40 yX6_needIndex, Cond.static yX6_needIndex, Cond.initialized RX6, Cond.code yX6_needIndex cX6_needIndex 2 none, Cond.classLink RX6 170 "java/lang/IndexOutOfBoundsException", Cond.initialized "java/lang/IndexOutOfBoundsException", Cond.methodLink RX6 55 yX4_get, Cond.instanceMethod yX4_get, Cond.selects RX4 yX4_get yX4_get, Cond.initialized RX4, Cond.code yX4_get cX4_get 2 (some .int), Cond.fieldLink RX4 15 "CatalogueLoader$Row" "cells" "[I", Cond.methodLink RX6 61 yX4_set, Cond.instanceMethod yX4_set, Cond.selects RX4 yX4_set yX4_set, Cond.code yX4_set cX4_set 3 none, Cond.methodLink RX6 146 yX6_doAllAnew, Cond.instanceMethod yX6_doAllAnew, Cond.selects RX6 yX6_doAllAnew yX6_doAllAnew, Cond.code yX6_doAllAnew cX6_doAllAnew 3 none]
def wsX6_undo_r2 : List Cond := [Cond.fieldLink RX6 26 "CatalogueLoader" "history" "LCatalogueLoader$History;", Cond.methodLink RX6 186 yX0_clear, Cond.instanceMethod yX0_clear, Cond.selects RX0 yX0_clear yX0_clear, Cond.initialized RX0, Cond.code yX0_clear cX0_clear 1 none, Cond.fieldLink RX0 14 "CatalogueLoader$Catalogue" "there" "LCatalogueLoader$Row;", Cond.fieldLink RX0 25 "CatalogueLoader$Catalogue" "keys" "LCatalogueLoader$Grid;", Cond.fieldLink RX0 29 "CatalogueLoader$Catalogue" "fields" "LCatalogueLoader$Grid;", Cond.fieldLink RX0 32 "CatalogueLoader$Catalogue" "sources" "LCatalogueLoader$Grid;", Cond.fieldLink RX0 35 "CatalogueLoader$Catalogue" "guards" "LCatalogueLoader$Grid;", Cond.fieldLink RX0 38 "CatalogueLoader$Catalogue" "held" "LCatalogueLoader$Row;", Cond.fieldLink RX0 41 "CatalogueLoader$Catalogue" "hits" "LCatalogueLoader$Row;", Cond.methodLink RX0 44 yX4_fill, Cond.instanceMethod yX4_fill, Cond.selects RX4 yX4_fill yX4_fill, Cond.code yX4_fill cX4_fill 2 none, Cond.methodLink RX4 21 yJ7_fill_53178, Cond.static yJ7_fill_53178, Cond.initialized RJ7, Cond.code yJ7_fill_53178 cJ7_fill_53178 4 none, Cond.methodLink RX0 48 yX1_fill, Cond.instanceMethod yX1_fill, Cond.selects RX1 yX1_fill yX1_fill]
def wsX6_undo_r3 : List Cond := [Cond.initialized RX1, Cond.code yX1_fill cX1_fill 2 none, Cond.fieldLink RX1 24 "CatalogueLoader$Grid" "cells" "[I", Cond.methodLink RX1 28 yJ7_fill_53178, Cond.methodLink RX6 190 yX6_doStep, Cond.instanceMethod yX6_doStep, Cond.selects RX6 yX6_doStep yX6_doStep, Cond.code yX6_doStep cX6_doStep 5 none, Cond.fieldLink RX6 10 "CatalogueLoader" "settings" "LCatalogueLoader$Settings;", Cond.methodLink RX6 118 yX0_take, Cond.instanceMethod yX0_take, Cond.selects RX0 yX0_take yX0_take, Cond.code yX0_take cX0_take 5 (some .int), Cond.methodLink RX0 57 yX3_isLeftOut, Cond.instanceMethod yX3_isLeftOut, Cond.selects RX3 yX3_isLeftOut yX3_isLeftOut, Cond.initialized RX3, Cond.code yX3_isLeftOut cX3_isLeftOut 2 (some .boolean), Cond.fieldLink RX3 35 "CatalogueLoader$Loads" "undone" "LCatalogueLoader$Row;", Cond.fieldLink RX3 32 "CatalogueLoader$Loads" "batches" "LCatalogueLoader$Row;", Cond.methodLink RX3 48 yX4_get, Cond.methodLink RX0 62 yX0_target, Cond.instanceMethod yX0_target, Cond.selects RX0 yX0_target yX0_target]
def wsX6_undo_r4 : List Cond := [Cond.code yX0_target cX0_target 7 (some .int), Cond.methodLink RX0 49 yX4_get, Cond.methodLink RX0 83 yX1_get, Cond.instanceMethod yX1_get, Cond.selects RX1 yX1_get yX1_get, Cond.code yX1_get cX1_get 4 (some .int), Cond.fieldLink RX1 9 "CatalogueLoader$Grid" "lines" "I", Cond.fieldLink RX1 15 "CatalogueLoader$Grid" "columns" "I", Cond.methodLink RX0 86 yX0_find, Cond.instanceMethod yX0_find, Cond.selects RX0 yX0_find yX0_find, Cond.code yX0_find cX0_find 5 (some .int), Cond.methodLink RX0 66 yX4_set, Cond.methodLink RX0 69 yX0_layKeys, Cond.instanceMethod yX0_layKeys, Cond.selects RX0 yX0_layKeys yX0_layKeys, Cond.code yX0_layKeys cX0_layKeys 5 none, Cond.methodLink RX0 89 yX1_set, Cond.instanceMethod yX1_set, Cond.selects RX1 yX1_set yX1_set, Cond.code yX1_set cX1_set 5 none, Cond.methodLink RX0 73 yX0_layFields, Cond.instanceMethod yX0_layFields, Cond.selects RX0 yX0_layFields yX0_layFields]
def wsX6_undo_r5 : List Cond := [Cond.code yX0_layFields cX0_layFields 8 none, Cond.methodLink RX0 94 yX5_replaces, Cond.instanceMethod yX5_replaces, Cond.selects RX5 yX5_replaces yX5_replaces, Cond.initialized RX5, Cond.code yX5_replaces cX5_replaces 4 (some .boolean), Cond.fieldLink RX5 23 "CatalogueLoader$Settings" "rules" "LCatalogueLoader$Row;", Cond.fieldLink RX5 14 "CatalogueLoader$Settings" "ranks" "LCatalogueLoader$Row;", Cond.methodLink RX5 29 yX4_get, Cond.methodLink RX6 129 yX0_guard, Cond.instanceMethod yX0_guard, Cond.selects RX0 yX0_guard yX0_guard, Cond.code yX0_guard cX0_guard 5 (some .int), Cond.methodLink RX0 53 yX0_has, Cond.instanceMethod yX0_has, Cond.selects RX0 yX0_has yX0_has, Cond.code yX0_has cX0_has 2 (some .boolean), Cond.methodLink RX6 133 yX0_addHoldings, Cond.instanceMethod yX0_addHoldings, Cond.selects RX0 yX0_addHoldings yX0_addHoldings, Cond.code yX0_addHoldings cX0_addHoldings 3 (some .int), Cond.methodLink RX6 138 yX0_join, Cond.instanceMethod yX0_join, Cond.selects RX0 yX0_join yX0_join]
def wsX6_undo_r6 : List Cond := [Cond.code yX0_join cX0_join 4 (some .int), Cond.methodLink RX0 98 yX0_addHoldings, Cond.methodLink RX6 150 yX0_count, Cond.instanceMethod yX0_count, Cond.selects RX0 yX0_count yX0_count, Cond.code yX0_count cX0_count 3 (some .int)]
def wsX6_undo : List Cond := .code yX6_undo cX6_undo 4 (some .int) :: ((wsX6_undo_r1 ++ (wsX6_undo_r2 ++ (wsX6_undo_r3 ++ (wsX6_undo_r4 ++ (wsX6_undo_r5 ++ wsX6_undo_r6))))) ++ wsX60 ++ wsX30 ++ wsX40 ++ wsX20 ++ wsX00 ++ wsX10 ++ wsX50 ++ (vx_atS RX6 85 "java/lang/IllegalStateException" ["java/lang/RuntimeException", "java/lang/Exception"]).filter goodWord ++ (vx_atS RX6 174 "java/lang/IndexOutOfBoundsException" ["java/lang/RuntimeException", "java/lang/Exception"]).filter goodWord)
def wsX6_batches : List Cond := .code yX6_batches cX6_batches 1 (some .int) :: ([.fieldLink RX6 19 "CatalogueLoader" "taken" "LCatalogueLoader$Loads;"] ++ wsX60 ++ wsX30)
def wsX6_loads : List Cond := .code yX6_loads cX6_loads 1 (some .int) :: ([.fieldLink RX6 19 "CatalogueLoader" "taken" "LCatalogueLoader$Loads;"] ++ wsX60 ++ wsX30)
def wsX6_records : List Cond := .code yX6_records cX6_records 1 (some .int) :: ([.fieldLink RX6 33 "CatalogueLoader" "catalogue" "LCatalogueLoader$Catalogue;", .methodLink RX6 150 yX0_count, .instanceMethod yX0_count, .selects RX0 yX0_count yX0_count, .initialized RX0, .code yX0_count cX0_count 3 (some .int), .methodLink RX0 53 yX0_has, .instanceMethod yX0_has, .selects RX0 yX0_has yX0_has, .code yX0_has cX0_has 2 (some .boolean), .fieldLink RX0 14 "CatalogueLoader$Catalogue" "there" "LCatalogueLoader$Row;", .methodLink RX0 49 yX4_get, .instanceMethod yX4_get, .selects RX4 yX4_get yX4_get, .initialized RX4, .code yX4_get cX4_get 2 (some .int), .fieldLink RX4 15 "CatalogueLoader$Row" "cells" "[I"] ++ wsX60 ++ wsX00 ++ wsX40)
def wsX6_isUndone : List Cond := .code yX6_isUndone cX6_isUndone 2 (some .boolean) :: ([.fieldLink RX6 19 "CatalogueLoader" "taken" "LCatalogueLoader$Loads;", .methodLink RX6 40 yX6_needIndex, .static yX6_needIndex, .initialized RX6, .code yX6_needIndex cX6_needIndex 2 none, .classLink RX6 170 "java/lang/IndexOutOfBoundsException", .initialized "java/lang/IndexOutOfBoundsException", .methodLink RX6 55 yX4_get, .instanceMethod yX4_get, .selects RX4 yX4_get yX4_get, .initialized RX4, .code yX4_get cX4_get 2 (some .int), .fieldLink RX4 15 "CatalogueLoader$Row" "cells" "[I"] ++ wsX60 ++ wsX30 ++ wsX40 ++ (vx_atS RX6 174 "java/lang/IndexOutOfBoundsException" ["java/lang/RuntimeException", "java/lang/Exception"]).filter goodWord)
def wsX6_isThere : List Cond := .code yX6_isThere cX6_isThere 2 (some .boolean) :: ([.fieldLink RX6 33 "CatalogueLoader" "catalogue" "LCatalogueLoader$Catalogue;", .methodLink RX6 152 yX0_has, .instanceMethod yX0_has, .selects RX0 yX0_has yX0_has, .initialized RX0, .code yX0_has cX0_has 2 (some .boolean), .fieldLink RX0 14 "CatalogueLoader$Catalogue" "there" "LCatalogueLoader$Row;", .methodLink RX0 49 yX4_get, .instanceMethod yX4_get, .selects RX4 yX4_get yX4_get, .initialized RX4, .code yX4_get cX4_get 2 (some .int), .fieldLink RX4 15 "CatalogueLoader$Row" "cells" "[I"] ++ wsX60 ++ wsX00 ++ wsX40)
def wsX6_hit : List Cond := .code yX6_hit cX6_hit 2 (some .int) :: ([.fieldLink RX6 19 "CatalogueLoader" "taken" "LCatalogueLoader$Loads;", .fieldLink RX6 33 "CatalogueLoader" "catalogue" "LCatalogueLoader$Catalogue;", .methodLink RX6 40 yX6_needIndex, .static yX6_needIndex, .initialized RX6, .code yX6_needIndex cX6_needIndex 2 none, .classLink RX6 170 "java/lang/IndexOutOfBoundsException", .initialized "java/lang/IndexOutOfBoundsException", .methodLink RX6 55 yX4_get, .instanceMethod yX4_get, .selects RX4 yX4_get yX4_get, .initialized RX4, .code yX4_get cX4_get 2 (some .int), .fieldLink RX4 15 "CatalogueLoader$Row" "cells" "[I"] ++ wsX60 ++ wsX30 ++ wsX00 ++ wsX40 ++ (vx_atS RX6 174 "java/lang/IndexOutOfBoundsException" ["java/lang/RuntimeException", "java/lang/Exception"]).filter goodWord)
def wsX6_keyOf_r1 : List Cond := [Cond.fieldLink RX6 33 "CatalogueLoader" "catalogue" "LCatalogueLoader$Catalogue;", Cond.methodLink RX6 122 yX6_needRecord, Cond.instanceMethod yX6_needRecord, Cond.selects RX6 yX6_needRecord yX6_needRecord, Cond.initialized RX6, Cond.code yX6_needRecord cX6_needRecord 2 none, Cond.classLink RX6 170 "java/lang/IndexOutOfBoundsException", Cond.initialized "java/lang/IndexOutOfBoundsException", Cond.methodLink RX6 152 yX0_has, Cond.instanceMethod yX0_has, Cond.selects RX0 yX0_has yX0_has, Cond.initialized RX0, Cond.code yX0_has cX0_has 2 (some .boolean), Cond.fieldLink RX0 14 "CatalogueLoader$Catalogue" "there" "LCatalogueLoader$Row;", Cond.methodLink RX0 49 yX4_get, Cond.instanceMethod yX4_get, Cond.selects RX4 yX4_get yX4_get, Cond.initialized RX4, Cond.code yX4_get cX4_get 2 (some .int), Cond.fieldLink RX4 15 "CatalogueLoader$Row" "cells" "[I", Cond.methodLink RX6 40 yX6_needIndex, Cond.static yX6_needIndex, Cond.code yX6_needIndex cX6_needIndex 2 none, Cond.methodLink RX6 97 yX1_get]
def wsX6_keyOf_r2 : List Cond := [Cond.instanceMethod yX1_get, Cond.selects RX1 yX1_get yX1_get, Cond.initialized RX1, Cond.code yX1_get cX1_get 4 (some .int), Cond.fieldLink RX1 9 "CatalogueLoader$Grid" "lines" "I", Cond.fieldLink RX1 15 "CatalogueLoader$Grid" "columns" "I", Cond.fieldLink RX1 24 "CatalogueLoader$Grid" "cells" "[I"]
def wsX6_keyOf : List Cond := .code yX6_keyOf cX6_keyOf 3 (some .int) :: ((wsX6_keyOf_r1 ++ wsX6_keyOf_r2) ++ wsX60 ++ wsX00 ++ wsX40 ++ wsX10 ++ (vx_atS RX6 174 "java/lang/IndexOutOfBoundsException" ["java/lang/RuntimeException", "java/lang/Exception"]).filter goodWord)
def wsX6_fieldOf_r1 : List Cond := [Cond.fieldLink RX6 33 "CatalogueLoader" "catalogue" "LCatalogueLoader$Catalogue;", Cond.methodLink RX6 122 yX6_needRecord, Cond.instanceMethod yX6_needRecord, Cond.selects RX6 yX6_needRecord yX6_needRecord, Cond.initialized RX6, Cond.code yX6_needRecord cX6_needRecord 2 none, Cond.classLink RX6 170 "java/lang/IndexOutOfBoundsException", Cond.initialized "java/lang/IndexOutOfBoundsException", Cond.methodLink RX6 152 yX0_has, Cond.instanceMethod yX0_has, Cond.selects RX0 yX0_has yX0_has, Cond.initialized RX0, Cond.code yX0_has cX0_has 2 (some .boolean), Cond.fieldLink RX0 14 "CatalogueLoader$Catalogue" "there" "LCatalogueLoader$Row;", Cond.methodLink RX0 49 yX4_get, Cond.instanceMethod yX4_get, Cond.selects RX4 yX4_get yX4_get, Cond.initialized RX4, Cond.code yX4_get cX4_get 2 (some .int), Cond.fieldLink RX4 15 "CatalogueLoader$Row" "cells" "[I", Cond.methodLink RX6 40 yX6_needIndex, Cond.static yX6_needIndex, Cond.code yX6_needIndex cX6_needIndex 2 none, Cond.methodLink RX6 97 yX1_get]
def wsX6_fieldOf_r2 : List Cond := [Cond.instanceMethod yX1_get, Cond.selects RX1 yX1_get yX1_get, Cond.initialized RX1, Cond.code yX1_get cX1_get 4 (some .int), Cond.fieldLink RX1 9 "CatalogueLoader$Grid" "lines" "I", Cond.fieldLink RX1 15 "CatalogueLoader$Grid" "columns" "I", Cond.fieldLink RX1 24 "CatalogueLoader$Grid" "cells" "[I"]
def wsX6_fieldOf : List Cond := .code yX6_fieldOf cX6_fieldOf 3 (some .int) :: ((wsX6_fieldOf_r1 ++ wsX6_fieldOf_r2) ++ wsX60 ++ wsX00 ++ wsX40 ++ wsX10 ++ (vx_atS RX6 174 "java/lang/IndexOutOfBoundsException" ["java/lang/RuntimeException", "java/lang/Exception"]).filter goodWord)
def wsX6_sourceOf_r1 : List Cond := [Cond.fieldLink RX6 33 "CatalogueLoader" "catalogue" "LCatalogueLoader$Catalogue;", Cond.methodLink RX6 122 yX6_needRecord, Cond.instanceMethod yX6_needRecord, Cond.selects RX6 yX6_needRecord yX6_needRecord, Cond.initialized RX6, Cond.code yX6_needRecord cX6_needRecord 2 none, Cond.classLink RX6 170 "java/lang/IndexOutOfBoundsException", Cond.initialized "java/lang/IndexOutOfBoundsException", Cond.methodLink RX6 152 yX0_has, Cond.instanceMethod yX0_has, Cond.selects RX0 yX0_has yX0_has, Cond.initialized RX0, Cond.code yX0_has cX0_has 2 (some .boolean), Cond.fieldLink RX0 14 "CatalogueLoader$Catalogue" "there" "LCatalogueLoader$Row;", Cond.methodLink RX0 49 yX4_get, Cond.instanceMethod yX4_get, Cond.selects RX4 yX4_get yX4_get, Cond.initialized RX4, Cond.code yX4_get cX4_get 2 (some .int), Cond.fieldLink RX4 15 "CatalogueLoader$Row" "cells" "[I", Cond.methodLink RX6 40 yX6_needIndex, Cond.static yX6_needIndex, Cond.code yX6_needIndex cX6_needIndex 2 none, Cond.methodLink RX6 97 yX1_get]
def wsX6_sourceOf_r2 : List Cond := [Cond.instanceMethod yX1_get, Cond.selects RX1 yX1_get yX1_get, Cond.initialized RX1, Cond.code yX1_get cX1_get 4 (some .int), Cond.fieldLink RX1 9 "CatalogueLoader$Grid" "lines" "I", Cond.fieldLink RX1 15 "CatalogueLoader$Grid" "columns" "I", Cond.fieldLink RX1 24 "CatalogueLoader$Grid" "cells" "[I"]
def wsX6_sourceOf : List Cond := .code yX6_sourceOf cX6_sourceOf 3 (some .int) :: ((wsX6_sourceOf_r1 ++ wsX6_sourceOf_r2) ++ wsX60 ++ wsX00 ++ wsX40 ++ wsX10 ++ (vx_atS RX6 174 "java/lang/IndexOutOfBoundsException" ["java/lang/RuntimeException", "java/lang/Exception"]).filter goodWord)
def wsX6_holdings : List Cond := .code yX6_holdings cX6_holdings 2 (some .int) :: ([.fieldLink RX6 33 "CatalogueLoader" "catalogue" "LCatalogueLoader$Catalogue;", .methodLink RX6 122 yX6_needRecord, .instanceMethod yX6_needRecord, .selects RX6 yX6_needRecord yX6_needRecord, .initialized RX6, .code yX6_needRecord cX6_needRecord 2 none, .classLink RX6 170 "java/lang/IndexOutOfBoundsException", .initialized "java/lang/IndexOutOfBoundsException", .methodLink RX6 152 yX0_has, .instanceMethod yX0_has, .selects RX0 yX0_has yX0_has, .initialized RX0, .code yX0_has cX0_has 2 (some .boolean), .fieldLink RX0 14 "CatalogueLoader$Catalogue" "there" "LCatalogueLoader$Row;", .methodLink RX0 49 yX4_get, .instanceMethod yX4_get, .selects RX4 yX4_get yX4_get, .initialized RX4, .code yX4_get cX4_get 2 (some .int), .fieldLink RX4 15 "CatalogueLoader$Row" "cells" "[I", .methodLink RX6 55 yX4_get] ++ wsX60 ++ wsX00 ++ wsX40 ++ (vx_atS RX6 174 "java/lang/IndexOutOfBoundsException" ["java/lang/RuntimeException", "java/lang/Exception"]).filter goodWord)
def wsX6_digest_r1 : List Cond := [Cond.fieldLink RX6 33 "CatalogueLoader" "catalogue" "LCatalogueLoader$Catalogue;", Cond.methodLink RX6 167 yX0_sum, Cond.instanceMethod yX0_sum, Cond.selects RX0 yX0_sum yX0_sum, Cond.initialized RX0, Cond.code yX0_sum cX0_sum 3 (some .int), Cond.fieldLink RX0 38 "CatalogueLoader$Catalogue" "held" "LCatalogueLoader$Row;", Cond.methodLink RX0 53 yX0_has, Cond.instanceMethod yX0_has, Cond.selects RX0 yX0_has yX0_has, Cond.code yX0_has cX0_has 2 (some .boolean), Cond.fieldLink RX0 14 "CatalogueLoader$Catalogue" "there" "LCatalogueLoader$Row;", Cond.methodLink RX0 49 yX4_get, Cond.instanceMethod yX4_get, Cond.selects RX4 yX4_get yX4_get, Cond.initialized RX4, Cond.code yX4_get cX4_get 2 (some .int), Cond.fieldLink RX4 15 "CatalogueLoader$Row" "cells" "[I", Cond.methodLink RX0 101 yX0_values, Cond.instanceMethod yX0_values, Cond.selects RX0 yX0_values yX0_values, Cond.code yX0_values cX0_values 4 (some .int), Cond.fieldLink RX0 25 "CatalogueLoader$Catalogue" "keys" "LCatalogueLoader$Grid;", Cond.methodLink RX0 104 Lib.Math.max.name]
def wsX6_digest_r2 : List Cond := [Cond.static Lib.Math.max.name, Cond.initialized "java/lang/Math", Cond.code Lib.Math.max.name Lib.Math.max.code 2 (some .int), Cond.fieldLink RX0 29 "CatalogueLoader$Catalogue" "fields" "LCatalogueLoader$Grid;", Cond.methodLink RX0 83 yX1_get, Cond.instanceMethod yX1_get, Cond.selects RX1 yX1_get yX1_get, Cond.initialized RX1, Cond.code yX1_get cX1_get 4 (some .int), Cond.fieldLink RX1 9 "CatalogueLoader$Grid" "lines" "I", Cond.fieldLink RX1 15 "CatalogueLoader$Grid" "columns" "I", Cond.fieldLink RX1 24 "CatalogueLoader$Grid" "cells" "[I"]
def wsX6_digest : List Cond := .code yX6_digest cX6_digest 1 (some .int) :: ((wsX6_digest_r1 ++ wsX6_digest_r2) ++ wsX60 ++ wsX00 ++ wsX40 ++ wsX10)
def wsX6_digestAnew_r1 : List Cond := [Cond.fieldLink RX6 37 "CatalogueLoader" "catalogueAnew" "LCatalogueLoader$Catalogue;", Cond.methodLink RX6 146 yX6_doAllAnew, Cond.instanceMethod yX6_doAllAnew, Cond.selects RX6 yX6_doAllAnew yX6_doAllAnew, Cond.initialized RX6, Cond.code yX6_doAllAnew cX6_doAllAnew 3 none, Cond.fieldLink RX6 26 "CatalogueLoader" "history" "LCatalogueLoader$History;", Cond.methodLink RX6 186 yX0_clear, Cond.instanceMethod yX0_clear, Cond.selects RX0 yX0_clear yX0_clear, Cond.initialized RX0, Cond.code yX0_clear cX0_clear 1 none, Cond.fieldLink RX0 14 "CatalogueLoader$Catalogue" "there" "LCatalogueLoader$Row;", Cond.fieldLink RX0 25 "CatalogueLoader$Catalogue" "keys" "LCatalogueLoader$Grid;", Cond.fieldLink RX0 29 "CatalogueLoader$Catalogue" "fields" "LCatalogueLoader$Grid;", Cond.fieldLink RX0 32 "CatalogueLoader$Catalogue" "sources" "LCatalogueLoader$Grid;", Cond.fieldLink RX0 35 "CatalogueLoader$Catalogue" "guards" "LCatalogueLoader$Grid;", Cond.fieldLink RX0 38 "CatalogueLoader$Catalogue" "held" "LCatalogueLoader$Row;", Cond.fieldLink RX0 41 "CatalogueLoader$Catalogue" "hits" "LCatalogueLoader$Row;", Cond.methodLink RX0 44 yX4_fill, Cond.instanceMethod yX4_fill, Cond.selects RX4 yX4_fill yX4_fill, Cond.initialized RX4, Cond.code yX4_fill cX4_fill 2 none]
def wsX6_digestAnew_r2 : List Cond := [Cond.fieldLink RX4 15 "CatalogueLoader$Row" "cells" "[I", Cond.methodLink RX4 21 yJ7_fill_53178, Cond.static yJ7_fill_53178, Cond.initialized RJ7, Cond.code yJ7_fill_53178 cJ7_fill_53178 4 none, Cond.methodLink RX0 48 yX1_fill, Cond.instanceMethod yX1_fill, Cond.selects RX1 yX1_fill yX1_fill, Cond.initialized RX1, Cond.code yX1_fill cX1_fill 2 none, Cond.fieldLink RX1 24 "CatalogueLoader$Grid" "cells" "[I", Cond.methodLink RX1 28 yJ7_fill_53178, Cond.methodLink RX6 190 yX6_doStep, Cond.instanceMethod yX6_doStep, Cond.selects RX6 yX6_doStep yX6_doStep, Cond.code yX6_doStep cX6_doStep 5 none, Cond.fieldLink RX6 10 "CatalogueLoader" "settings" "LCatalogueLoader$Settings;", Cond.fieldLink RX6 19 "CatalogueLoader" "taken" "LCatalogueLoader$Loads;", Cond.methodLink RX6 55 yX4_get, Cond.instanceMethod yX4_get, Cond.selects RX4 yX4_get yX4_get, Cond.code yX4_get cX4_get 2 (some .int), Cond.methodLink RX6 118 yX0_take, Cond.instanceMethod yX0_take]
def wsX6_digestAnew_r3 : List Cond := [Cond.selects RX0 yX0_take yX0_take, Cond.code yX0_take cX0_take 5 (some .int), Cond.methodLink RX0 57 yX3_isLeftOut, Cond.instanceMethod yX3_isLeftOut, Cond.selects RX3 yX3_isLeftOut yX3_isLeftOut, Cond.initialized RX3, Cond.code yX3_isLeftOut cX3_isLeftOut 2 (some .boolean), Cond.fieldLink RX3 35 "CatalogueLoader$Loads" "undone" "LCatalogueLoader$Row;", Cond.fieldLink RX3 32 "CatalogueLoader$Loads" "batches" "LCatalogueLoader$Row;", Cond.methodLink RX3 48 yX4_get, Cond.methodLink RX0 62 yX0_target, Cond.instanceMethod yX0_target, Cond.selects RX0 yX0_target yX0_target, Cond.code yX0_target cX0_target 7 (some .int), Cond.methodLink RX0 49 yX4_get, Cond.methodLink RX0 83 yX1_get, Cond.instanceMethod yX1_get, Cond.selects RX1 yX1_get yX1_get, Cond.code yX1_get cX1_get 4 (some .int), Cond.fieldLink RX1 9 "CatalogueLoader$Grid" "lines" "I", Cond.fieldLink RX1 15 "CatalogueLoader$Grid" "columns" "I", Cond.methodLink RX0 86 yX0_find, Cond.instanceMethod yX0_find, Cond.selects RX0 yX0_find yX0_find]
def wsX6_digestAnew_r4 : List Cond := [Cond.code yX0_find cX0_find 5 (some .int), Cond.methodLink RX0 66 yX4_set, Cond.instanceMethod yX4_set, Cond.selects RX4 yX4_set yX4_set, Cond.code yX4_set cX4_set 3 none, Cond.methodLink RX0 69 yX0_layKeys, Cond.instanceMethod yX0_layKeys, Cond.selects RX0 yX0_layKeys yX0_layKeys, Cond.code yX0_layKeys cX0_layKeys 5 none, Cond.methodLink RX0 89 yX1_set, Cond.instanceMethod yX1_set, Cond.selects RX1 yX1_set yX1_set, Cond.code yX1_set cX1_set 5 none, Cond.methodLink RX0 73 yX0_layFields, Cond.instanceMethod yX0_layFields, Cond.selects RX0 yX0_layFields yX0_layFields, Cond.code yX0_layFields cX0_layFields 8 none, Cond.methodLink RX0 94 yX5_replaces, Cond.instanceMethod yX5_replaces, Cond.selects RX5 yX5_replaces yX5_replaces, Cond.initialized RX5, Cond.code yX5_replaces cX5_replaces 4 (some .boolean), Cond.fieldLink RX5 23 "CatalogueLoader$Settings" "rules" "LCatalogueLoader$Row;", Cond.fieldLink RX5 14 "CatalogueLoader$Settings" "ranks" "LCatalogueLoader$Row;"]
def wsX6_digestAnew_r5 : List Cond := [Cond.methodLink RX5 29 yX4_get, Cond.methodLink RX6 129 yX0_guard, Cond.instanceMethod yX0_guard, Cond.selects RX0 yX0_guard yX0_guard, Cond.code yX0_guard cX0_guard 5 (some .int), Cond.methodLink RX0 53 yX0_has, Cond.instanceMethod yX0_has, Cond.selects RX0 yX0_has yX0_has, Cond.code yX0_has cX0_has 2 (some .boolean), Cond.methodLink RX6 133 yX0_addHoldings, Cond.instanceMethod yX0_addHoldings, Cond.selects RX0 yX0_addHoldings yX0_addHoldings, Cond.code yX0_addHoldings cX0_addHoldings 3 (some .int), Cond.methodLink RX6 138 yX0_join, Cond.instanceMethod yX0_join, Cond.selects RX0 yX0_join yX0_join, Cond.code yX0_join cX0_join 4 (some .int), Cond.methodLink RX0 98 yX0_addHoldings, Cond.methodLink RX6 167 yX0_sum, Cond.instanceMethod yX0_sum, Cond.selects RX0 yX0_sum yX0_sum, Cond.code yX0_sum cX0_sum 3 (some .int), Cond.methodLink RX0 101 yX0_values, Cond.instanceMethod yX0_values]
def wsX6_digestAnew_r6 : List Cond := [Cond.selects RX0 yX0_values yX0_values, Cond.code yX0_values cX0_values 4 (some .int), Cond.methodLink RX0 104 Lib.Math.max.name, Cond.static Lib.Math.max.name, Cond.initialized "java/lang/Math", Cond.code Lib.Math.max.name Lib.Math.max.code 2 (some .int)]
def wsX6_digestAnew : List Cond := .code yX6_digestAnew cX6_digestAnew 1 (some .int) :: ((wsX6_digestAnew_r1 ++ (wsX6_digestAnew_r2 ++ (wsX6_digestAnew_r3 ++ (wsX6_digestAnew_r4 ++ (wsX6_digestAnew_r5 ++ wsX6_digestAnew_r6))))) ++ wsX60 ++ wsX20 ++ wsX00 ++ wsX40 ++ wsX10 ++ wsX30 ++ wsX50)
def wsX7_emptyDraft : List Cond := .code yX7_emptyDraft cX7_emptyDraft 2 none :: ([.fieldLink RX7 19 "CatalogueLoaderModel" "draftKeys" "[I", .fieldLink RX7 22 "CatalogueLoaderModel" "draftFields" "[I"] ++ wsX70)
def wsX7_init_r1 : List Cond := [Cond.methodLink RX7 1 objectInit, Cond.instanceMethod objectInit, Cond.code objectInit ⟨#[0xb1]⟩ 1 none, Cond.arrayClass .int, Cond.fieldLink RX7 7 "CatalogueLoaderModel" "ranks" "[I", Cond.fieldLink RX7 13 "CatalogueLoaderModel" "rules" "[I", Cond.fieldLink RX7 16 "CatalogueLoaderModel" "order" "[I", Cond.fieldLink RX7 19 "CatalogueLoaderModel" "draftKeys" "[I", Cond.fieldLink RX7 22 "CatalogueLoaderModel" "draftFields" "[I", Cond.arrayClass .boolean, Cond.fieldLink RX7 25 "CatalogueLoaderModel" "isOut" "[Z", Cond.fieldLink RX7 29 "CatalogueLoaderModel" "loadBatch" "[I", Cond.fieldLink RX7 32 "CatalogueLoaderModel" "loadSource" "[I", Cond.fieldLink RX7 35 "CatalogueLoaderModel" "loadKeys" "[I", Cond.fieldLink RX7 38 "CatalogueLoaderModel" "loadFields" "[I", Cond.fieldLink RX7 41 "CatalogueLoaderModel" "hits" "[I", Cond.fieldLink RX7 44 "CatalogueLoaderModel" "kinds" "[I", Cond.fieldLink RX7 47 "CatalogueLoaderModel" "ones" "[I", Cond.fieldLink RX7 50 "CatalogueLoaderModel" "others" "[I", Cond.fieldLink RX7 53 "CatalogueLoaderModel" "isIn" "[Z", Cond.fieldLink RX7 56 "CatalogueLoaderModel" "keys" "[I", Cond.fieldLink RX7 59 "CatalogueLoaderModel" "fields" "[I", Cond.fieldLink RX7 62 "CatalogueLoaderModel" "sources" "[I", Cond.fieldLink RX7 65 "CatalogueLoaderModel" "isKept" "[Z"]
def wsX7_init_r2 : List Cond := [Cond.fieldLink RX7 68 "CatalogueLoaderModel" "held" "[I", Cond.methodLink RX7 71 yX7_emptyDraft, Cond.instanceMethod yX7_emptyDraft, Cond.selects RX7 yX7_emptyDraft yX7_emptyDraft, Cond.initialized RX7, Cond.code yX7_emptyDraft cX7_emptyDraft 2 none]
def wsX7_init : List Cond := .code yX7_init cX7_init 2 none :: ((wsX7_init_r1 ++ wsX7_init_r2) ++ wsX70)
def wsX7_thrown : List Cond := .code yX7_thrown cX7_thrown 1 (some .int) :: ([.fieldLink RX7 74 "CatalogueLoaderModel" "thrown" "I"] ++ wsX70)
def wsX7_in : List Cond := .code yX7_in cX7_in 3 (some .boolean) :: ([])
def wsX7_setRank : List Cond := .code yX7_setRank cX7_setRank 4 (some .int) :: ([.fieldLink RX7 82 "CatalogueLoaderModel" "loadMany" "I", .fieldLink RX7 74 "CatalogueLoaderModel" "thrown" "I", .fieldLink RX7 7 "CatalogueLoaderModel" "ranks" "[I", .methodLink RX7 78 yX7_in, .static yX7_in, .initialized RX7, .code yX7_in cX7_in 3 (some .boolean)] ++ wsX70)
def wsX7_setRule : List Cond := .code yX7_setRule cX7_setRule 4 (some .int) :: ([.fieldLink RX7 82 "CatalogueLoaderModel" "loadMany" "I", .fieldLink RX7 74 "CatalogueLoaderModel" "thrown" "I", .fieldLink RX7 13 "CatalogueLoaderModel" "rules" "[I", .methodLink RX7 78 yX7_in, .static yX7_in, .initialized RX7, .code yX7_in cX7_in 3 (some .boolean)] ++ wsX70)
def wsX7_setOrder : List Cond := .code yX7_setOrder cX7_setOrder 5 none :: ([.fieldLink RX7 82 "CatalogueLoaderModel" "loadMany" "I", .fieldLink RX7 74 "CatalogueLoaderModel" "thrown" "I", .fieldLink RX7 16 "CatalogueLoaderModel" "order" "[I", .methodLink RX7 78 yX7_in, .static yX7_in, .initialized RX7, .code yX7_in cX7_in 3 (some .boolean)] ++ wsX70)
def wsX7_makeRecord : List Cond := .code yX7_makeRecord cX7_makeRecord 4 none :: ([.fieldLink RX7 53 "CatalogueLoaderModel" "isIn" "[Z", .fieldLink RX7 68 "CatalogueLoaderModel" "held" "[I", .fieldLink RX7 56 "CatalogueLoaderModel" "keys" "[I", .fieldLink RX7 35 "CatalogueLoaderModel" "loadKeys" "[I", .fieldLink RX7 38 "CatalogueLoaderModel" "loadFields" "[I", .fieldLink RX7 59 "CatalogueLoaderModel" "fields" "[I", .fieldLink RX7 62 "CatalogueLoaderModel" "sources" "[I", .fieldLink RX7 32 "CatalogueLoaderModel" "loadSource" "[I", .fieldLink RX7 65 "CatalogueLoaderModel" "isKept" "[Z"] ++ wsX70)
def wsX7_layOver : List Cond := .code yX7_layOver cX7_layOver 7 none :: ([.fieldLink RX7 56 "CatalogueLoaderModel" "keys" "[I", .fieldLink RX7 35 "CatalogueLoaderModel" "loadKeys" "[I", .fieldLink RX7 38 "CatalogueLoaderModel" "loadFields" "[I", .fieldLink RX7 13 "CatalogueLoaderModel" "rules" "[I", .fieldLink RX7 62 "CatalogueLoaderModel" "sources" "[I", .fieldLink RX7 7 "CatalogueLoaderModel" "ranks" "[I", .fieldLink RX7 32 "CatalogueLoaderModel" "loadSource" "[I", .fieldLink RX7 65 "CatalogueLoaderModel" "isKept" "[Z", .fieldLink RX7 59 "CatalogueLoaderModel" "fields" "[I"] ++ wsX70)
def wsX7_match : List Cond := .code yX7_match cX7_match 7 (some .int) :: ([.fieldLink RX7 35 "CatalogueLoaderModel" "loadKeys" "[I", .fieldLink RX7 16 "CatalogueLoaderModel" "order" "[I", .fieldLink RX7 53 "CatalogueLoaderModel" "isIn" "[Z", .fieldLink RX7 56 "CatalogueLoaderModel" "keys" "[I"] ++ wsX70)
def wsX7_doLoad_r1 : List Cond := [Cond.fieldLink RX7 25 "CatalogueLoaderModel" "isOut" "[Z", Cond.fieldLink RX7 29 "CatalogueLoaderModel" "loadBatch" "[I", Cond.fieldLink RX7 41 "CatalogueLoaderModel" "hits" "[I", Cond.methodLink RX7 85 yX7_match, Cond.instanceMethod yX7_match, Cond.selects RX7 yX7_match yX7_match, Cond.initialized RX7, Cond.code yX7_match cX7_match 7 (some .int), Cond.fieldLink RX7 35 "CatalogueLoaderModel" "loadKeys" "[I", Cond.fieldLink RX7 16 "CatalogueLoaderModel" "order" "[I", Cond.fieldLink RX7 53 "CatalogueLoaderModel" "isIn" "[Z", Cond.fieldLink RX7 56 "CatalogueLoaderModel" "keys" "[I", Cond.methodLink RX7 89 yX7_makeRecord, Cond.instanceMethod yX7_makeRecord, Cond.selects RX7 yX7_makeRecord yX7_makeRecord, Cond.code yX7_makeRecord cX7_makeRecord 4 none, Cond.fieldLink RX7 68 "CatalogueLoaderModel" "held" "[I", Cond.fieldLink RX7 38 "CatalogueLoaderModel" "loadFields" "[I", Cond.fieldLink RX7 59 "CatalogueLoaderModel" "fields" "[I", Cond.fieldLink RX7 62 "CatalogueLoaderModel" "sources" "[I", Cond.fieldLink RX7 32 "CatalogueLoaderModel" "loadSource" "[I", Cond.fieldLink RX7 65 "CatalogueLoaderModel" "isKept" "[Z", Cond.methodLink RX7 93 yX7_layOver, Cond.instanceMethod yX7_layOver]
def wsX7_doLoad_r2 : List Cond := [Cond.selects RX7 yX7_layOver yX7_layOver, Cond.code yX7_layOver cX7_layOver 7 none, Cond.fieldLink RX7 13 "CatalogueLoaderModel" "rules" "[I", Cond.fieldLink RX7 7 "CatalogueLoaderModel" "ranks" "[I"]
def wsX7_doLoad : List Cond := .code yX7_doLoad cX7_doLoad 3 none :: ((wsX7_doLoad_r1 ++ wsX7_doLoad_r2) ++ wsX70)
def wsX7_doMerge : List Cond := .code yX7_doMerge cX7_doMerge 5 none :: ([.fieldLink RX7 68 "CatalogueLoaderModel" "held" "[I", .fieldLink RX7 56 "CatalogueLoaderModel" "keys" "[I", .fieldLink RX7 59 "CatalogueLoaderModel" "fields" "[I", .fieldLink RX7 62 "CatalogueLoaderModel" "sources" "[I", .fieldLink RX7 53 "CatalogueLoaderModel" "isIn" "[Z"] ++ wsX70)
def wsX7_perform_r1 : List Cond := [Cond.fieldLink RX7 47 "CatalogueLoaderModel" "ones" "[I", Cond.fieldLink RX7 50 "CatalogueLoaderModel" "others" "[I", Cond.fieldLink RX7 44 "CatalogueLoaderModel" "kinds" "[I", Cond.fieldLink RX7 53 "CatalogueLoaderModel" "isIn" "[Z", Cond.fieldLink RX7 68 "CatalogueLoaderModel" "held" "[I", Cond.fieldLink RX7 65 "CatalogueLoaderModel" "isKept" "[Z", Cond.methodLink RX7 97 yX7_doLoad, Cond.instanceMethod yX7_doLoad, Cond.selects RX7 yX7_doLoad yX7_doLoad, Cond.initialized RX7, Cond.code yX7_doLoad cX7_doLoad 3 none, Cond.fieldLink RX7 25 "CatalogueLoaderModel" "isOut" "[Z", Cond.fieldLink RX7 29 "CatalogueLoaderModel" "loadBatch" "[I", Cond.fieldLink RX7 41 "CatalogueLoaderModel" "hits" "[I", Cond.methodLink RX7 85 yX7_match, Cond.instanceMethod yX7_match, Cond.selects RX7 yX7_match yX7_match, Cond.code yX7_match cX7_match 7 (some .int), Cond.fieldLink RX7 35 "CatalogueLoaderModel" "loadKeys" "[I", Cond.fieldLink RX7 16 "CatalogueLoaderModel" "order" "[I", Cond.fieldLink RX7 56 "CatalogueLoaderModel" "keys" "[I", Cond.methodLink RX7 89 yX7_makeRecord, Cond.instanceMethod yX7_makeRecord, Cond.selects RX7 yX7_makeRecord yX7_makeRecord]
def wsX7_perform_r2 : List Cond := [Cond.code yX7_makeRecord cX7_makeRecord 4 none, Cond.fieldLink RX7 38 "CatalogueLoaderModel" "loadFields" "[I", Cond.fieldLink RX7 59 "CatalogueLoaderModel" "fields" "[I", Cond.fieldLink RX7 62 "CatalogueLoaderModel" "sources" "[I", Cond.fieldLink RX7 32 "CatalogueLoaderModel" "loadSource" "[I", Cond.methodLink RX7 93 yX7_layOver, Cond.instanceMethod yX7_layOver, Cond.selects RX7 yX7_layOver yX7_layOver, Cond.code yX7_layOver cX7_layOver 7 none, Cond.fieldLink RX7 13 "CatalogueLoaderModel" "rules" "[I", Cond.fieldLink RX7 7 "CatalogueLoaderModel" "ranks" "[I", Cond.methodLink RX7 100 yX7_doMerge, Cond.instanceMethod yX7_doMerge, Cond.selects RX7 yX7_doMerge yX7_doMerge, Cond.code yX7_doMerge cX7_doMerge 5 none]
def wsX7_perform : List Cond := .code yX7_perform cX7_perform 4 none :: ((wsX7_perform_r1 ++ wsX7_perform_r2) ++ wsX70)
def wsX7_add_r1 : List Cond := [Cond.fieldLink RX7 44 "CatalogueLoaderModel" "kinds" "[I", Cond.fieldLink RX7 103 "CatalogueLoaderModel" "doneMany" "I", Cond.fieldLink RX7 47 "CatalogueLoaderModel" "ones" "[I", Cond.fieldLink RX7 50 "CatalogueLoaderModel" "others" "[I", Cond.methodLink RX7 106 yX7_perform, Cond.instanceMethod yX7_perform, Cond.selects RX7 yX7_perform yX7_perform, Cond.initialized RX7, Cond.code yX7_perform cX7_perform 4 none, Cond.fieldLink RX7 53 "CatalogueLoaderModel" "isIn" "[Z", Cond.fieldLink RX7 68 "CatalogueLoaderModel" "held" "[I", Cond.fieldLink RX7 65 "CatalogueLoaderModel" "isKept" "[Z", Cond.methodLink RX7 97 yX7_doLoad, Cond.instanceMethod yX7_doLoad, Cond.selects RX7 yX7_doLoad yX7_doLoad, Cond.code yX7_doLoad cX7_doLoad 3 none, Cond.fieldLink RX7 25 "CatalogueLoaderModel" "isOut" "[Z", Cond.fieldLink RX7 29 "CatalogueLoaderModel" "loadBatch" "[I", Cond.fieldLink RX7 41 "CatalogueLoaderModel" "hits" "[I", Cond.methodLink RX7 85 yX7_match, Cond.instanceMethod yX7_match, Cond.selects RX7 yX7_match yX7_match, Cond.code yX7_match cX7_match 7 (some .int), Cond.fieldLink RX7 35 "CatalogueLoaderModel" "loadKeys" "[I"]
def wsX7_add_r2 : List Cond := [Cond.fieldLink RX7 16 "CatalogueLoaderModel" "order" "[I", Cond.fieldLink RX7 56 "CatalogueLoaderModel" "keys" "[I", Cond.methodLink RX7 89 yX7_makeRecord, Cond.instanceMethod yX7_makeRecord, Cond.selects RX7 yX7_makeRecord yX7_makeRecord, Cond.code yX7_makeRecord cX7_makeRecord 4 none, Cond.fieldLink RX7 38 "CatalogueLoaderModel" "loadFields" "[I", Cond.fieldLink RX7 59 "CatalogueLoaderModel" "fields" "[I", Cond.fieldLink RX7 62 "CatalogueLoaderModel" "sources" "[I", Cond.fieldLink RX7 32 "CatalogueLoaderModel" "loadSource" "[I", Cond.methodLink RX7 93 yX7_layOver, Cond.instanceMethod yX7_layOver, Cond.selects RX7 yX7_layOver yX7_layOver, Cond.code yX7_layOver cX7_layOver 7 none, Cond.fieldLink RX7 13 "CatalogueLoaderModel" "rules" "[I", Cond.fieldLink RX7 7 "CatalogueLoaderModel" "ranks" "[I", Cond.methodLink RX7 100 yX7_doMerge, Cond.instanceMethod yX7_doMerge, Cond.selects RX7 yX7_doMerge yX7_doMerge, Cond.code yX7_doMerge cX7_doMerge 5 none]
def wsX7_add : List Cond := .code yX7_add cX7_add 4 none :: ((wsX7_add_r1 ++ wsX7_add_r2) ++ wsX70)
def wsX7_makeAnew_r1 : List Cond := [Cond.fieldLink RX7 53 "CatalogueLoaderModel" "isIn" "[Z", Cond.fieldLink RX7 103 "CatalogueLoaderModel" "doneMany" "I", Cond.methodLink RX7 106 yX7_perform, Cond.instanceMethod yX7_perform, Cond.selects RX7 yX7_perform yX7_perform, Cond.initialized RX7, Cond.code yX7_perform cX7_perform 4 none, Cond.fieldLink RX7 47 "CatalogueLoaderModel" "ones" "[I", Cond.fieldLink RX7 50 "CatalogueLoaderModel" "others" "[I", Cond.fieldLink RX7 44 "CatalogueLoaderModel" "kinds" "[I", Cond.fieldLink RX7 68 "CatalogueLoaderModel" "held" "[I", Cond.fieldLink RX7 65 "CatalogueLoaderModel" "isKept" "[Z", Cond.methodLink RX7 97 yX7_doLoad, Cond.instanceMethod yX7_doLoad, Cond.selects RX7 yX7_doLoad yX7_doLoad, Cond.code yX7_doLoad cX7_doLoad 3 none, Cond.fieldLink RX7 25 "CatalogueLoaderModel" "isOut" "[Z", Cond.fieldLink RX7 29 "CatalogueLoaderModel" "loadBatch" "[I", Cond.fieldLink RX7 41 "CatalogueLoaderModel" "hits" "[I", Cond.methodLink RX7 85 yX7_match, Cond.instanceMethod yX7_match, Cond.selects RX7 yX7_match yX7_match, Cond.code yX7_match cX7_match 7 (some .int), Cond.fieldLink RX7 35 "CatalogueLoaderModel" "loadKeys" "[I"]
def wsX7_makeAnew_r2 : List Cond := [Cond.fieldLink RX7 16 "CatalogueLoaderModel" "order" "[I", Cond.fieldLink RX7 56 "CatalogueLoaderModel" "keys" "[I", Cond.methodLink RX7 89 yX7_makeRecord, Cond.instanceMethod yX7_makeRecord, Cond.selects RX7 yX7_makeRecord yX7_makeRecord, Cond.code yX7_makeRecord cX7_makeRecord 4 none, Cond.fieldLink RX7 38 "CatalogueLoaderModel" "loadFields" "[I", Cond.fieldLink RX7 59 "CatalogueLoaderModel" "fields" "[I", Cond.fieldLink RX7 62 "CatalogueLoaderModel" "sources" "[I", Cond.fieldLink RX7 32 "CatalogueLoaderModel" "loadSource" "[I", Cond.methodLink RX7 93 yX7_layOver, Cond.instanceMethod yX7_layOver, Cond.selects RX7 yX7_layOver yX7_layOver, Cond.code yX7_layOver cX7_layOver 7 none, Cond.fieldLink RX7 13 "CatalogueLoaderModel" "rules" "[I", Cond.fieldLink RX7 7 "CatalogueLoaderModel" "ranks" "[I", Cond.methodLink RX7 100 yX7_doMerge, Cond.instanceMethod yX7_doMerge, Cond.selects RX7 yX7_doMerge yX7_doMerge, Cond.code yX7_doMerge cX7_doMerge 5 none]
def wsX7_makeAnew : List Cond := .code yX7_makeAnew cX7_makeAnew 2 none :: ((wsX7_makeAnew_r1 ++ wsX7_makeAnew_r2) ++ wsX70)
def wsX7_beginBatch : List Cond := .code yX7_beginBatch cX7_beginBatch 1 (some .int) :: ([.fieldLink RX7 109 "CatalogueLoaderModel" "batchMany" "I", .fieldLink RX7 74 "CatalogueLoaderModel" "thrown" "I", .fieldLink RX7 25 "CatalogueLoaderModel" "isOut" "[Z"] ++ wsX70)
def wsX7_key : List Cond := .code yX7_key cX7_key 4 (some .int) :: ([.fieldLink RX7 74 "CatalogueLoaderModel" "thrown" "I", .fieldLink RX7 19 "CatalogueLoaderModel" "draftKeys" "[I", .methodLink RX7 78 yX7_in, .static yX7_in, .initialized RX7, .code yX7_in cX7_in 3 (some .boolean)] ++ wsX70)
def wsX7_field : List Cond := .code yX7_field cX7_field 4 (some .int) :: ([.fieldLink RX7 74 "CatalogueLoaderModel" "thrown" "I", .fieldLink RX7 22 "CatalogueLoaderModel" "draftFields" "[I", .methodLink RX7 78 yX7_in, .static yX7_in, .initialized RX7, .code yX7_in cX7_in 3 (some .boolean)] ++ wsX70)
def wsX7_load_r1 : List Cond := [Cond.fieldLink RX7 109 "CatalogueLoaderModel" "batchMany" "I", Cond.fieldLink RX7 82 "CatalogueLoaderModel" "loadMany" "I", Cond.fieldLink RX7 74 "CatalogueLoaderModel" "thrown" "I", Cond.fieldLink RX7 29 "CatalogueLoaderModel" "loadBatch" "[I", Cond.fieldLink RX7 32 "CatalogueLoaderModel" "loadSource" "[I", Cond.fieldLink RX7 35 "CatalogueLoaderModel" "loadKeys" "[I", Cond.fieldLink RX7 19 "CatalogueLoaderModel" "draftKeys" "[I", Cond.fieldLink RX7 38 "CatalogueLoaderModel" "loadFields" "[I", Cond.fieldLink RX7 22 "CatalogueLoaderModel" "draftFields" "[I", Cond.fieldLink RX7 41 "CatalogueLoaderModel" "hits" "[I", Cond.methodLink RX7 78 yX7_in, Cond.static yX7_in, Cond.initialized RX7, Cond.code yX7_in cX7_in 3 (some .boolean), Cond.methodLink RX7 71 yX7_emptyDraft, Cond.instanceMethod yX7_emptyDraft, Cond.selects RX7 yX7_emptyDraft yX7_emptyDraft, Cond.code yX7_emptyDraft cX7_emptyDraft 2 none, Cond.methodLink RX7 112 yX7_add, Cond.instanceMethod yX7_add, Cond.selects RX7 yX7_add yX7_add, Cond.code yX7_add cX7_add 4 none, Cond.fieldLink RX7 44 "CatalogueLoaderModel" "kinds" "[I", Cond.fieldLink RX7 103 "CatalogueLoaderModel" "doneMany" "I"]
def wsX7_load_r2 : List Cond := [Cond.fieldLink RX7 47 "CatalogueLoaderModel" "ones" "[I", Cond.fieldLink RX7 50 "CatalogueLoaderModel" "others" "[I", Cond.methodLink RX7 106 yX7_perform, Cond.instanceMethod yX7_perform, Cond.selects RX7 yX7_perform yX7_perform, Cond.code yX7_perform cX7_perform 4 none, Cond.fieldLink RX7 53 "CatalogueLoaderModel" "isIn" "[Z", Cond.fieldLink RX7 68 "CatalogueLoaderModel" "held" "[I", Cond.fieldLink RX7 65 "CatalogueLoaderModel" "isKept" "[Z", Cond.methodLink RX7 97 yX7_doLoad, Cond.instanceMethod yX7_doLoad, Cond.selects RX7 yX7_doLoad yX7_doLoad, Cond.code yX7_doLoad cX7_doLoad 3 none, Cond.fieldLink RX7 25 "CatalogueLoaderModel" "isOut" "[Z", Cond.methodLink RX7 85 yX7_match, Cond.instanceMethod yX7_match, Cond.selects RX7 yX7_match yX7_match, Cond.code yX7_match cX7_match 7 (some .int), Cond.fieldLink RX7 16 "CatalogueLoaderModel" "order" "[I", Cond.fieldLink RX7 56 "CatalogueLoaderModel" "keys" "[I", Cond.methodLink RX7 89 yX7_makeRecord, Cond.instanceMethod yX7_makeRecord, Cond.selects RX7 yX7_makeRecord yX7_makeRecord, Cond.code yX7_makeRecord cX7_makeRecord 4 none]
def wsX7_load_r3 : List Cond := [Cond.fieldLink RX7 59 "CatalogueLoaderModel" "fields" "[I", Cond.fieldLink RX7 62 "CatalogueLoaderModel" "sources" "[I", Cond.methodLink RX7 93 yX7_layOver, Cond.instanceMethod yX7_layOver, Cond.selects RX7 yX7_layOver yX7_layOver, Cond.code yX7_layOver cX7_layOver 7 none, Cond.fieldLink RX7 13 "CatalogueLoaderModel" "rules" "[I", Cond.fieldLink RX7 7 "CatalogueLoaderModel" "ranks" "[I", Cond.methodLink RX7 100 yX7_doMerge, Cond.instanceMethod yX7_doMerge, Cond.selects RX7 yX7_doMerge yX7_doMerge, Cond.code yX7_doMerge cX7_doMerge 5 none]
def wsX7_load : List Cond := .code yX7_load cX7_load 4 (some .int) :: ((wsX7_load_r1 ++ (wsX7_load_r2 ++ wsX7_load_r3)) ++ wsX70)
def wsX7_isRecord : List Cond := .code yX7_isRecord cX7_isRecord 2 (some .boolean) :: ([.fieldLink RX7 53 "CatalogueLoaderModel" "isIn" "[Z", .methodLink RX7 78 yX7_in, .static yX7_in, .initialized RX7, .code yX7_in cX7_in 3 (some .boolean)] ++ wsX70)
def wsX7_protect_r1 : List Cond := [Cond.fieldLink RX7 120 "CatalogueLoaderModel" "actMany" "I", Cond.fieldLink RX7 74 "CatalogueLoaderModel" "thrown" "I", Cond.fieldLink RX7 65 "CatalogueLoaderModel" "isKept" "[Z", Cond.methodLink RX7 116 yX7_isRecord, Cond.instanceMethod yX7_isRecord, Cond.selects RX7 yX7_isRecord yX7_isRecord, Cond.initialized RX7, Cond.code yX7_isRecord cX7_isRecord 2 (some .boolean), Cond.fieldLink RX7 53 "CatalogueLoaderModel" "isIn" "[Z", Cond.methodLink RX7 78 yX7_in, Cond.static yX7_in, Cond.code yX7_in cX7_in 3 (some .boolean), Cond.methodLink RX7 112 yX7_add, Cond.instanceMethod yX7_add, Cond.selects RX7 yX7_add yX7_add, Cond.code yX7_add cX7_add 4 none, Cond.fieldLink RX7 44 "CatalogueLoaderModel" "kinds" "[I", Cond.fieldLink RX7 103 "CatalogueLoaderModel" "doneMany" "I", Cond.fieldLink RX7 47 "CatalogueLoaderModel" "ones" "[I", Cond.fieldLink RX7 50 "CatalogueLoaderModel" "others" "[I", Cond.methodLink RX7 106 yX7_perform, Cond.instanceMethod yX7_perform, Cond.selects RX7 yX7_perform yX7_perform, Cond.code yX7_perform cX7_perform 4 none]
def wsX7_protect_r2 : List Cond := [Cond.fieldLink RX7 68 "CatalogueLoaderModel" "held" "[I", Cond.methodLink RX7 97 yX7_doLoad, Cond.instanceMethod yX7_doLoad, Cond.selects RX7 yX7_doLoad yX7_doLoad, Cond.code yX7_doLoad cX7_doLoad 3 none, Cond.fieldLink RX7 25 "CatalogueLoaderModel" "isOut" "[Z", Cond.fieldLink RX7 29 "CatalogueLoaderModel" "loadBatch" "[I", Cond.fieldLink RX7 41 "CatalogueLoaderModel" "hits" "[I", Cond.methodLink RX7 85 yX7_match, Cond.instanceMethod yX7_match, Cond.selects RX7 yX7_match yX7_match, Cond.code yX7_match cX7_match 7 (some .int), Cond.fieldLink RX7 35 "CatalogueLoaderModel" "loadKeys" "[I", Cond.fieldLink RX7 16 "CatalogueLoaderModel" "order" "[I", Cond.fieldLink RX7 56 "CatalogueLoaderModel" "keys" "[I", Cond.methodLink RX7 89 yX7_makeRecord, Cond.instanceMethod yX7_makeRecord, Cond.selects RX7 yX7_makeRecord yX7_makeRecord, Cond.code yX7_makeRecord cX7_makeRecord 4 none, Cond.fieldLink RX7 38 "CatalogueLoaderModel" "loadFields" "[I", Cond.fieldLink RX7 59 "CatalogueLoaderModel" "fields" "[I", Cond.fieldLink RX7 62 "CatalogueLoaderModel" "sources" "[I", Cond.fieldLink RX7 32 "CatalogueLoaderModel" "loadSource" "[I", Cond.methodLink RX7 93 yX7_layOver]
def wsX7_protect_r3 : List Cond := [Cond.instanceMethod yX7_layOver, Cond.selects RX7 yX7_layOver yX7_layOver, Cond.code yX7_layOver cX7_layOver 7 none, Cond.fieldLink RX7 13 "CatalogueLoaderModel" "rules" "[I", Cond.fieldLink RX7 7 "CatalogueLoaderModel" "ranks" "[I", Cond.methodLink RX7 100 yX7_doMerge, Cond.instanceMethod yX7_doMerge, Cond.selects RX7 yX7_doMerge yX7_doMerge, Cond.code yX7_doMerge cX7_doMerge 5 none]
def wsX7_protect : List Cond := .code yX7_protect cX7_protect 5 (some .boolean) :: ((wsX7_protect_r1 ++ (wsX7_protect_r2 ++ wsX7_protect_r3)) ++ wsX70)
def wsX7_hold_r1 : List Cond := [Cond.fieldLink RX7 120 "CatalogueLoaderModel" "actMany" "I", Cond.fieldLink RX7 74 "CatalogueLoaderModel" "thrown" "I", Cond.fieldLink RX7 68 "CatalogueLoaderModel" "held" "[I", Cond.methodLink RX7 116 yX7_isRecord, Cond.instanceMethod yX7_isRecord, Cond.selects RX7 yX7_isRecord yX7_isRecord, Cond.initialized RX7, Cond.code yX7_isRecord cX7_isRecord 2 (some .boolean), Cond.fieldLink RX7 53 "CatalogueLoaderModel" "isIn" "[Z", Cond.methodLink RX7 78 yX7_in, Cond.static yX7_in, Cond.code yX7_in cX7_in 3 (some .boolean), Cond.methodLink RX7 112 yX7_add, Cond.instanceMethod yX7_add, Cond.selects RX7 yX7_add yX7_add, Cond.code yX7_add cX7_add 4 none, Cond.fieldLink RX7 44 "CatalogueLoaderModel" "kinds" "[I", Cond.fieldLink RX7 103 "CatalogueLoaderModel" "doneMany" "I", Cond.fieldLink RX7 47 "CatalogueLoaderModel" "ones" "[I", Cond.fieldLink RX7 50 "CatalogueLoaderModel" "others" "[I", Cond.methodLink RX7 106 yX7_perform, Cond.instanceMethod yX7_perform, Cond.selects RX7 yX7_perform yX7_perform, Cond.code yX7_perform cX7_perform 4 none]
def wsX7_hold_r2 : List Cond := [Cond.fieldLink RX7 65 "CatalogueLoaderModel" "isKept" "[Z", Cond.methodLink RX7 97 yX7_doLoad, Cond.instanceMethod yX7_doLoad, Cond.selects RX7 yX7_doLoad yX7_doLoad, Cond.code yX7_doLoad cX7_doLoad 3 none, Cond.fieldLink RX7 25 "CatalogueLoaderModel" "isOut" "[Z", Cond.fieldLink RX7 29 "CatalogueLoaderModel" "loadBatch" "[I", Cond.fieldLink RX7 41 "CatalogueLoaderModel" "hits" "[I", Cond.methodLink RX7 85 yX7_match, Cond.instanceMethod yX7_match, Cond.selects RX7 yX7_match yX7_match, Cond.code yX7_match cX7_match 7 (some .int), Cond.fieldLink RX7 35 "CatalogueLoaderModel" "loadKeys" "[I", Cond.fieldLink RX7 16 "CatalogueLoaderModel" "order" "[I", Cond.fieldLink RX7 56 "CatalogueLoaderModel" "keys" "[I", Cond.methodLink RX7 89 yX7_makeRecord, Cond.instanceMethod yX7_makeRecord, Cond.selects RX7 yX7_makeRecord yX7_makeRecord, Cond.code yX7_makeRecord cX7_makeRecord 4 none, Cond.fieldLink RX7 38 "CatalogueLoaderModel" "loadFields" "[I", Cond.fieldLink RX7 59 "CatalogueLoaderModel" "fields" "[I", Cond.fieldLink RX7 62 "CatalogueLoaderModel" "sources" "[I", Cond.fieldLink RX7 32 "CatalogueLoaderModel" "loadSource" "[I", Cond.methodLink RX7 93 yX7_layOver]
def wsX7_hold_r3 : List Cond := [Cond.instanceMethod yX7_layOver, Cond.selects RX7 yX7_layOver yX7_layOver, Cond.code yX7_layOver cX7_layOver 7 none, Cond.fieldLink RX7 13 "CatalogueLoaderModel" "rules" "[I", Cond.fieldLink RX7 7 "CatalogueLoaderModel" "ranks" "[I", Cond.methodLink RX7 100 yX7_doMerge, Cond.instanceMethod yX7_doMerge, Cond.selects RX7 yX7_doMerge yX7_doMerge, Cond.code yX7_doMerge cX7_doMerge 5 none]
def wsX7_hold : List Cond := .code yX7_hold cX7_hold 2 (some .int) :: ((wsX7_hold_r1 ++ (wsX7_hold_r2 ++ wsX7_hold_r3)) ++ wsX70)
def wsX7_merge_r1 : List Cond := [Cond.fieldLink RX7 120 "CatalogueLoaderModel" "actMany" "I", Cond.fieldLink RX7 74 "CatalogueLoaderModel" "thrown" "I", Cond.fieldLink RX7 68 "CatalogueLoaderModel" "held" "[I", Cond.methodLink RX7 116 yX7_isRecord, Cond.instanceMethod yX7_isRecord, Cond.selects RX7 yX7_isRecord yX7_isRecord, Cond.initialized RX7, Cond.code yX7_isRecord cX7_isRecord 2 (some .boolean), Cond.fieldLink RX7 53 "CatalogueLoaderModel" "isIn" "[Z", Cond.methodLink RX7 78 yX7_in, Cond.static yX7_in, Cond.code yX7_in cX7_in 3 (some .boolean), Cond.methodLink RX7 112 yX7_add, Cond.instanceMethod yX7_add, Cond.selects RX7 yX7_add yX7_add, Cond.code yX7_add cX7_add 4 none, Cond.fieldLink RX7 44 "CatalogueLoaderModel" "kinds" "[I", Cond.fieldLink RX7 103 "CatalogueLoaderModel" "doneMany" "I", Cond.fieldLink RX7 47 "CatalogueLoaderModel" "ones" "[I", Cond.fieldLink RX7 50 "CatalogueLoaderModel" "others" "[I", Cond.methodLink RX7 106 yX7_perform, Cond.instanceMethod yX7_perform, Cond.selects RX7 yX7_perform yX7_perform, Cond.code yX7_perform cX7_perform 4 none]
def wsX7_merge_r2 : List Cond := [Cond.fieldLink RX7 65 "CatalogueLoaderModel" "isKept" "[Z", Cond.methodLink RX7 97 yX7_doLoad, Cond.instanceMethod yX7_doLoad, Cond.selects RX7 yX7_doLoad yX7_doLoad, Cond.code yX7_doLoad cX7_doLoad 3 none, Cond.fieldLink RX7 25 "CatalogueLoaderModel" "isOut" "[Z", Cond.fieldLink RX7 29 "CatalogueLoaderModel" "loadBatch" "[I", Cond.fieldLink RX7 41 "CatalogueLoaderModel" "hits" "[I", Cond.methodLink RX7 85 yX7_match, Cond.instanceMethod yX7_match, Cond.selects RX7 yX7_match yX7_match, Cond.code yX7_match cX7_match 7 (some .int), Cond.fieldLink RX7 35 "CatalogueLoaderModel" "loadKeys" "[I", Cond.fieldLink RX7 16 "CatalogueLoaderModel" "order" "[I", Cond.fieldLink RX7 56 "CatalogueLoaderModel" "keys" "[I", Cond.methodLink RX7 89 yX7_makeRecord, Cond.instanceMethod yX7_makeRecord, Cond.selects RX7 yX7_makeRecord yX7_makeRecord, Cond.code yX7_makeRecord cX7_makeRecord 4 none, Cond.fieldLink RX7 38 "CatalogueLoaderModel" "loadFields" "[I", Cond.fieldLink RX7 59 "CatalogueLoaderModel" "fields" "[I", Cond.fieldLink RX7 62 "CatalogueLoaderModel" "sources" "[I", Cond.fieldLink RX7 32 "CatalogueLoaderModel" "loadSource" "[I", Cond.methodLink RX7 93 yX7_layOver]
def wsX7_merge_r3 : List Cond := [Cond.instanceMethod yX7_layOver, Cond.selects RX7 yX7_layOver yX7_layOver, Cond.code yX7_layOver cX7_layOver 7 none, Cond.fieldLink RX7 13 "CatalogueLoaderModel" "rules" "[I", Cond.fieldLink RX7 7 "CatalogueLoaderModel" "ranks" "[I", Cond.methodLink RX7 100 yX7_doMerge, Cond.instanceMethod yX7_doMerge, Cond.selects RX7 yX7_doMerge yX7_doMerge, Cond.code yX7_doMerge cX7_doMerge 5 none]
def wsX7_merge : List Cond := .code yX7_merge cX7_merge 3 (some .int) :: ((wsX7_merge_r1 ++ (wsX7_merge_r2 ++ wsX7_merge_r3)) ++ wsX70)
def wsX7_recordMany : List Cond := .code yX7_recordMany cX7_recordMany 3 (some .int) :: ([.fieldLink RX7 53 "CatalogueLoaderModel" "isIn" "[Z"] ++ wsX70)
def wsX7_undo_r1 : List Cond := [Cond.fieldLink RX7 109 "CatalogueLoaderModel" "batchMany" "I", Cond.fieldLink RX7 25 "CatalogueLoaderModel" "isOut" "[Z", Cond.fieldLink RX7 74 "CatalogueLoaderModel" "thrown" "I", Cond.methodLink RX7 78 yX7_in, Cond.static yX7_in, Cond.initialized RX7, Cond.code yX7_in cX7_in 3 (some .boolean), Cond.methodLink RX7 123 yX7_makeAnew, Cond.instanceMethod yX7_makeAnew, Cond.selects RX7 yX7_makeAnew yX7_makeAnew, Cond.code yX7_makeAnew cX7_makeAnew 2 none, Cond.fieldLink RX7 53 "CatalogueLoaderModel" "isIn" "[Z", Cond.fieldLink RX7 103 "CatalogueLoaderModel" "doneMany" "I", Cond.methodLink RX7 106 yX7_perform, Cond.instanceMethod yX7_perform, Cond.selects RX7 yX7_perform yX7_perform, Cond.code yX7_perform cX7_perform 4 none, Cond.fieldLink RX7 47 "CatalogueLoaderModel" "ones" "[I", Cond.fieldLink RX7 50 "CatalogueLoaderModel" "others" "[I", Cond.fieldLink RX7 44 "CatalogueLoaderModel" "kinds" "[I", Cond.fieldLink RX7 68 "CatalogueLoaderModel" "held" "[I", Cond.fieldLink RX7 65 "CatalogueLoaderModel" "isKept" "[Z", Cond.methodLink RX7 97 yX7_doLoad, Cond.instanceMethod yX7_doLoad]
def wsX7_undo_r2 : List Cond := [Cond.selects RX7 yX7_doLoad yX7_doLoad, Cond.code yX7_doLoad cX7_doLoad 3 none, Cond.fieldLink RX7 29 "CatalogueLoaderModel" "loadBatch" "[I", Cond.fieldLink RX7 41 "CatalogueLoaderModel" "hits" "[I", Cond.methodLink RX7 85 yX7_match, Cond.instanceMethod yX7_match, Cond.selects RX7 yX7_match yX7_match, Cond.code yX7_match cX7_match 7 (some .int), Cond.fieldLink RX7 35 "CatalogueLoaderModel" "loadKeys" "[I", Cond.fieldLink RX7 16 "CatalogueLoaderModel" "order" "[I", Cond.fieldLink RX7 56 "CatalogueLoaderModel" "keys" "[I", Cond.methodLink RX7 89 yX7_makeRecord, Cond.instanceMethod yX7_makeRecord, Cond.selects RX7 yX7_makeRecord yX7_makeRecord, Cond.code yX7_makeRecord cX7_makeRecord 4 none, Cond.fieldLink RX7 38 "CatalogueLoaderModel" "loadFields" "[I", Cond.fieldLink RX7 59 "CatalogueLoaderModel" "fields" "[I", Cond.fieldLink RX7 62 "CatalogueLoaderModel" "sources" "[I", Cond.fieldLink RX7 32 "CatalogueLoaderModel" "loadSource" "[I", Cond.methodLink RX7 93 yX7_layOver, Cond.instanceMethod yX7_layOver, Cond.selects RX7 yX7_layOver yX7_layOver, Cond.code yX7_layOver cX7_layOver 7 none, Cond.fieldLink RX7 13 "CatalogueLoaderModel" "rules" "[I"]
def wsX7_undo_r3 : List Cond := [Cond.fieldLink RX7 7 "CatalogueLoaderModel" "ranks" "[I", Cond.methodLink RX7 100 yX7_doMerge, Cond.instanceMethod yX7_doMerge, Cond.selects RX7 yX7_doMerge yX7_doMerge, Cond.code yX7_doMerge cX7_doMerge 5 none, Cond.methodLink RX7 126 yX7_recordMany, Cond.instanceMethod yX7_recordMany, Cond.selects RX7 yX7_recordMany yX7_recordMany, Cond.code yX7_recordMany cX7_recordMany 3 (some .int)]
def wsX7_undo : List Cond := .code yX7_undo cX7_undo 3 (some .int) :: ((wsX7_undo_r1 ++ (wsX7_undo_r2 ++ wsX7_undo_r3)) ++ wsX70)
def wsX7_batches : List Cond := .code yX7_batches cX7_batches 1 (some .int) :: ([.fieldLink RX7 74 "CatalogueLoaderModel" "thrown" "I", .fieldLink RX7 109 "CatalogueLoaderModel" "batchMany" "I"] ++ wsX70)
def wsX7_loads : List Cond := .code yX7_loads cX7_loads 1 (some .int) :: ([.fieldLink RX7 74 "CatalogueLoaderModel" "thrown" "I", .fieldLink RX7 82 "CatalogueLoaderModel" "loadMany" "I"] ++ wsX70)
def wsX7_records : List Cond := .code yX7_records cX7_records 1 (some .int) :: ([.fieldLink RX7 74 "CatalogueLoaderModel" "thrown" "I", .methodLink RX7 126 yX7_recordMany, .instanceMethod yX7_recordMany, .selects RX7 yX7_recordMany yX7_recordMany, .initialized RX7, .code yX7_recordMany cX7_recordMany 3 (some .int), .fieldLink RX7 53 "CatalogueLoaderModel" "isIn" "[Z"] ++ wsX70)
def wsX7_isUndone : List Cond := .code yX7_isUndone cX7_isUndone 2 (some .boolean) :: ([.fieldLink RX7 109 "CatalogueLoaderModel" "batchMany" "I", .fieldLink RX7 74 "CatalogueLoaderModel" "thrown" "I", .fieldLink RX7 25 "CatalogueLoaderModel" "isOut" "[Z", .methodLink RX7 78 yX7_in, .static yX7_in, .initialized RX7, .code yX7_in cX7_in 3 (some .boolean)] ++ wsX70)
def wsX7_isThere : List Cond := .code yX7_isThere cX7_isThere 2 (some .boolean) :: ([.fieldLink RX7 74 "CatalogueLoaderModel" "thrown" "I", .methodLink RX7 116 yX7_isRecord, .instanceMethod yX7_isRecord, .selects RX7 yX7_isRecord yX7_isRecord, .initialized RX7, .code yX7_isRecord cX7_isRecord 2 (some .boolean), .fieldLink RX7 53 "CatalogueLoaderModel" "isIn" "[Z", .methodLink RX7 78 yX7_in, .static yX7_in, .code yX7_in cX7_in 3 (some .boolean)] ++ wsX70)
def wsX7_hit : List Cond := .code yX7_hit cX7_hit 2 (some .int) :: ([.fieldLink RX7 82 "CatalogueLoaderModel" "loadMany" "I", .fieldLink RX7 74 "CatalogueLoaderModel" "thrown" "I", .fieldLink RX7 41 "CatalogueLoaderModel" "hits" "[I", .methodLink RX7 78 yX7_in, .static yX7_in, .initialized RX7, .code yX7_in cX7_in 3 (some .boolean)] ++ wsX70)
def wsX7_keyOf : List Cond := .code yX7_keyOf cX7_keyOf 3 (some .int) :: ([.fieldLink RX7 74 "CatalogueLoaderModel" "thrown" "I", .fieldLink RX7 56 "CatalogueLoaderModel" "keys" "[I", .methodLink RX7 116 yX7_isRecord, .instanceMethod yX7_isRecord, .selects RX7 yX7_isRecord yX7_isRecord, .initialized RX7, .code yX7_isRecord cX7_isRecord 2 (some .boolean), .fieldLink RX7 53 "CatalogueLoaderModel" "isIn" "[Z", .methodLink RX7 78 yX7_in, .static yX7_in, .code yX7_in cX7_in 3 (some .boolean)] ++ wsX70)
def wsX7_fieldOf : List Cond := .code yX7_fieldOf cX7_fieldOf 3 (some .int) :: ([.fieldLink RX7 74 "CatalogueLoaderModel" "thrown" "I", .fieldLink RX7 59 "CatalogueLoaderModel" "fields" "[I", .methodLink RX7 116 yX7_isRecord, .instanceMethod yX7_isRecord, .selects RX7 yX7_isRecord yX7_isRecord, .initialized RX7, .code yX7_isRecord cX7_isRecord 2 (some .boolean), .fieldLink RX7 53 "CatalogueLoaderModel" "isIn" "[Z", .methodLink RX7 78 yX7_in, .static yX7_in, .code yX7_in cX7_in 3 (some .boolean)] ++ wsX70)
def wsX7_sourceOf : List Cond := .code yX7_sourceOf cX7_sourceOf 3 (some .int) :: ([.fieldLink RX7 74 "CatalogueLoaderModel" "thrown" "I", .fieldLink RX7 62 "CatalogueLoaderModel" "sources" "[I", .methodLink RX7 116 yX7_isRecord, .instanceMethod yX7_isRecord, .selects RX7 yX7_isRecord yX7_isRecord, .initialized RX7, .code yX7_isRecord cX7_isRecord 2 (some .boolean), .fieldLink RX7 53 "CatalogueLoaderModel" "isIn" "[Z", .methodLink RX7 78 yX7_in, .static yX7_in, .code yX7_in cX7_in 3 (some .boolean)] ++ wsX70)
def wsX7_holdings : List Cond := .code yX7_holdings cX7_holdings 2 (some .int) :: ([.fieldLink RX7 74 "CatalogueLoaderModel" "thrown" "I", .fieldLink RX7 68 "CatalogueLoaderModel" "held" "[I", .methodLink RX7 116 yX7_isRecord, .instanceMethod yX7_isRecord, .selects RX7 yX7_isRecord yX7_isRecord, .initialized RX7, .code yX7_isRecord cX7_isRecord 2 (some .boolean), .fieldLink RX7 53 "CatalogueLoaderModel" "isIn" "[Z", .methodLink RX7 78 yX7_in, .static yX7_in, .code yX7_in cX7_in 3 (some .boolean)] ++ wsX70)
def wsX7_sum : List Cond := .code yX7_sum cX7_sum 5 (some .int) :: ([.fieldLink RX7 56 "CatalogueLoaderModel" "keys" "[I", .fieldLink RX7 59 "CatalogueLoaderModel" "fields" "[I", .fieldLink RX7 53 "CatalogueLoaderModel" "isIn" "[Z", .fieldLink RX7 68 "CatalogueLoaderModel" "held" "[I"] ++ wsX70)
def wsX7_digest : List Cond := .code yX7_digest cX7_digest 1 (some .int) :: ([.fieldLink RX7 74 "CatalogueLoaderModel" "thrown" "I", .methodLink RX7 130 yX7_sum, .instanceMethod yX7_sum, .selects RX7 yX7_sum yX7_sum, .initialized RX7, .code yX7_sum cX7_sum 5 (some .int), .fieldLink RX7 56 "CatalogueLoaderModel" "keys" "[I", .fieldLink RX7 59 "CatalogueLoaderModel" "fields" "[I", .fieldLink RX7 53 "CatalogueLoaderModel" "isIn" "[Z", .fieldLink RX7 68 "CatalogueLoaderModel" "held" "[I"] ++ wsX70)
def wsX7_digestAnew_r1 : List Cond := [Cond.fieldLink RX7 74 "CatalogueLoaderModel" "thrown" "I", Cond.methodLink RX7 123 yX7_makeAnew, Cond.instanceMethod yX7_makeAnew, Cond.selects RX7 yX7_makeAnew yX7_makeAnew, Cond.initialized RX7, Cond.code yX7_makeAnew cX7_makeAnew 2 none, Cond.fieldLink RX7 53 "CatalogueLoaderModel" "isIn" "[Z", Cond.fieldLink RX7 103 "CatalogueLoaderModel" "doneMany" "I", Cond.methodLink RX7 106 yX7_perform, Cond.instanceMethod yX7_perform, Cond.selects RX7 yX7_perform yX7_perform, Cond.code yX7_perform cX7_perform 4 none, Cond.fieldLink RX7 47 "CatalogueLoaderModel" "ones" "[I", Cond.fieldLink RX7 50 "CatalogueLoaderModel" "others" "[I", Cond.fieldLink RX7 44 "CatalogueLoaderModel" "kinds" "[I", Cond.fieldLink RX7 68 "CatalogueLoaderModel" "held" "[I", Cond.fieldLink RX7 65 "CatalogueLoaderModel" "isKept" "[Z", Cond.methodLink RX7 97 yX7_doLoad, Cond.instanceMethod yX7_doLoad, Cond.selects RX7 yX7_doLoad yX7_doLoad, Cond.code yX7_doLoad cX7_doLoad 3 none, Cond.fieldLink RX7 25 "CatalogueLoaderModel" "isOut" "[Z", Cond.fieldLink RX7 29 "CatalogueLoaderModel" "loadBatch" "[I", Cond.fieldLink RX7 41 "CatalogueLoaderModel" "hits" "[I"]
def wsX7_digestAnew_r2 : List Cond := [Cond.methodLink RX7 85 yX7_match, Cond.instanceMethod yX7_match, Cond.selects RX7 yX7_match yX7_match, Cond.code yX7_match cX7_match 7 (some .int), Cond.fieldLink RX7 35 "CatalogueLoaderModel" "loadKeys" "[I", Cond.fieldLink RX7 16 "CatalogueLoaderModel" "order" "[I", Cond.fieldLink RX7 56 "CatalogueLoaderModel" "keys" "[I", Cond.methodLink RX7 89 yX7_makeRecord, Cond.instanceMethod yX7_makeRecord, Cond.selects RX7 yX7_makeRecord yX7_makeRecord, Cond.code yX7_makeRecord cX7_makeRecord 4 none, Cond.fieldLink RX7 38 "CatalogueLoaderModel" "loadFields" "[I", Cond.fieldLink RX7 59 "CatalogueLoaderModel" "fields" "[I", Cond.fieldLink RX7 62 "CatalogueLoaderModel" "sources" "[I", Cond.fieldLink RX7 32 "CatalogueLoaderModel" "loadSource" "[I", Cond.methodLink RX7 93 yX7_layOver, Cond.instanceMethod yX7_layOver, Cond.selects RX7 yX7_layOver yX7_layOver, Cond.code yX7_layOver cX7_layOver 7 none, Cond.fieldLink RX7 13 "CatalogueLoaderModel" "rules" "[I", Cond.fieldLink RX7 7 "CatalogueLoaderModel" "ranks" "[I", Cond.methodLink RX7 100 yX7_doMerge, Cond.instanceMethod yX7_doMerge, Cond.selects RX7 yX7_doMerge yX7_doMerge]
def wsX7_digestAnew_r3 : List Cond := [Cond.code yX7_doMerge cX7_doMerge 5 none, Cond.methodLink RX7 130 yX7_sum, Cond.instanceMethod yX7_sum, Cond.selects RX7 yX7_sum yX7_sum, Cond.code yX7_sum cX7_sum 5 (some .int)]
def wsX7_digestAnew : List Cond := .code yX7_digestAnew cX7_digestAnew 1 (some .int) :: ((wsX7_digestAnew_r1 ++ (wsX7_digestAnew_r2 ++ wsX7_digestAnew_r3)) ++ wsX70)
def wsJ9_max_7cf53 : List Cond := .code yJ9_max_7cf53 cJ9_max_7cf53 2 (some .int) :: ([])
end
section
set_option maxRecDepth 20000 in
theorem ggX0_init_X4_init : GoodIn wsX0_init wsX4_init := goodIn_r _ [19, 20, 2, 3, 21, 22, 23, 24, 25, 26, 27, 28, 29, 30, 40] (by decide +kernel) (by decide +kernel)
set_option maxRecDepth 20000 in
theorem gX0_init_X4_init : GoodIn wsX0_init (wsX4_init) := ggX0_init_X4_init
set_option maxRecDepth 20000 in
theorem ggX0_init_X1_init : GoodIn wsX0_init wsX1_init := goodIn_r _ [33, 34, 2, 3, 35, 36, 37, 22, 23, 24, 25, 38, 39, 28, 29, 30, 48, 49, 50] (by decide +kernel) (by decide +kernel)
set_option maxRecDepth 20000 in
theorem gX0_init_X1_init : GoodIn wsX0_init (wsX1_init) := ggX0_init_X1_init
theorem dX0_init_0 : decode cX0_init 0 = .ok (.aload_n 0, 1) := by decide +kernel
theorem dX0_init_1 : decode cX0_init 1 = .ok (.invokespecial 3, 3) := by decide +kernel
theorem dX0_init_4 : decode cX0_init 4 = .ok (.aload_n 0, 1) := by decide +kernel
theorem dX0_init_5 : decode cX0_init 5 = .ok (.new 9, 3) := by decide +kernel
theorem dX0_init_8 : decode cX0_init 8 = .ok (.dup, 1) := by decide +kernel
theorem dX0_init_9 : decode cX0_init 9 = .ok (.bipush 80, 2) := by decide +kernel
theorem dX0_init_11 : decode cX0_init 11 = .ok (.iconst 0, 1) := by decide +kernel
theorem dX0_init_12 : decode cX0_init 12 = .ok (.invokespecial 11, 3) := by decide +kernel
theorem dX0_init_15 : decode cX0_init 15 = .ok (.putfield 14, 3) := by decide +kernel
theorem dX0_init_18 : decode cX0_init 18 = .ok (.aload_n 0, 1) := by decide +kernel
theorem dX0_init_19 : decode cX0_init 19 = .ok (.new 20, 3) := by decide +kernel
theorem dX0_init_22 : decode cX0_init 22 = .ok (.dup, 1) := by decide +kernel
theorem dX0_init_23 : decode cX0_init 23 = .ok (.bipush 80, 2) := by decide +kernel
theorem dX0_init_25 : decode cX0_init 25 = .ok (.iconst 3, 1) := by decide +kernel
theorem dX0_init_26 : decode cX0_init 26 = .ok (.iconst (-1), 1) := by decide +kernel
theorem dX0_init_27 : decode cX0_init 27 = .ok (.invokespecial 22, 3) := by decide +kernel
theorem dX0_init_30 : decode cX0_init 30 = .ok (.putfield 25, 3) := by decide +kernel
theorem dX0_init_33 : decode cX0_init 33 = .ok (.aload_n 0, 1) := by decide +kernel
theorem dX0_init_34 : decode cX0_init 34 = .ok (.new 20, 3) := by decide +kernel
theorem dX0_init_37 : decode cX0_init 37 = .ok (.dup, 1) := by decide +kernel
theorem dX0_init_38 : decode cX0_init 38 = .ok (.bipush 80, 2) := by decide +kernel
theorem dX0_init_40 : decode cX0_init 40 = .ok (.iconst 4, 1) := by decide +kernel
theorem dX0_init_41 : decode cX0_init 41 = .ok (.iconst (-1), 1) := by decide +kernel
theorem dX0_init_42 : decode cX0_init 42 = .ok (.invokespecial 22, 3) := by decide +kernel
theorem dX0_init_45 : decode cX0_init 45 = .ok (.putfield 29, 3) := by decide +kernel
theorem dX0_init_48 : decode cX0_init 48 = .ok (.aload_n 0, 1) := by decide +kernel
theorem dX0_init_49 : decode cX0_init 49 = .ok (.new 20, 3) := by decide +kernel
theorem dX0_init_52 : decode cX0_init 52 = .ok (.dup, 1) := by decide +kernel
theorem dX0_init_53 : decode cX0_init 53 = .ok (.bipush 80, 2) := by decide +kernel
theorem dX0_init_55 : decode cX0_init 55 = .ok (.iconst 4, 1) := by decide +kernel
theorem dX0_init_56 : decode cX0_init 56 = .ok (.iconst (-1), 1) := by decide +kernel
theorem dX0_init_57 : decode cX0_init 57 = .ok (.invokespecial 22, 3) := by decide +kernel
theorem dX0_init_60 : decode cX0_init 60 = .ok (.putfield 32, 3) := by decide +kernel
theorem dX0_init_63 : decode cX0_init 63 = .ok (.aload_n 0, 1) := by decide +kernel
theorem dX0_init_64 : decode cX0_init 64 = .ok (.new 20, 3) := by decide +kernel
theorem dX0_init_67 : decode cX0_init 67 = .ok (.dup, 1) := by decide +kernel
theorem dX0_init_68 : decode cX0_init 68 = .ok (.bipush 80, 2) := by decide +kernel
theorem dX0_init_70 : decode cX0_init 70 = .ok (.iconst 4, 1) := by decide +kernel
theorem dX0_init_71 : decode cX0_init 71 = .ok (.iconst 0, 1) := by decide +kernel
theorem dX0_init_72 : decode cX0_init 72 = .ok (.invokespecial 22, 3) := by decide +kernel
theorem dX0_init_75 : decode cX0_init 75 = .ok (.putfield 35, 3) := by decide +kernel
theorem dX0_init_78 : decode cX0_init 78 = .ok (.aload_n 0, 1) := by decide +kernel
theorem dX0_init_79 : decode cX0_init 79 = .ok (.new 9, 3) := by decide +kernel
theorem dX0_init_82 : decode cX0_init 82 = .ok (.dup, 1) := by decide +kernel
theorem dX0_init_83 : decode cX0_init 83 = .ok (.bipush 80, 2) := by decide +kernel
theorem dX0_init_85 : decode cX0_init 85 = .ok (.iconst 0, 1) := by decide +kernel
theorem dX0_init_86 : decode cX0_init 86 = .ok (.invokespecial 11, 3) := by decide +kernel
theorem dX0_init_89 : decode cX0_init 89 = .ok (.putfield 38, 3) := by decide +kernel
theorem dX0_init_92 : decode cX0_init 92 = .ok (.aload_n 0, 1) := by decide +kernel
theorem dX0_init_93 : decode cX0_init 93 = .ok (.new 9, 3) := by decide +kernel
theorem dX0_init_96 : decode cX0_init 96 = .ok (.dup, 1) := by decide +kernel
theorem dX0_init_97 : decode cX0_init 97 = .ok (.bipush 80, 2) := by decide +kernel
theorem dX0_init_99 : decode cX0_init 99 = .ok (.iconst (-1), 1) := by decide +kernel
theorem dX0_init_100 : decode cX0_init 100 = .ok (.invokespecial 11, 3) := by decide +kernel
theorem dX0_init_103 : decode cX0_init 103 = .ok (.putfield 41, 3) := by decide +kernel
theorem dX0_init_106 : decode cX0_init 106 = .ok (.return_, 1) := by decide +kernel
set_option maxRecDepth 20000 in
theorem ggX0_clear_X4_fill : GoodIn wsX0_clear wsX4_fill := goodIn_r _ [12, 13, 14, 15, 16, 17, 32] (by decide +kernel) (by decide +kernel)
set_option maxRecDepth 20000 in
theorem gX0_clear_X4_fill : GoodIn wsX0_clear (wsV RX0 44 RX4 yX4_fill wsX4_fill) := goodIn_app (goodIn_of _ (by decide +kernel)) ggX0_clear_X4_fill
set_option maxRecDepth 20000 in
theorem ggX0_clear_X1_fill : GoodIn wsX0_clear wsX1_fill := goodIn_r _ [22, 23, 24, 15, 16, 17, 33, 34, 35] (by decide +kernel) (by decide +kernel)
set_option maxRecDepth 20000 in
theorem gX0_clear_X1_fill : GoodIn wsX0_clear (wsV RX0 48 RX1 yX1_fill wsX1_fill) := goodIn_app (goodIn_of _ (by decide +kernel)) ggX0_clear_X1_fill
theorem dX0_clear_0 : decode cX0_clear 0 = .ok (.aload_n 0, 1) := by decide +kernel
theorem dX0_clear_1 : decode cX0_clear 1 = .ok (.getfield 14, 3) := by decide +kernel
theorem dX0_clear_4 : decode cX0_clear 4 = .ok (.iconst 0, 1) := by decide +kernel
theorem dX0_clear_5 : decode cX0_clear 5 = .ok (.invokevirtual 44, 3) := by decide +kernel
theorem dX0_clear_8 : decode cX0_clear 8 = .ok (.aload_n 0, 1) := by decide +kernel
theorem dX0_clear_9 : decode cX0_clear 9 = .ok (.getfield 25, 3) := by decide +kernel
theorem dX0_clear_12 : decode cX0_clear 12 = .ok (.iconst (-1), 1) := by decide +kernel
theorem dX0_clear_13 : decode cX0_clear 13 = .ok (.invokevirtual 48, 3) := by decide +kernel
theorem dX0_clear_16 : decode cX0_clear 16 = .ok (.aload_n 0, 1) := by decide +kernel
theorem dX0_clear_17 : decode cX0_clear 17 = .ok (.getfield 29, 3) := by decide +kernel
theorem dX0_clear_20 : decode cX0_clear 20 = .ok (.iconst (-1), 1) := by decide +kernel
theorem dX0_clear_21 : decode cX0_clear 21 = .ok (.invokevirtual 48, 3) := by decide +kernel
theorem dX0_clear_24 : decode cX0_clear 24 = .ok (.aload_n 0, 1) := by decide +kernel
theorem dX0_clear_25 : decode cX0_clear 25 = .ok (.getfield 32, 3) := by decide +kernel
theorem dX0_clear_28 : decode cX0_clear 28 = .ok (.iconst (-1), 1) := by decide +kernel
theorem dX0_clear_29 : decode cX0_clear 29 = .ok (.invokevirtual 48, 3) := by decide +kernel
theorem dX0_clear_32 : decode cX0_clear 32 = .ok (.aload_n 0, 1) := by decide +kernel
theorem dX0_clear_33 : decode cX0_clear 33 = .ok (.getfield 35, 3) := by decide +kernel
theorem dX0_clear_36 : decode cX0_clear 36 = .ok (.iconst 0, 1) := by decide +kernel
theorem dX0_clear_37 : decode cX0_clear 37 = .ok (.invokevirtual 48, 3) := by decide +kernel
theorem dX0_clear_40 : decode cX0_clear 40 = .ok (.aload_n 0, 1) := by decide +kernel
theorem dX0_clear_41 : decode cX0_clear 41 = .ok (.getfield 38, 3) := by decide +kernel
theorem dX0_clear_44 : decode cX0_clear 44 = .ok (.iconst 0, 1) := by decide +kernel
theorem dX0_clear_45 : decode cX0_clear 45 = .ok (.invokevirtual 44, 3) := by decide +kernel
theorem dX0_clear_48 : decode cX0_clear 48 = .ok (.aload_n 0, 1) := by decide +kernel
theorem dX0_clear_49 : decode cX0_clear 49 = .ok (.getfield 41, 3) := by decide +kernel
theorem dX0_clear_52 : decode cX0_clear 52 = .ok (.iconst (-1), 1) := by decide +kernel
theorem dX0_clear_53 : decode cX0_clear 53 = .ok (.invokevirtual 44, 3) := by decide +kernel
theorem dX0_clear_56 : decode cX0_clear 56 = .ok (.return_, 1) := by decide +kernel
set_option maxRecDepth 20000 in
theorem ggX0_has_X4_get : GoodIn wsX0_has wsX4_get := goodIn_r _ [6, 7, 15] (by decide +kernel) (by decide +kernel)
set_option maxRecDepth 20000 in
theorem gX0_has_X4_get : GoodIn wsX0_has (wsV RX0 49 RX4 yX4_get wsX4_get) := goodIn_app (goodIn_of _ (by decide +kernel)) ggX0_has_X4_get
theorem dX0_has_0 : decode cX0_has 0 = .ok (.aload_n 0, 1) := by decide +kernel
theorem dX0_has_1 : decode cX0_has 1 = .ok (.getfield 14, 3) := by decide +kernel
theorem dX0_has_4 : decode cX0_has 4 = .ok (.iload_n 1, 1) := by decide +kernel
theorem dX0_has_5 : decode cX0_has 5 = .ok (.invokevirtual 49, 3) := by decide +kernel
theorem dX0_has_8 : decode cX0_has 8 = .ok (.iconst 1, 1) := by decide +kernel
theorem dX0_has_9 : decode cX0_has 9 = .ok (.if_icmp .ne 7, 3) := by decide +kernel
theorem dX0_has_12 : decode cX0_has 12 = .ok (.iconst 1, 1) := by decide +kernel
theorem dX0_has_13 : decode cX0_has 13 = .ok (.goto 4, 3) := by decide +kernel
theorem dX0_has_16 : decode cX0_has 16 = .ok (.iconst 0, 1) := by decide +kernel
theorem dX0_has_17 : decode cX0_has 17 = .ok (.ireturn, 1) := by decide +kernel
set_option maxRecDepth 20000 in
theorem ggX0_count_X0_has : GoodIn wsX0_count wsX0_has := goodIn_r _ [5, 6, 7, 8, 9, 10, 11, 12, 13, 14, 15, 16, 17, 18, 19, 20] (by decide +kernel) (by decide +kernel)
set_option maxRecDepth 20000 in
theorem gX0_count_X0_has : GoodIn wsX0_count (wsV RX0 53 RX0 yX0_has wsX0_has) := goodIn_app (goodIn_of _ (by decide +kernel)) ggX0_count_X0_has
theorem dX0_count_0 : decode cX0_count 0 = .ok (.iconst 0, 1) := by decide +kernel
theorem dX0_count_1 : decode cX0_count 1 = .ok (.istore_n 1, 1) := by decide +kernel
theorem dX0_count_2 : decode cX0_count 2 = .ok (.iconst 0, 1) := by decide +kernel
theorem dX0_count_3 : decode cX0_count 3 = .ok (.istore_n 2, 1) := by decide +kernel
theorem dX0_count_4 : decode cX0_count 4 = .ok (.iload_n 2, 1) := by decide +kernel
theorem dX0_count_5 : decode cX0_count 5 = .ok (.bipush 80, 2) := by decide +kernel
theorem dX0_count_7 : decode cX0_count 7 = .ok (.if_icmp .ge 20, 3) := by decide +kernel
theorem dX0_count_10 : decode cX0_count 10 = .ok (.aload_n 0, 1) := by decide +kernel
theorem dX0_count_11 : decode cX0_count 11 = .ok (.iload_n 2, 1) := by decide +kernel
theorem dX0_count_12 : decode cX0_count 12 = .ok (.invokevirtual 53, 3) := by decide +kernel
theorem dX0_count_15 : decode cX0_count 15 = .ok (.ifCond .eq 6, 3) := by decide +kernel
theorem dX0_count_18 : decode cX0_count 18 = .ok (.iinc 1 1, 3) := by decide +kernel
theorem dX0_count_21 : decode cX0_count 21 = .ok (.iinc 2 1, 3) := by decide +kernel
theorem dX0_count_24 : decode cX0_count 24 = .ok (.goto (-20), 3) := by decide +kernel
theorem dX0_count_27 : decode cX0_count 27 = .ok (.iload_n 1, 1) := by decide +kernel
theorem dX0_count_28 : decode cX0_count 28 = .ok (.ireturn, 1) := by decide +kernel
set_option maxRecDepth 20000 in
theorem ggX0_take_X3_isLeftOut : GoodIn wsX0_take wsX3_isLeftOut := goodIn_r _ [7, 8, 9, 10, 11, 12, 13, 14, 15, 69, 70, 71, 72, 73, 74, 75, 76] (by decide +kernel) (by decide +kernel)
set_option maxRecDepth 20000 in
theorem gX0_take_X3_isLeftOut : GoodIn wsX0_take (wsV RX0 57 RX3 yX3_isLeftOut wsX3_isLeftOut) := goodIn_app (goodIn_of _ (by decide +kernel)) ggX0_take_X3_isLeftOut
set_option maxRecDepth 20000 in
theorem ggX0_take_X0_target : GoodIn wsX0_take wsX0_target := goodIn_r _ [20, 21, 11, 12, 13, 14, 15, 22, 23, 24, 25, 26, 27, 28, 29, 30, 31, 32, 19, 33, 1, 34, 77, 78, 79, 69, 70, 71, 72, 73, 74, 75, 76, 80, 81, 82, 62, 63, 64, 65, 66, 67, 68] (by decide +kernel) (by decide +kernel)
set_option maxRecDepth 20000 in
theorem gX0_take_X0_target : GoodIn wsX0_take (wsV RX0 62 RX0 yX0_target wsX0_target) := goodIn_app (goodIn_of _ (by decide +kernel)) ggX0_take_X0_target
set_option maxRecDepth 20000 in
theorem ggX0_take_X4_set : GoodIn wsX0_take wsX4_set := goodIn_r _ [38, 15, 76] (by decide +kernel) (by decide +kernel)
set_option maxRecDepth 20000 in
theorem gX0_take_X4_set : GoodIn wsX0_take (wsV RX0 66 RX4 yX4_set wsX4_set) := goodIn_app (goodIn_of _ (by decide +kernel)) ggX0_take_X4_set
set_option maxRecDepth 20000 in
theorem ggX0_take_X0_layKeys : GoodIn wsX0_take wsX0_layKeys := goodIn_r _ [42, 34, 22, 23, 24, 25, 26, 27, 28, 29, 43, 44, 45, 46, 62, 63, 64, 65, 66, 67, 68, 69, 70, 71, 72, 73, 74, 75, 80, 81, 82] (by decide +kernel) (by decide +kernel)
set_option maxRecDepth 20000 in
theorem gX0_take_X0_layKeys : GoodIn wsX0_take (wsV RX0 69 RX0 yX0_layKeys wsX0_layKeys) := goodIn_app (goodIn_of _ (by decide +kernel)) ggX0_take_X0_layKeys
set_option maxRecDepth 20000 in
theorem ggX0_take_X0_layFields : GoodIn wsX0_take wsX0_layFields := goodIn_r _ [50, 51, 52, 53, 21, 11, 12, 13, 14, 15, 22, 23, 24, 25, 26, 27, 28, 29, 54, 55, 56, 57, 58, 59, 60, 61, 43, 44, 45, 46, 69, 70, 71, 72, 73, 74, 75, 62, 63, 64, 65, 66, 67, 68, 76, 80, 81, 82, 77, 78, 79] (by decide +kernel) (by decide +kernel)
set_option maxRecDepth 20000 in
theorem gX0_take_X0_layFields : GoodIn wsX0_take (wsV RX0 73 RX0 yX0_layFields wsX0_layFields) := goodIn_app (goodIn_of _ (by decide +kernel)) ggX0_take_X0_layFields
theorem dX0_take_0 : decode cX0_take 0 = .ok (.aload_n 2, 1) := by decide +kernel
theorem dX0_take_1 : decode cX0_take 1 = .ok (.iload_n 3, 1) := by decide +kernel
theorem dX0_take_2 : decode cX0_take 2 = .ok (.invokevirtual 57, 3) := by decide +kernel
theorem dX0_take_5 : decode cX0_take 5 = .ok (.ifCond .eq 7, 3) := by decide +kernel
theorem dX0_take_8 : decode cX0_take 8 = .ok (.iconst (-1), 1) := by decide +kernel
theorem dX0_take_9 : decode cX0_take 9 = .ok (.goto 10, 3) := by decide +kernel
theorem dX0_take_12 : decode cX0_take 12 = .ok (.aload_n 0, 1) := by decide +kernel
theorem dX0_take_13 : decode cX0_take 13 = .ok (.aload_n 1, 1) := by decide +kernel
theorem dX0_take_14 : decode cX0_take 14 = .ok (.aload_n 2, 1) := by decide +kernel
theorem dX0_take_15 : decode cX0_take 15 = .ok (.iload_n 3, 1) := by decide +kernel
theorem dX0_take_16 : decode cX0_take 16 = .ok (.invokevirtual 62, 3) := by decide +kernel
theorem dX0_take_19 : decode cX0_take 19 = .ok (.istore 4, 2) := by decide +kernel
theorem dX0_take_21 : decode cX0_take 21 = .ok (.iload 4, 2) := by decide +kernel
theorem dX0_take_23 : decode cX0_take 23 = .ok (.ifCond .lt 30, 3) := by decide +kernel
theorem dX0_take_26 : decode cX0_take 26 = .ok (.aload_n 0, 1) := by decide +kernel
theorem dX0_take_27 : decode cX0_take 27 = .ok (.getfield 14, 3) := by decide +kernel
theorem dX0_take_30 : decode cX0_take 30 = .ok (.iload 4, 2) := by decide +kernel
theorem dX0_take_32 : decode cX0_take 32 = .ok (.iconst 1, 1) := by decide +kernel
theorem dX0_take_33 : decode cX0_take 33 = .ok (.invokevirtual 66, 3) := by decide +kernel
theorem dX0_take_36 : decode cX0_take 36 = .ok (.aload_n 0, 1) := by decide +kernel
theorem dX0_take_37 : decode cX0_take 37 = .ok (.aload_n 2, 1) := by decide +kernel
theorem dX0_take_38 : decode cX0_take 38 = .ok (.iload_n 3, 1) := by decide +kernel
theorem dX0_take_39 : decode cX0_take 39 = .ok (.iload 4, 2) := by decide +kernel
theorem dX0_take_41 : decode cX0_take 41 = .ok (.invokevirtual 69, 3) := by decide +kernel
theorem dX0_take_44 : decode cX0_take 44 = .ok (.aload_n 0, 1) := by decide +kernel
theorem dX0_take_45 : decode cX0_take 45 = .ok (.aload_n 1, 1) := by decide +kernel
theorem dX0_take_46 : decode cX0_take 46 = .ok (.aload_n 2, 1) := by decide +kernel
theorem dX0_take_47 : decode cX0_take 47 = .ok (.iload_n 3, 1) := by decide +kernel
theorem dX0_take_48 : decode cX0_take 48 = .ok (.iload 4, 2) := by decide +kernel
theorem dX0_take_50 : decode cX0_take 50 = .ok (.invokevirtual 73, 3) := by decide +kernel
theorem dX0_take_53 : decode cX0_take 53 = .ok (.aload_n 0, 1) := by decide +kernel
theorem dX0_take_54 : decode cX0_take 54 = .ok (.getfield 41, 3) := by decide +kernel
theorem dX0_take_57 : decode cX0_take 57 = .ok (.iload_n 3, 1) := by decide +kernel
theorem dX0_take_58 : decode cX0_take 58 = .ok (.iload 4, 2) := by decide +kernel
theorem dX0_take_60 : decode cX0_take 60 = .ok (.invokevirtual 66, 3) := by decide +kernel
theorem dX0_take_63 : decode cX0_take 63 = .ok (.iload 4, 2) := by decide +kernel
theorem dX0_take_65 : decode cX0_take 65 = .ok (.ireturn, 1) := by decide +kernel
set_option maxRecDepth 20000 in
theorem ggX0_target_X4_get : GoodIn wsX0_target wsX4_get := goodIn_r _ [5, 6, 32] (by decide +kernel) (by decide +kernel)
set_option maxRecDepth 20000 in
theorem gX0_target_X4_get : GoodIn wsX0_target (wsV RX0 49 RX4 yX4_get wsX4_get) := goodIn_app (goodIn_of _ (by decide +kernel)) ggX0_target_X4_get
set_option maxRecDepth 20000 in
theorem ggX0_target_X1_get : GoodIn wsX0_target wsX1_get := goodIn_r _ [11, 12, 13, 14, 33, 34, 35] (by decide +kernel) (by decide +kernel)
set_option maxRecDepth 20000 in
theorem gX0_target_X1_get : GoodIn wsX0_target (wsV RX0 83 RX1 yX1_get wsX1_get) := goodIn_app (goodIn_of _ (by decide +kernel)) ggX0_target_X1_get
set_option maxRecDepth 20000 in
theorem ggX0_target_X0_find : GoodIn wsX0_target wsX0_find := goodIn_r _ [19, 20, 21, 1, 2, 3, 4, 5, 6, 7, 8, 9, 10, 11, 12, 13, 14, 36, 37, 38, 39, 40, 41, 42, 32, 33, 34, 35] (by decide +kernel) (by decide +kernel)
set_option maxRecDepth 20000 in
theorem gX0_target_X0_find : GoodIn wsX0_target (wsV RX0 86 RX0 yX0_find wsX0_find) := goodIn_app (goodIn_of _ (by decide +kernel)) ggX0_target_X0_find
theorem dX0_target_0 : decode cX0_target 0 = .ok (.iconst 0, 1) := by decide +kernel
theorem dX0_target_1 : decode cX0_target 1 = .ok (.istore 4, 2) := by decide +kernel
theorem dX0_target_3 : decode cX0_target 3 = .ok (.iload 4, 2) := by decide +kernel
theorem dX0_target_5 : decode cX0_target 5 = .ok (.iconst 3, 1) := by decide +kernel
theorem dX0_target_6 : decode cX0_target 6 = .ok (.if_icmp .ge 47, 3) := by decide +kernel
theorem dX0_target_9 : decode cX0_target 9 = .ok (.aload_n 1, 1) := by decide +kernel
theorem dX0_target_10 : decode cX0_target 10 = .ok (.getfield 77, 3) := by decide +kernel
theorem dX0_target_13 : decode cX0_target 13 = .ok (.iload 4, 2) := by decide +kernel
theorem dX0_target_15 : decode cX0_target 15 = .ok (.invokevirtual 49, 3) := by decide +kernel
theorem dX0_target_18 : decode cX0_target 18 = .ok (.istore 5, 2) := by decide +kernel
theorem dX0_target_20 : decode cX0_target 20 = .ok (.aload_n 0, 1) := by decide +kernel
theorem dX0_target_21 : decode cX0_target 21 = .ok (.iload 5, 2) := by decide +kernel
theorem dX0_target_23 : decode cX0_target 23 = .ok (.aload_n 2, 1) := by decide +kernel
theorem dX0_target_24 : decode cX0_target 24 = .ok (.getfield 82, 3) := by decide +kernel
theorem dX0_target_27 : decode cX0_target 27 = .ok (.iload_n 3, 1) := by decide +kernel
theorem dX0_target_28 : decode cX0_target 28 = .ok (.iload 5, 2) := by decide +kernel
theorem dX0_target_30 : decode cX0_target 30 = .ok (.invokevirtual 83, 3) := by decide +kernel
theorem dX0_target_33 : decode cX0_target 33 = .ok (.invokevirtual 86, 3) := by decide +kernel
theorem dX0_target_36 : decode cX0_target 36 = .ok (.istore 6, 2) := by decide +kernel
theorem dX0_target_38 : decode cX0_target 38 = .ok (.iload 6, 2) := by decide +kernel
theorem dX0_target_40 : decode cX0_target 40 = .ok (.iconst (-1), 1) := by decide +kernel
theorem dX0_target_41 : decode cX0_target 41 = .ok (.if_icmp .eq 6, 3) := by decide +kernel
theorem dX0_target_44 : decode cX0_target 44 = .ok (.iload 6, 2) := by decide +kernel
theorem dX0_target_46 : decode cX0_target 46 = .ok (.ireturn, 1) := by decide +kernel
theorem dX0_target_47 : decode cX0_target 47 = .ok (.iinc 4 1, 3) := by decide +kernel
theorem dX0_target_50 : decode cX0_target 50 = .ok (.goto (-47), 3) := by decide +kernel
theorem dX0_target_53 : decode cX0_target 53 = .ok (.iload_n 3, 1) := by decide +kernel
theorem dX0_target_54 : decode cX0_target 54 = .ok (.ireturn, 1) := by decide +kernel
set_option maxRecDepth 20000 in
theorem ggX0_find_X4_get : GoodIn wsX0_find wsX4_get := goodIn_r _ [7, 8, 24] (by decide +kernel) (by decide +kernel)
set_option maxRecDepth 20000 in
theorem gX0_find_X4_get : GoodIn wsX0_find (wsV RX0 49 RX4 yX4_get wsX4_get) := goodIn_app (goodIn_of _ (by decide +kernel)) ggX0_find_X4_get
set_option maxRecDepth 20000 in
theorem ggX0_find_X1_get : GoodIn wsX0_find wsX1_get := goodIn_r _ [13, 14, 15, 16, 25, 26, 27] (by decide +kernel) (by decide +kernel)
set_option maxRecDepth 20000 in
theorem gX0_find_X1_get : GoodIn wsX0_find (wsV RX0 83 RX1 yX1_get wsX1_get) := goodIn_app (goodIn_of _ (by decide +kernel)) ggX0_find_X1_get
theorem dX0_find_0 : decode cX0_find 0 = .ok (.iload_n 2, 1) := by decide +kernel
theorem dX0_find_1 : decode cX0_find 1 = .ok (.iconst (-1), 1) := by decide +kernel
theorem dX0_find_2 : decode cX0_find 2 = .ok (.if_icmp .ne 5, 3) := by decide +kernel
theorem dX0_find_5 : decode cX0_find 5 = .ok (.iconst (-1), 1) := by decide +kernel
theorem dX0_find_6 : decode cX0_find 6 = .ok (.ireturn, 1) := by decide +kernel
theorem dX0_find_7 : decode cX0_find 7 = .ok (.iconst (-1), 1) := by decide +kernel
theorem dX0_find_8 : decode cX0_find 8 = .ok (.istore_n 3, 1) := by decide +kernel
theorem dX0_find_9 : decode cX0_find 9 = .ok (.iconst 0, 1) := by decide +kernel
theorem dX0_find_10 : decode cX0_find 10 = .ok (.istore 4, 2) := by decide +kernel
theorem dX0_find_12 : decode cX0_find 12 = .ok (.iload 4, 2) := by decide +kernel
theorem dX0_find_14 : decode cX0_find 14 = .ok (.bipush 80, 2) := by decide +kernel
theorem dX0_find_16 : decode cX0_find 16 = .ok (.if_icmp .ge 47, 3) := by decide +kernel
theorem dX0_find_19 : decode cX0_find 19 = .ok (.aload_n 0, 1) := by decide +kernel
theorem dX0_find_20 : decode cX0_find 20 = .ok (.getfield 14, 3) := by decide +kernel
theorem dX0_find_23 : decode cX0_find 23 = .ok (.iload 4, 2) := by decide +kernel
theorem dX0_find_25 : decode cX0_find 25 = .ok (.invokevirtual 49, 3) := by decide +kernel
theorem dX0_find_28 : decode cX0_find 28 = .ok (.iconst 1, 1) := by decide +kernel
theorem dX0_find_29 : decode cX0_find 29 = .ok (.if_icmp .ne 28, 3) := by decide +kernel
theorem dX0_find_32 : decode cX0_find 32 = .ok (.aload_n 0, 1) := by decide +kernel
theorem dX0_find_33 : decode cX0_find 33 = .ok (.getfield 25, 3) := by decide +kernel
theorem dX0_find_36 : decode cX0_find 36 = .ok (.iload 4, 2) := by decide +kernel
theorem dX0_find_38 : decode cX0_find 38 = .ok (.iload_n 1, 1) := by decide +kernel
theorem dX0_find_39 : decode cX0_find 39 = .ok (.invokevirtual 83, 3) := by decide +kernel
theorem dX0_find_42 : decode cX0_find 42 = .ok (.iload_n 2, 1) := by decide +kernel
theorem dX0_find_43 : decode cX0_find 43 = .ok (.if_icmp .ne 14, 3) := by decide +kernel
theorem dX0_find_46 : decode cX0_find 46 = .ok (.iload_n 3, 1) := by decide +kernel
theorem dX0_find_47 : decode cX0_find 47 = .ok (.iconst (-1), 1) := by decide +kernel
theorem dX0_find_48 : decode cX0_find 48 = .ok (.if_icmp .eq 6, 3) := by decide +kernel
theorem dX0_find_51 : decode cX0_find 51 = .ok (.bipush (-2), 2) := by decide +kernel
theorem dX0_find_53 : decode cX0_find 53 = .ok (.ireturn, 1) := by decide +kernel
theorem dX0_find_54 : decode cX0_find 54 = .ok (.iload 4, 2) := by decide +kernel
theorem dX0_find_56 : decode cX0_find 56 = .ok (.istore_n 3, 1) := by decide +kernel
theorem dX0_find_57 : decode cX0_find 57 = .ok (.iinc 4 1, 3) := by decide +kernel
theorem dX0_find_60 : decode cX0_find 60 = .ok (.goto (-48), 3) := by decide +kernel
theorem dX0_find_63 : decode cX0_find 63 = .ok (.iload_n 3, 1) := by decide +kernel
theorem dX0_find_64 : decode cX0_find 64 = .ok (.ireturn, 1) := by decide +kernel
set_option maxRecDepth 20000 in
theorem ggX0_layKeys_X1_get : GoodIn wsX0_layKeys wsX1_get := goodIn_r _ [6, 7, 8, 9, 28, 29, 30] (by decide +kernel) (by decide +kernel)
set_option maxRecDepth 20000 in
theorem gX0_layKeys_X1_get : GoodIn wsX0_layKeys (wsV RX0 83 RX1 yX1_get wsX1_get) := goodIn_app (goodIn_of _ (by decide +kernel)) ggX0_layKeys_X1_get
set_option maxRecDepth 20000 in
theorem ggX0_layKeys_X1_set : GoodIn wsX0_layKeys wsX1_set := goodIn_r _ [13, 7, 8, 9, 28, 29, 30] (by decide +kernel) (by decide +kernel)
set_option maxRecDepth 20000 in
theorem gX0_layKeys_X1_set : GoodIn wsX0_layKeys (wsV RX0 89 RX1 yX1_set wsX1_set) := goodIn_app (goodIn_of _ (by decide +kernel)) ggX0_layKeys_X1_set
theorem dX0_layKeys_0 : decode cX0_layKeys 0 = .ok (.iconst 0, 1) := by decide +kernel
theorem dX0_layKeys_1 : decode cX0_layKeys 1 = .ok (.istore 4, 2) := by decide +kernel
theorem dX0_layKeys_3 : decode cX0_layKeys 3 = .ok (.iload 4, 2) := by decide +kernel
theorem dX0_layKeys_5 : decode cX0_layKeys 5 = .ok (.iconst 3, 1) := by decide +kernel
theorem dX0_layKeys_6 : decode cX0_layKeys 6 = .ok (.if_icmp .ge 43, 3) := by decide +kernel
theorem dX0_layKeys_9 : decode cX0_layKeys 9 = .ok (.aload_n 0, 1) := by decide +kernel
theorem dX0_layKeys_10 : decode cX0_layKeys 10 = .ok (.getfield 25, 3) := by decide +kernel
theorem dX0_layKeys_13 : decode cX0_layKeys 13 = .ok (.iload_n 3, 1) := by decide +kernel
theorem dX0_layKeys_14 : decode cX0_layKeys 14 = .ok (.iload 4, 2) := by decide +kernel
theorem dX0_layKeys_16 : decode cX0_layKeys 16 = .ok (.invokevirtual 83, 3) := by decide +kernel
theorem dX0_layKeys_19 : decode cX0_layKeys 19 = .ok (.iconst (-1), 1) := by decide +kernel
theorem dX0_layKeys_20 : decode cX0_layKeys 20 = .ok (.if_icmp .ne 23, 3) := by decide +kernel
theorem dX0_layKeys_23 : decode cX0_layKeys 23 = .ok (.aload_n 0, 1) := by decide +kernel
theorem dX0_layKeys_24 : decode cX0_layKeys 24 = .ok (.getfield 25, 3) := by decide +kernel
theorem dX0_layKeys_27 : decode cX0_layKeys 27 = .ok (.iload_n 3, 1) := by decide +kernel
theorem dX0_layKeys_28 : decode cX0_layKeys 28 = .ok (.iload 4, 2) := by decide +kernel
theorem dX0_layKeys_30 : decode cX0_layKeys 30 = .ok (.aload_n 1, 1) := by decide +kernel
theorem dX0_layKeys_31 : decode cX0_layKeys 31 = .ok (.getfield 82, 3) := by decide +kernel
theorem dX0_layKeys_34 : decode cX0_layKeys 34 = .ok (.iload_n 2, 1) := by decide +kernel
theorem dX0_layKeys_35 : decode cX0_layKeys 35 = .ok (.iload 4, 2) := by decide +kernel
theorem dX0_layKeys_37 : decode cX0_layKeys 37 = .ok (.invokevirtual 83, 3) := by decide +kernel
theorem dX0_layKeys_40 : decode cX0_layKeys 40 = .ok (.invokevirtual 89, 3) := by decide +kernel
theorem dX0_layKeys_43 : decode cX0_layKeys 43 = .ok (.iinc 4 1, 3) := by decide +kernel
theorem dX0_layKeys_46 : decode cX0_layKeys 46 = .ok (.goto (-43), 3) := by decide +kernel
theorem dX0_layKeys_49 : decode cX0_layKeys 49 = .ok (.return_, 1) := by decide +kernel
set_option maxRecDepth 20000 in
theorem ggX0_layFields_X4_get : GoodIn wsX0_layFields wsX4_get := goodIn_r _ [8, 9, 44] (by decide +kernel) (by decide +kernel)
set_option maxRecDepth 20000 in
theorem gX0_layFields_X4_get : GoodIn wsX0_layFields (wsV RX0 49 RX4 yX4_get wsX4_get) := goodIn_app (goodIn_of _ (by decide +kernel)) ggX0_layFields_X4_get
set_option maxRecDepth 20000 in
theorem ggX0_layFields_X1_get : GoodIn wsX0_layFields wsX1_get := goodIn_r _ [14, 15, 16, 17, 45, 46, 47] (by decide +kernel) (by decide +kernel)
set_option maxRecDepth 20000 in
theorem gX0_layFields_X1_get : GoodIn wsX0_layFields (wsV RX0 83 RX1 yX1_get wsX1_get) := goodIn_app (goodIn_of _ (by decide +kernel)) ggX0_layFields_X1_get
set_option maxRecDepth 20000 in
theorem ggX0_layFields_X5_replaces : GoodIn wsX0_layFields wsX5_replaces := goodIn_r _ [22, 23, 24, 25, 5, 6, 7, 8, 9, 48, 49, 50, 44] (by decide +kernel) (by decide +kernel)
set_option maxRecDepth 20000 in
theorem gX0_layFields_X5_replaces : GoodIn wsX0_layFields (wsV RX0 94 RX5 yX5_replaces wsX5_replaces) := goodIn_app (goodIn_of _ (by decide +kernel)) ggX0_layFields_X5_replaces
set_option maxRecDepth 20000 in
theorem ggX0_layFields_X1_set : GoodIn wsX0_layFields wsX1_set := goodIn_r _ [29, 15, 16, 17, 45, 46, 47] (by decide +kernel) (by decide +kernel)
set_option maxRecDepth 20000 in
theorem gX0_layFields_X1_set : GoodIn wsX0_layFields (wsV RX0 89 RX1 yX1_set wsX1_set) := goodIn_app (goodIn_of _ (by decide +kernel)) ggX0_layFields_X1_set
theorem dX0_layFields_0 : decode cX0_layFields 0 = .ok (.aload_n 2, 1) := by decide +kernel
theorem dX0_layFields_1 : decode cX0_layFields 1 = .ok (.getfield 91, 3) := by decide +kernel
theorem dX0_layFields_4 : decode cX0_layFields 4 = .ok (.iload_n 3, 1) := by decide +kernel
theorem dX0_layFields_5 : decode cX0_layFields 5 = .ok (.invokevirtual 49, 3) := by decide +kernel
theorem dX0_layFields_8 : decode cX0_layFields 8 = .ok (.istore 5, 2) := by decide +kernel
theorem dX0_layFields_10 : decode cX0_layFields 10 = .ok (.iconst 0, 1) := by decide +kernel
theorem dX0_layFields_11 : decode cX0_layFields 11 = .ok (.istore 6, 2) := by decide +kernel
theorem dX0_layFields_13 : decode cX0_layFields 13 = .ok (.iload 6, 2) := by decide +kernel
theorem dX0_layFields_15 : decode cX0_layFields 15 = .ok (.iconst 4, 1) := by decide +kernel
theorem dX0_layFields_16 : decode cX0_layFields 16 = .ok (.if_icmp .ge 104, 3) := by decide +kernel
theorem dX0_layFields_19 : decode cX0_layFields 19 = .ok (.aload_n 2, 1) := by decide +kernel
theorem dX0_layFields_20 : decode cX0_layFields 20 = .ok (.getfield 93, 3) := by decide +kernel
theorem dX0_layFields_23 : decode cX0_layFields 23 = .ok (.iload_n 3, 1) := by decide +kernel
theorem dX0_layFields_24 : decode cX0_layFields 24 = .ok (.iload 6, 2) := by decide +kernel
theorem dX0_layFields_26 : decode cX0_layFields 26 = .ok (.invokevirtual 83, 3) := by decide +kernel
theorem dX0_layFields_29 : decode cX0_layFields 29 = .ok (.istore 7, 2) := by decide +kernel
theorem dX0_layFields_31 : decode cX0_layFields 31 = .ok (.iload 7, 2) := by decide +kernel
theorem dX0_layFields_33 : decode cX0_layFields 33 = .ok (.iconst (-1), 1) := by decide +kernel
theorem dX0_layFields_34 : decode cX0_layFields 34 = .ok (.if_icmp .eq 80, 3) := by decide +kernel
theorem dX0_layFields_37 : decode cX0_layFields 37 = .ok (.aload_n 0, 1) := by decide +kernel
theorem dX0_layFields_38 : decode cX0_layFields 38 = .ok (.getfield 35, 3) := by decide +kernel
theorem dX0_layFields_41 : decode cX0_layFields 41 = .ok (.iload 4, 2) := by decide +kernel
theorem dX0_layFields_43 : decode cX0_layFields 43 = .ok (.iload 6, 2) := by decide +kernel
theorem dX0_layFields_45 : decode cX0_layFields 45 = .ok (.invokevirtual 83, 3) := by decide +kernel
theorem dX0_layFields_48 : decode cX0_layFields 48 = .ok (.ifCond .ne 66, 3) := by decide +kernel
theorem dX0_layFields_51 : decode cX0_layFields 51 = .ok (.aload_n 0, 1) := by decide +kernel
theorem dX0_layFields_52 : decode cX0_layFields 52 = .ok (.getfield 29, 3) := by decide +kernel
theorem dX0_layFields_55 : decode cX0_layFields 55 = .ok (.iload 4, 2) := by decide +kernel
theorem dX0_layFields_57 : decode cX0_layFields 57 = .ok (.iload 6, 2) := by decide +kernel
theorem dX0_layFields_59 : decode cX0_layFields 59 = .ok (.invokevirtual 83, 3) := by decide +kernel
theorem dX0_layFields_62 : decode cX0_layFields 62 = .ok (.iconst (-1), 1) := by decide +kernel
theorem dX0_layFields_63 : decode cX0_layFields 63 = .ok (.if_icmp .eq 25, 3) := by decide +kernel
theorem dX0_layFields_66 : decode cX0_layFields 66 = .ok (.aload_n 1, 1) := by decide +kernel
theorem dX0_layFields_67 : decode cX0_layFields 67 = .ok (.iload 6, 2) := by decide +kernel
theorem dX0_layFields_69 : decode cX0_layFields 69 = .ok (.iload 5, 2) := by decide +kernel
theorem dX0_layFields_71 : decode cX0_layFields 71 = .ok (.aload_n 0, 1) := by decide +kernel
theorem dX0_layFields_72 : decode cX0_layFields 72 = .ok (.getfield 32, 3) := by decide +kernel
theorem dX0_layFields_75 : decode cX0_layFields 75 = .ok (.iload 4, 2) := by decide +kernel
theorem dX0_layFields_77 : decode cX0_layFields 77 = .ok (.iload 6, 2) := by decide +kernel
theorem dX0_layFields_79 : decode cX0_layFields 79 = .ok (.invokevirtual 83, 3) := by decide +kernel
theorem dX0_layFields_82 : decode cX0_layFields 82 = .ok (.invokevirtual 94, 3) := by decide +kernel
theorem dX0_layFields_85 : decode cX0_layFields 85 = .ok (.ifCond .eq 29, 3) := by decide +kernel
theorem dX0_layFields_88 : decode cX0_layFields 88 = .ok (.aload_n 0, 1) := by decide +kernel
theorem dX0_layFields_89 : decode cX0_layFields 89 = .ok (.getfield 29, 3) := by decide +kernel
theorem dX0_layFields_92 : decode cX0_layFields 92 = .ok (.iload 4, 2) := by decide +kernel
theorem dX0_layFields_94 : decode cX0_layFields 94 = .ok (.iload 6, 2) := by decide +kernel
theorem dX0_layFields_96 : decode cX0_layFields 96 = .ok (.iload 7, 2) := by decide +kernel
theorem dX0_layFields_98 : decode cX0_layFields 98 = .ok (.invokevirtual 89, 3) := by decide +kernel
theorem dX0_layFields_101 : decode cX0_layFields 101 = .ok (.aload_n 0, 1) := by decide +kernel
theorem dX0_layFields_102 : decode cX0_layFields 102 = .ok (.getfield 32, 3) := by decide +kernel
theorem dX0_layFields_105 : decode cX0_layFields 105 = .ok (.iload 4, 2) := by decide +kernel
theorem dX0_layFields_107 : decode cX0_layFields 107 = .ok (.iload 6, 2) := by decide +kernel
theorem dX0_layFields_109 : decode cX0_layFields 109 = .ok (.iload 5, 2) := by decide +kernel
theorem dX0_layFields_111 : decode cX0_layFields 111 = .ok (.invokevirtual 89, 3) := by decide +kernel
theorem dX0_layFields_114 : decode cX0_layFields 114 = .ok (.iinc 6 1, 3) := by decide +kernel
theorem dX0_layFields_117 : decode cX0_layFields 117 = .ok (.goto (-104), 3) := by decide +kernel
theorem dX0_layFields_120 : decode cX0_layFields 120 = .ok (.return_, 1) := by decide +kernel
set_option maxRecDepth 20000 in
theorem ggX0_guard_X0_has : GoodIn wsX0_guard wsX0_has := goodIn_r _ [6, 7, 8, 9, 10, 11, 12, 13, 26, 27, 28, 29, 30, 31, 32, 33] (by decide +kernel) (by decide +kernel)
set_option maxRecDepth 20000 in
theorem gX0_guard_X0_has : GoodIn wsX0_guard (wsV RX0 53 RX0 yX0_has wsX0_has) := goodIn_app (goodIn_of _ (by decide +kernel)) ggX0_guard_X0_has
set_option maxRecDepth 20000 in
theorem ggX0_guard_X1_get : GoodIn wsX0_guard wsX1_get := goodIn_r _ [18, 19, 20, 21, 34, 35, 36] (by decide +kernel) (by decide +kernel)
set_option maxRecDepth 20000 in
theorem gX0_guard_X1_get : GoodIn wsX0_guard (wsV RX0 83 RX1 yX1_get wsX1_get) := goodIn_app (goodIn_of _ (by decide +kernel)) ggX0_guard_X1_get
set_option maxRecDepth 20000 in
theorem ggX0_guard_X1_set : GoodIn wsX0_guard wsX1_set := goodIn_r _ [25, 19, 20, 21, 34, 35, 36] (by decide +kernel) (by decide +kernel)
set_option maxRecDepth 20000 in
theorem gX0_guard_X1_set : GoodIn wsX0_guard (wsV RX0 89 RX1 yX1_set wsX1_set) := goodIn_app (goodIn_of _ (by decide +kernel)) ggX0_guard_X1_set
theorem dX0_guard_0 : decode cX0_guard 0 = .ok (.aload_n 0, 1) := by decide +kernel
theorem dX0_guard_1 : decode cX0_guard 1 = .ok (.iload_n 1, 1) := by decide +kernel
theorem dX0_guard_2 : decode cX0_guard 2 = .ok (.invokevirtual 53, 3) := by decide +kernel
theorem dX0_guard_5 : decode cX0_guard 5 = .ok (.ifCond .ne 5, 3) := by decide +kernel
theorem dX0_guard_8 : decode cX0_guard 8 = .ok (.iconst 0, 1) := by decide +kernel
theorem dX0_guard_9 : decode cX0_guard 9 = .ok (.ireturn, 1) := by decide +kernel
theorem dX0_guard_10 : decode cX0_guard 10 = .ok (.aload_n 0, 1) := by decide +kernel
theorem dX0_guard_11 : decode cX0_guard 11 = .ok (.getfield 35, 3) := by decide +kernel
theorem dX0_guard_14 : decode cX0_guard 14 = .ok (.iload_n 1, 1) := by decide +kernel
theorem dX0_guard_15 : decode cX0_guard 15 = .ok (.iload_n 2, 1) := by decide +kernel
theorem dX0_guard_16 : decode cX0_guard 16 = .ok (.invokevirtual 83, 3) := by decide +kernel
theorem dX0_guard_19 : decode cX0_guard 19 = .ok (.istore 4, 2) := by decide +kernel
theorem dX0_guard_21 : decode cX0_guard 21 = .ok (.aload_n 0, 1) := by decide +kernel
theorem dX0_guard_22 : decode cX0_guard 22 = .ok (.getfield 35, 3) := by decide +kernel
theorem dX0_guard_25 : decode cX0_guard 25 = .ok (.iload_n 1, 1) := by decide +kernel
theorem dX0_guard_26 : decode cX0_guard 26 = .ok (.iload_n 2, 1) := by decide +kernel
theorem dX0_guard_27 : decode cX0_guard 27 = .ok (.iload_n 3, 1) := by decide +kernel
theorem dX0_guard_28 : decode cX0_guard 28 = .ok (.invokevirtual 89, 3) := by decide +kernel
theorem dX0_guard_31 : decode cX0_guard 31 = .ok (.iload 4, 2) := by decide +kernel
theorem dX0_guard_33 : decode cX0_guard 33 = .ok (.ireturn, 1) := by decide +kernel
set_option maxRecDepth 20000 in
theorem ggX0_addHoldings_X0_has : GoodIn wsX0_addHoldings wsX0_has := goodIn_r _ [6, 7, 8, 9, 10, 11, 12, 13, 18, 19, 20, 21, 22, 23, 24, 25] (by decide +kernel) (by decide +kernel)
set_option maxRecDepth 20000 in
theorem gX0_addHoldings_X0_has : GoodIn wsX0_addHoldings (wsV RX0 53 RX0 yX0_has wsX0_has) := goodIn_app (goodIn_of _ (by decide +kernel)) ggX0_addHoldings_X0_has
set_option maxRecDepth 20000 in
theorem ggX0_addHoldings_X4_get : GoodIn wsX0_addHoldings wsX4_get := goodIn_r _ [12, 13, 25] (by decide +kernel) (by decide +kernel)
set_option maxRecDepth 20000 in
theorem gX0_addHoldings_X4_get : GoodIn wsX0_addHoldings (wsV RX0 49 RX4 yX4_get wsX4_get) := goodIn_app (goodIn_of _ (by decide +kernel)) ggX0_addHoldings_X4_get
set_option maxRecDepth 20000 in
theorem ggX0_addHoldings_X4_set : GoodIn wsX0_addHoldings wsX4_set := goodIn_r _ [17, 13, 25] (by decide +kernel) (by decide +kernel)
set_option maxRecDepth 20000 in
theorem gX0_addHoldings_X4_set : GoodIn wsX0_addHoldings (wsV RX0 66 RX4 yX4_set wsX4_set) := goodIn_app (goodIn_of _ (by decide +kernel)) ggX0_addHoldings_X4_set
theorem dX0_addHoldings_0 : decode cX0_addHoldings 0 = .ok (.aload_n 0, 1) := by decide +kernel
theorem dX0_addHoldings_1 : decode cX0_addHoldings 1 = .ok (.iload_n 1, 1) := by decide +kernel
theorem dX0_addHoldings_2 : decode cX0_addHoldings 2 = .ok (.invokevirtual 53, 3) := by decide +kernel
theorem dX0_addHoldings_5 : decode cX0_addHoldings 5 = .ok (.ifCond .ne 5, 3) := by decide +kernel
theorem dX0_addHoldings_8 : decode cX0_addHoldings 8 = .ok (.iconst 0, 1) := by decide +kernel
theorem dX0_addHoldings_9 : decode cX0_addHoldings 9 = .ok (.ireturn, 1) := by decide +kernel
theorem dX0_addHoldings_10 : decode cX0_addHoldings 10 = .ok (.aload_n 0, 1) := by decide +kernel
theorem dX0_addHoldings_11 : decode cX0_addHoldings 11 = .ok (.getfield 38, 3) := by decide +kernel
theorem dX0_addHoldings_14 : decode cX0_addHoldings 14 = .ok (.iload_n 1, 1) := by decide +kernel
theorem dX0_addHoldings_15 : decode cX0_addHoldings 15 = .ok (.aload_n 0, 1) := by decide +kernel
theorem dX0_addHoldings_16 : decode cX0_addHoldings 16 = .ok (.getfield 38, 3) := by decide +kernel
theorem dX0_addHoldings_19 : decode cX0_addHoldings 19 = .ok (.iload_n 1, 1) := by decide +kernel
theorem dX0_addHoldings_20 : decode cX0_addHoldings 20 = .ok (.invokevirtual 49, 3) := by decide +kernel
theorem dX0_addHoldings_23 : decode cX0_addHoldings 23 = .ok (.iload_n 2, 1) := by decide +kernel
theorem dX0_addHoldings_24 : decode cX0_addHoldings 24 = .ok (.iadd, 1) := by decide +kernel
theorem dX0_addHoldings_25 : decode cX0_addHoldings 25 = .ok (.invokevirtual 66, 3) := by decide +kernel
theorem dX0_addHoldings_28 : decode cX0_addHoldings 28 = .ok (.aload_n 0, 1) := by decide +kernel
theorem dX0_addHoldings_29 : decode cX0_addHoldings 29 = .ok (.getfield 38, 3) := by decide +kernel
theorem dX0_addHoldings_32 : decode cX0_addHoldings 32 = .ok (.iload_n 1, 1) := by decide +kernel
theorem dX0_addHoldings_33 : decode cX0_addHoldings 33 = .ok (.invokevirtual 49, 3) := by decide +kernel
theorem dX0_addHoldings_36 : decode cX0_addHoldings 36 = .ok (.ireturn, 1) := by decide +kernel
set_option maxRecDepth 20000 in
theorem ggX0_join_X0_has : GoodIn wsX0_join wsX0_has := goodIn_r _ [10, 4, 11, 12, 13, 14, 15, 16, 37, 38, 39, 40, 41, 42, 43, 44] (by decide +kernel) (by decide +kernel)
set_option maxRecDepth 20000 in
theorem gX0_join_X0_has : GoodIn wsX0_join (wsV RX0 53 RX0 yX0_has wsX0_has) := goodIn_app (goodIn_of _ (by decide +kernel)) ggX0_join_X0_has
set_option maxRecDepth 20000 in
theorem ggX0_join_X1_get : GoodIn wsX0_join wsX1_get := goodIn_r _ [21, 22, 23, 24, 45, 46, 47] (by decide +kernel) (by decide +kernel)
set_option maxRecDepth 20000 in
theorem gX0_join_X1_get : GoodIn wsX0_join (wsV RX0 83 RX1 yX1_get wsX1_get) := goodIn_app (goodIn_of _ (by decide +kernel)) ggX0_join_X1_get
set_option maxRecDepth 20000 in
theorem ggX0_join_X1_set : GoodIn wsX0_join wsX1_set := goodIn_r _ [28, 22, 23, 24, 45, 46, 47] (by decide +kernel) (by decide +kernel)
set_option maxRecDepth 20000 in
theorem gX0_join_X1_set : GoodIn wsX0_join (wsV RX0 89 RX1 yX1_set wsX1_set) := goodIn_app (goodIn_of _ (by decide +kernel)) ggX0_join_X1_set
set_option maxRecDepth 20000 in
theorem ggX0_join_X4_set : GoodIn wsX0_join wsX4_set := goodIn_r _ [32, 16, 44] (by decide +kernel) (by decide +kernel)
set_option maxRecDepth 20000 in
theorem gX0_join_X4_set : GoodIn wsX0_join (wsV RX0 66 RX4 yX4_set wsX4_set) := goodIn_app (goodIn_of _ (by decide +kernel)) ggX0_join_X4_set
set_option maxRecDepth 20000 in
theorem ggX0_join_X4_get : GoodIn wsX0_join wsX4_get := goodIn_r _ [15, 16, 44] (by decide +kernel) (by decide +kernel)
set_option maxRecDepth 20000 in
theorem gX0_join_X4_get : GoodIn wsX0_join (wsV RX0 49 RX4 yX4_get wsX4_get) := goodIn_app (goodIn_of _ (by decide +kernel)) ggX0_join_X4_get
set_option maxRecDepth 20000 in
theorem ggX0_join_X0_addHoldings : GoodIn wsX0_join wsX0_addHoldings := goodIn_r _ [36, 5, 6, 7, 8, 9, 10, 4, 11, 12, 13, 14, 15, 16, 29, 30, 31, 32, 37, 38, 39, 40, 41, 42, 43, 44] (by decide +kernel) (by decide +kernel)
set_option maxRecDepth 20000 in
theorem gX0_join_X0_addHoldings : GoodIn wsX0_join (wsV RX0 98 RX0 yX0_addHoldings wsX0_addHoldings) := goodIn_app (goodIn_of _ (by decide +kernel)) ggX0_join_X0_addHoldings
theorem dX0_join_0 : decode cX0_join 0 = .ok (.aload_n 0, 1) := by decide +kernel
theorem dX0_join_1 : decode cX0_join 1 = .ok (.iload_n 1, 1) := by decide +kernel
theorem dX0_join_2 : decode cX0_join 2 = .ok (.invokevirtual 53, 3) := by decide +kernel
theorem dX0_join_5 : decode cX0_join 5 = .ok (.ifCond .eq 11, 3) := by decide +kernel
theorem dX0_join_8 : decode cX0_join 8 = .ok (.aload_n 0, 1) := by decide +kernel
theorem dX0_join_9 : decode cX0_join 9 = .ok (.iload_n 2, 1) := by decide +kernel
theorem dX0_join_10 : decode cX0_join 10 = .ok (.invokevirtual 53, 3) := by decide +kernel
theorem dX0_join_13 : decode cX0_join 13 = .ok (.ifCond .ne 5, 3) := by decide +kernel
theorem dX0_join_16 : decode cX0_join 16 = .ok (.iconst 0, 1) := by decide +kernel
theorem dX0_join_17 : decode cX0_join 17 = .ok (.ireturn, 1) := by decide +kernel
theorem dX0_join_18 : decode cX0_join 18 = .ok (.iconst 0, 1) := by decide +kernel
theorem dX0_join_19 : decode cX0_join 19 = .ok (.istore_n 3, 1) := by decide +kernel
theorem dX0_join_20 : decode cX0_join 20 = .ok (.iload_n 3, 1) := by decide +kernel
theorem dX0_join_21 : decode cX0_join 21 = .ok (.iconst 3, 1) := by decide +kernel
theorem dX0_join_22 : decode cX0_join 22 = .ok (.if_icmp .ge 40, 3) := by decide +kernel
theorem dX0_join_25 : decode cX0_join 25 = .ok (.aload_n 0, 1) := by decide +kernel
theorem dX0_join_26 : decode cX0_join 26 = .ok (.getfield 25, 3) := by decide +kernel
theorem dX0_join_29 : decode cX0_join 29 = .ok (.iload_n 2, 1) := by decide +kernel
theorem dX0_join_30 : decode cX0_join 30 = .ok (.iload_n 3, 1) := by decide +kernel
theorem dX0_join_31 : decode cX0_join 31 = .ok (.invokevirtual 83, 3) := by decide +kernel
theorem dX0_join_34 : decode cX0_join 34 = .ok (.iconst (-1), 1) := by decide +kernel
theorem dX0_join_35 : decode cX0_join 35 = .ok (.if_icmp .ne 21, 3) := by decide +kernel
theorem dX0_join_38 : decode cX0_join 38 = .ok (.aload_n 0, 1) := by decide +kernel
theorem dX0_join_39 : decode cX0_join 39 = .ok (.getfield 25, 3) := by decide +kernel
theorem dX0_join_42 : decode cX0_join 42 = .ok (.iload_n 2, 1) := by decide +kernel
theorem dX0_join_43 : decode cX0_join 43 = .ok (.iload_n 3, 1) := by decide +kernel
theorem dX0_join_44 : decode cX0_join 44 = .ok (.aload_n 0, 1) := by decide +kernel
theorem dX0_join_45 : decode cX0_join 45 = .ok (.getfield 25, 3) := by decide +kernel
theorem dX0_join_48 : decode cX0_join 48 = .ok (.iload_n 1, 1) := by decide +kernel
theorem dX0_join_49 : decode cX0_join 49 = .ok (.iload_n 3, 1) := by decide +kernel
theorem dX0_join_50 : decode cX0_join 50 = .ok (.invokevirtual 83, 3) := by decide +kernel
theorem dX0_join_53 : decode cX0_join 53 = .ok (.invokevirtual 89, 3) := by decide +kernel
theorem dX0_join_56 : decode cX0_join 56 = .ok (.iinc 3 1, 3) := by decide +kernel
theorem dX0_join_59 : decode cX0_join 59 = .ok (.goto (-39), 3) := by decide +kernel
theorem dX0_join_62 : decode cX0_join 62 = .ok (.iconst 0, 1) := by decide +kernel
theorem dX0_join_63 : decode cX0_join 63 = .ok (.istore_n 3, 1) := by decide +kernel
theorem dX0_join_64 : decode cX0_join 64 = .ok (.iload_n 3, 1) := by decide +kernel
theorem dX0_join_65 : decode cX0_join 65 = .ok (.iconst 4, 1) := by decide +kernel
theorem dX0_join_66 : decode cX0_join 66 = .ok (.if_icmp .ge 58, 3) := by decide +kernel
theorem dX0_join_69 : decode cX0_join 69 = .ok (.aload_n 0, 1) := by decide +kernel
theorem dX0_join_70 : decode cX0_join 70 = .ok (.getfield 29, 3) := by decide +kernel
theorem dX0_join_73 : decode cX0_join 73 = .ok (.iload_n 2, 1) := by decide +kernel
theorem dX0_join_74 : decode cX0_join 74 = .ok (.iload_n 3, 1) := by decide +kernel
theorem dX0_join_75 : decode cX0_join 75 = .ok (.invokevirtual 83, 3) := by decide +kernel
theorem dX0_join_78 : decode cX0_join 78 = .ok (.iconst (-1), 1) := by decide +kernel
theorem dX0_join_79 : decode cX0_join 79 = .ok (.if_icmp .ne 39, 3) := by decide +kernel
theorem dX0_join_82 : decode cX0_join 82 = .ok (.aload_n 0, 1) := by decide +kernel
theorem dX0_join_83 : decode cX0_join 83 = .ok (.getfield 29, 3) := by decide +kernel
theorem dX0_join_86 : decode cX0_join 86 = .ok (.iload_n 2, 1) := by decide +kernel
theorem dX0_join_87 : decode cX0_join 87 = .ok (.iload_n 3, 1) := by decide +kernel
theorem dX0_join_88 : decode cX0_join 88 = .ok (.aload_n 0, 1) := by decide +kernel
theorem dX0_join_89 : decode cX0_join 89 = .ok (.getfield 29, 3) := by decide +kernel
theorem dX0_join_92 : decode cX0_join 92 = .ok (.iload_n 1, 1) := by decide +kernel
theorem dX0_join_93 : decode cX0_join 93 = .ok (.iload_n 3, 1) := by decide +kernel
theorem dX0_join_94 : decode cX0_join 94 = .ok (.invokevirtual 83, 3) := by decide +kernel
theorem dX0_join_97 : decode cX0_join 97 = .ok (.invokevirtual 89, 3) := by decide +kernel
theorem dX0_join_100 : decode cX0_join 100 = .ok (.aload_n 0, 1) := by decide +kernel
theorem dX0_join_101 : decode cX0_join 101 = .ok (.getfield 32, 3) := by decide +kernel
theorem dX0_join_104 : decode cX0_join 104 = .ok (.iload_n 2, 1) := by decide +kernel
theorem dX0_join_105 : decode cX0_join 105 = .ok (.iload_n 3, 1) := by decide +kernel
theorem dX0_join_106 : decode cX0_join 106 = .ok (.aload_n 0, 1) := by decide +kernel
theorem dX0_join_107 : decode cX0_join 107 = .ok (.getfield 32, 3) := by decide +kernel
theorem dX0_join_110 : decode cX0_join 110 = .ok (.iload_n 1, 1) := by decide +kernel
theorem dX0_join_111 : decode cX0_join 111 = .ok (.iload_n 3, 1) := by decide +kernel
theorem dX0_join_112 : decode cX0_join 112 = .ok (.invokevirtual 83, 3) := by decide +kernel
theorem dX0_join_115 : decode cX0_join 115 = .ok (.invokevirtual 89, 3) := by decide +kernel
theorem dX0_join_118 : decode cX0_join 118 = .ok (.iinc 3 1, 3) := by decide +kernel
theorem dX0_join_121 : decode cX0_join 121 = .ok (.goto (-57), 3) := by decide +kernel
theorem dX0_join_124 : decode cX0_join 124 = .ok (.aload_n 0, 1) := by decide +kernel
theorem dX0_join_125 : decode cX0_join 125 = .ok (.getfield 14, 3) := by decide +kernel
theorem dX0_join_128 : decode cX0_join 128 = .ok (.iload_n 1, 1) := by decide +kernel
theorem dX0_join_129 : decode cX0_join 129 = .ok (.iconst 0, 1) := by decide +kernel
theorem dX0_join_130 : decode cX0_join 130 = .ok (.invokevirtual 66, 3) := by decide +kernel
theorem dX0_join_133 : decode cX0_join 133 = .ok (.aload_n 0, 1) := by decide +kernel
theorem dX0_join_134 : decode cX0_join 134 = .ok (.iload_n 2, 1) := by decide +kernel
theorem dX0_join_135 : decode cX0_join 135 = .ok (.aload_n 0, 1) := by decide +kernel
theorem dX0_join_136 : decode cX0_join 136 = .ok (.getfield 38, 3) := by decide +kernel
theorem dX0_join_139 : decode cX0_join 139 = .ok (.iload_n 1, 1) := by decide +kernel
theorem dX0_join_140 : decode cX0_join 140 = .ok (.invokevirtual 49, 3) := by decide +kernel
theorem dX0_join_143 : decode cX0_join 143 = .ok (.invokevirtual 98, 3) := by decide +kernel
theorem dX0_join_146 : decode cX0_join 146 = .ok (.ireturn, 1) := by decide +kernel
set_option maxRecDepth 20000 in
theorem ggX0_sum_X0_has : GoodIn wsX0_sum wsX0_has := goodIn_r _ [6, 7, 8, 9, 10, 11, 12, 13, 32, 33, 34, 35, 36, 37, 38, 39] (by decide +kernel) (by decide +kernel)
set_option maxRecDepth 20000 in
theorem gX0_sum_X0_has : GoodIn wsX0_sum (wsV RX0 53 RX0 yX0_has wsX0_has) := goodIn_app (goodIn_of _ (by decide +kernel)) ggX0_sum_X0_has
set_option maxRecDepth 20000 in
theorem ggX0_sum_X0_values : GoodIn wsX0_sum wsX0_values := goodIn_r _ [17, 18, 19, 20, 21, 22, 23, 24, 25, 26, 27, 28, 29, 30, 31, 32, 33, 34, 35, 36, 37, 38, 40, 41, 42] (by decide +kernel) (by decide +kernel)
set_option maxRecDepth 20000 in
theorem gX0_sum_X0_values : GoodIn wsX0_sum (wsV RX0 101 RX0 yX0_values wsX0_values) := goodIn_app (goodIn_of _ (by decide +kernel)) ggX0_sum_X0_values
set_option maxRecDepth 20000 in
theorem ggX0_sum_X4_get : GoodIn wsX0_sum wsX4_get := goodIn_r _ [12, 13, 39] (by decide +kernel) (by decide +kernel)
set_option maxRecDepth 20000 in
theorem gX0_sum_X4_get : GoodIn wsX0_sum (wsV RX0 49 RX4 yX4_get wsX4_get) := goodIn_app (goodIn_of _ (by decide +kernel)) ggX0_sum_X4_get
theorem dX0_sum_0 : decode cX0_sum 0 = .ok (.iconst 0, 1) := by decide +kernel
theorem dX0_sum_1 : decode cX0_sum 1 = .ok (.istore_n 1, 1) := by decide +kernel
theorem dX0_sum_2 : decode cX0_sum 2 = .ok (.iconst 0, 1) := by decide +kernel
theorem dX0_sum_3 : decode cX0_sum 3 = .ok (.istore_n 2, 1) := by decide +kernel
theorem dX0_sum_4 : decode cX0_sum 4 = .ok (.iload_n 2, 1) := by decide +kernel
theorem dX0_sum_5 : decode cX0_sum 5 = .ok (.bipush 80, 2) := by decide +kernel
theorem dX0_sum_7 : decode cX0_sum 7 = .ok (.if_icmp .ge 38, 3) := by decide +kernel
theorem dX0_sum_10 : decode cX0_sum 10 = .ok (.aload_n 0, 1) := by decide +kernel
theorem dX0_sum_11 : decode cX0_sum 11 = .ok (.iload_n 2, 1) := by decide +kernel
theorem dX0_sum_12 : decode cX0_sum 12 = .ok (.invokevirtual 53, 3) := by decide +kernel
theorem dX0_sum_15 : decode cX0_sum 15 = .ok (.ifCond .eq 24, 3) := by decide +kernel
theorem dX0_sum_18 : decode cX0_sum 18 = .ok (.iload_n 1, 1) := by decide +kernel
theorem dX0_sum_19 : decode cX0_sum 19 = .ok (.iconst 1, 1) := by decide +kernel
theorem dX0_sum_20 : decode cX0_sum 20 = .ok (.iload_n 2, 1) := by decide +kernel
theorem dX0_sum_21 : decode cX0_sum 21 = .ok (.iadd, 1) := by decide +kernel
theorem dX0_sum_22 : decode cX0_sum 22 = .ok (.aload_n 0, 1) := by decide +kernel
theorem dX0_sum_23 : decode cX0_sum 23 = .ok (.iload_n 2, 1) := by decide +kernel
theorem dX0_sum_24 : decode cX0_sum 24 = .ok (.invokevirtual 101, 3) := by decide +kernel
theorem dX0_sum_27 : decode cX0_sum 27 = .ok (.imul, 1) := by decide +kernel
theorem dX0_sum_28 : decode cX0_sum 28 = .ok (.aload_n 0, 1) := by decide +kernel
theorem dX0_sum_29 : decode cX0_sum 29 = .ok (.getfield 38, 3) := by decide +kernel
theorem dX0_sum_32 : decode cX0_sum 32 = .ok (.iload_n 2, 1) := by decide +kernel
theorem dX0_sum_33 : decode cX0_sum 33 = .ok (.invokevirtual 49, 3) := by decide +kernel
theorem dX0_sum_36 : decode cX0_sum 36 = .ok (.iadd, 1) := by decide +kernel
theorem dX0_sum_37 : decode cX0_sum 37 = .ok (.iadd, 1) := by decide +kernel
theorem dX0_sum_38 : decode cX0_sum 38 = .ok (.istore_n 1, 1) := by decide +kernel
theorem dX0_sum_39 : decode cX0_sum 39 = .ok (.iinc 2 1, 3) := by decide +kernel
theorem dX0_sum_42 : decode cX0_sum 42 = .ok (.goto (-38), 3) := by decide +kernel
theorem dX0_sum_45 : decode cX0_sum 45 = .ok (.iload_n 1, 1) := by decide +kernel
theorem dX0_sum_46 : decode cX0_sum 46 = .ok (.ireturn, 1) := by decide +kernel
set_option maxRecDepth 20000 in
theorem ggX0_values_X1_get : GoodIn wsX0_values wsX1_get := goodIn_r _ [11, 12, 13, 14, 22, 23, 24] (by decide +kernel) (by decide +kernel)
set_option maxRecDepth 20000 in
theorem gX0_values_X1_get : GoodIn wsX0_values (wsV RX0 83 RX1 yX1_get wsX1_get) := goodIn_app (goodIn_of _ (by decide +kernel)) ggX0_values_X1_get
theorem dX0_values_0 : decode cX0_values 0 = .ok (.iconst 0, 1) := by decide +kernel
theorem dX0_values_1 : decode cX0_values 1 = .ok (.istore_n 2, 1) := by decide +kernel
theorem dX0_values_2 : decode cX0_values 2 = .ok (.iconst 0, 1) := by decide +kernel
theorem dX0_values_3 : decode cX0_values 3 = .ok (.istore_n 3, 1) := by decide +kernel
theorem dX0_values_4 : decode cX0_values 4 = .ok (.iload_n 3, 1) := by decide +kernel
theorem dX0_values_5 : decode cX0_values 5 = .ok (.iconst 3, 1) := by decide +kernel
theorem dX0_values_6 : decode cX0_values 6 = .ok (.if_icmp .ge 25, 3) := by decide +kernel
theorem dX0_values_9 : decode cX0_values 9 = .ok (.iload_n 2, 1) := by decide +kernel
theorem dX0_values_10 : decode cX0_values 10 = .ok (.iconst 0, 1) := by decide +kernel
theorem dX0_values_11 : decode cX0_values 11 = .ok (.aload_n 0, 1) := by decide +kernel
theorem dX0_values_12 : decode cX0_values 12 = .ok (.getfield 25, 3) := by decide +kernel
theorem dX0_values_15 : decode cX0_values 15 = .ok (.iload_n 1, 1) := by decide +kernel
theorem dX0_values_16 : decode cX0_values 16 = .ok (.iload_n 3, 1) := by decide +kernel
theorem dX0_values_17 : decode cX0_values 17 = .ok (.invokevirtual 83, 3) := by decide +kernel
theorem dX0_values_20 : decode cX0_values 20 = .ok (.invokestatic 104, 3) := by decide +kernel
theorem dX0_values_23 : decode cX0_values 23 = .ok (.iadd, 1) := by decide +kernel
theorem dX0_values_24 : decode cX0_values 24 = .ok (.istore_n 2, 1) := by decide +kernel
theorem dX0_values_25 : decode cX0_values 25 = .ok (.iinc 3 1, 3) := by decide +kernel
theorem dX0_values_28 : decode cX0_values 28 = .ok (.goto (-24), 3) := by decide +kernel
theorem dX0_values_31 : decode cX0_values 31 = .ok (.iconst 0, 1) := by decide +kernel
theorem dX0_values_32 : decode cX0_values 32 = .ok (.istore_n 3, 1) := by decide +kernel
theorem dX0_values_33 : decode cX0_values 33 = .ok (.iload_n 3, 1) := by decide +kernel
theorem dX0_values_34 : decode cX0_values 34 = .ok (.iconst 4, 1) := by decide +kernel
theorem dX0_values_35 : decode cX0_values 35 = .ok (.if_icmp .ge 25, 3) := by decide +kernel
theorem dX0_values_38 : decode cX0_values 38 = .ok (.iload_n 2, 1) := by decide +kernel
theorem dX0_values_39 : decode cX0_values 39 = .ok (.iconst 0, 1) := by decide +kernel
theorem dX0_values_40 : decode cX0_values 40 = .ok (.aload_n 0, 1) := by decide +kernel
theorem dX0_values_41 : decode cX0_values 41 = .ok (.getfield 29, 3) := by decide +kernel
theorem dX0_values_44 : decode cX0_values 44 = .ok (.iload_n 1, 1) := by decide +kernel
theorem dX0_values_45 : decode cX0_values 45 = .ok (.iload_n 3, 1) := by decide +kernel
theorem dX0_values_46 : decode cX0_values 46 = .ok (.invokevirtual 83, 3) := by decide +kernel
theorem dX0_values_49 : decode cX0_values 49 = .ok (.invokestatic 104, 3) := by decide +kernel
theorem dX0_values_52 : decode cX0_values 52 = .ok (.iadd, 1) := by decide +kernel
theorem dX0_values_53 : decode cX0_values 53 = .ok (.istore_n 2, 1) := by decide +kernel
theorem dX0_values_54 : decode cX0_values 54 = .ok (.iinc 3 1, 3) := by decide +kernel
theorem dX0_values_57 : decode cX0_values 57 = .ok (.goto (-24), 3) := by decide +kernel
theorem dX0_values_60 : decode cX0_values 60 = .ok (.iload_n 2, 1) := by decide +kernel
theorem dX0_values_61 : decode cX0_values 61 = .ok (.ireturn, 1) := by decide +kernel
set_option maxRecDepth 20000 in
theorem ggX1_init_J7_fill_53178 : GoodIn wsX1_init wsJ7_fill_53178 := goodIn_r _ [15] (by decide +kernel) (by decide +kernel)
set_option maxRecDepth 20000 in
theorem gX1_init_J7_fill_53178 : GoodIn wsX1_init (va_wsS RX1 28 yJ7_fill_53178 wsJ7_fill_53178) := goodIn_app (goodIn_of _ (by decide +kernel)) ggX1_init_J7_fill_53178
theorem dX1_init_0 : decode cX1_init 0 = .ok (.aload_n 0, 1) := by decide +kernel
theorem dX1_init_1 : decode cX1_init 1 = .ok (.invokespecial 3, 3) := by decide +kernel
theorem dX1_init_4 : decode cX1_init 4 = .ok (.aload_n 0, 1) := by decide +kernel
theorem dX1_init_5 : decode cX1_init 5 = .ok (.iload_n 1, 1) := by decide +kernel
theorem dX1_init_6 : decode cX1_init 6 = .ok (.putfield 9, 3) := by decide +kernel
theorem dX1_init_9 : decode cX1_init 9 = .ok (.aload_n 0, 1) := by decide +kernel
theorem dX1_init_10 : decode cX1_init 10 = .ok (.iload_n 2, 1) := by decide +kernel
theorem dX1_init_11 : decode cX1_init 11 = .ok (.putfield 15, 3) := by decide +kernel
theorem dX1_init_14 : decode cX1_init 14 = .ok (.aload_n 0, 1) := by decide +kernel
theorem dX1_init_15 : decode cX1_init 15 = .ok (.iconst 0, 1) := by decide +kernel
theorem dX1_init_16 : decode cX1_init 16 = .ok (.iload_n 1, 1) := by decide +kernel
theorem dX1_init_17 : decode cX1_init 17 = .ok (.iload_n 2, 1) := by decide +kernel
theorem dX1_init_18 : decode cX1_init 18 = .ok (.imul, 1) := by decide +kernel
theorem dX1_init_19 : decode cX1_init 19 = .ok (.invokestatic 18, 3) := by decide +kernel
theorem dX1_init_22 : decode cX1_init 22 = .ok (.newarray .int, 2) := by decide +kernel
theorem dX1_init_24 : decode cX1_init 24 = .ok (.putfield 24, 3) := by decide +kernel
theorem dX1_init_27 : decode cX1_init 27 = .ok (.aload_n 0, 1) := by decide +kernel
theorem dX1_init_28 : decode cX1_init 28 = .ok (.getfield 24, 3) := by decide +kernel
theorem dX1_init_31 : decode cX1_init 31 = .ok (.iload_n 3, 1) := by decide +kernel
theorem dX1_init_32 : decode cX1_init 32 = .ok (.invokestatic 28, 3) := by decide +kernel
theorem dX1_init_35 : decode cX1_init 35 = .ok (.return_, 1) := by decide +kernel
theorem dX1_get_0 : decode cX1_get 0 = .ok (.iload_n 1, 1) := by decide +kernel
theorem dX1_get_1 : decode cX1_get 1 = .ok (.ifCond .lt 23, 3) := by decide +kernel
theorem dX1_get_4 : decode cX1_get 4 = .ok (.iload_n 1, 1) := by decide +kernel
theorem dX1_get_5 : decode cX1_get 5 = .ok (.aload_n 0, 1) := by decide +kernel
theorem dX1_get_6 : decode cX1_get 6 = .ok (.getfield 9, 3) := by decide +kernel
theorem dX1_get_9 : decode cX1_get 9 = .ok (.if_icmp .ge 15, 3) := by decide +kernel
theorem dX1_get_12 : decode cX1_get 12 = .ok (.iload_n 2, 1) := by decide +kernel
theorem dX1_get_13 : decode cX1_get 13 = .ok (.ifCond .lt 11, 3) := by decide +kernel
theorem dX1_get_16 : decode cX1_get 16 = .ok (.iload_n 2, 1) := by decide +kernel
theorem dX1_get_17 : decode cX1_get 17 = .ok (.aload_n 0, 1) := by decide +kernel
theorem dX1_get_18 : decode cX1_get 18 = .ok (.getfield 15, 3) := by decide +kernel
theorem dX1_get_21 : decode cX1_get 21 = .ok (.if_icmp .lt 5, 3) := by decide +kernel
theorem dX1_get_24 : decode cX1_get 24 = .ok (.iconst (-1), 1) := by decide +kernel
theorem dX1_get_25 : decode cX1_get 25 = .ok (.ireturn, 1) := by decide +kernel
theorem dX1_get_26 : decode cX1_get 26 = .ok (.iload_n 1, 1) := by decide +kernel
theorem dX1_get_27 : decode cX1_get 27 = .ok (.aload_n 0, 1) := by decide +kernel
theorem dX1_get_28 : decode cX1_get 28 = .ok (.getfield 15, 3) := by decide +kernel
theorem dX1_get_31 : decode cX1_get 31 = .ok (.imul, 1) := by decide +kernel
theorem dX1_get_32 : decode cX1_get 32 = .ok (.iload_n 2, 1) := by decide +kernel
theorem dX1_get_33 : decode cX1_get 33 = .ok (.iadd, 1) := by decide +kernel
theorem dX1_get_34 : decode cX1_get 34 = .ok (.istore_n 3, 1) := by decide +kernel
theorem dX1_get_35 : decode cX1_get 35 = .ok (.iload_n 3, 1) := by decide +kernel
theorem dX1_get_36 : decode cX1_get 36 = .ok (.ifCond .lt 21, 3) := by decide +kernel
theorem dX1_get_39 : decode cX1_get 39 = .ok (.iload_n 3, 1) := by decide +kernel
theorem dX1_get_40 : decode cX1_get 40 = .ok (.aload_n 0, 1) := by decide +kernel
theorem dX1_get_41 : decode cX1_get 41 = .ok (.getfield 24, 3) := by decide +kernel
theorem dX1_get_44 : decode cX1_get 44 = .ok (.arraylength, 1) := by decide +kernel
theorem dX1_get_45 : decode cX1_get 45 = .ok (.if_icmp .ge 12, 3) := by decide +kernel
theorem dX1_get_48 : decode cX1_get 48 = .ok (.aload_n 0, 1) := by decide +kernel
theorem dX1_get_49 : decode cX1_get 49 = .ok (.getfield 24, 3) := by decide +kernel
theorem dX1_get_52 : decode cX1_get 52 = .ok (.iload_n 3, 1) := by decide +kernel
theorem dX1_get_53 : decode cX1_get 53 = .ok (.iaload, 1) := by decide +kernel
theorem dX1_get_54 : decode cX1_get 54 = .ok (.goto 4, 3) := by decide +kernel
theorem dX1_get_57 : decode cX1_get 57 = .ok (.iconst (-1), 1) := by decide +kernel
theorem dX1_get_58 : decode cX1_get 58 = .ok (.ireturn, 1) := by decide +kernel
theorem dX1_set_0 : decode cX1_set 0 = .ok (.iload_n 1, 1) := by decide +kernel
theorem dX1_set_1 : decode cX1_set 1 = .ok (.ifCond .lt 23, 3) := by decide +kernel
theorem dX1_set_4 : decode cX1_set 4 = .ok (.iload_n 1, 1) := by decide +kernel
theorem dX1_set_5 : decode cX1_set 5 = .ok (.aload_n 0, 1) := by decide +kernel
theorem dX1_set_6 : decode cX1_set 6 = .ok (.getfield 9, 3) := by decide +kernel
theorem dX1_set_9 : decode cX1_set 9 = .ok (.if_icmp .ge 15, 3) := by decide +kernel
theorem dX1_set_12 : decode cX1_set 12 = .ok (.iload_n 2, 1) := by decide +kernel
theorem dX1_set_13 : decode cX1_set 13 = .ok (.ifCond .lt 11, 3) := by decide +kernel
theorem dX1_set_16 : decode cX1_set 16 = .ok (.iload_n 2, 1) := by decide +kernel
theorem dX1_set_17 : decode cX1_set 17 = .ok (.aload_n 0, 1) := by decide +kernel
theorem dX1_set_18 : decode cX1_set 18 = .ok (.getfield 15, 3) := by decide +kernel
theorem dX1_set_21 : decode cX1_set 21 = .ok (.if_icmp .lt 4, 3) := by decide +kernel
theorem dX1_set_24 : decode cX1_set 24 = .ok (.return_, 1) := by decide +kernel
theorem dX1_set_25 : decode cX1_set 25 = .ok (.iload_n 1, 1) := by decide +kernel
theorem dX1_set_26 : decode cX1_set 26 = .ok (.aload_n 0, 1) := by decide +kernel
theorem dX1_set_27 : decode cX1_set 27 = .ok (.getfield 15, 3) := by decide +kernel
theorem dX1_set_30 : decode cX1_set 30 = .ok (.imul, 1) := by decide +kernel
theorem dX1_set_31 : decode cX1_set 31 = .ok (.iload_n 2, 1) := by decide +kernel
theorem dX1_set_32 : decode cX1_set 32 = .ok (.iadd, 1) := by decide +kernel
theorem dX1_set_33 : decode cX1_set 33 = .ok (.istore 4, 2) := by decide +kernel
theorem dX1_set_35 : decode cX1_set 35 = .ok (.iload 4, 2) := by decide +kernel
theorem dX1_set_37 : decode cX1_set 37 = .ok (.ifCond .lt 21, 3) := by decide +kernel
theorem dX1_set_40 : decode cX1_set 40 = .ok (.iload 4, 2) := by decide +kernel
theorem dX1_set_42 : decode cX1_set 42 = .ok (.aload_n 0, 1) := by decide +kernel
theorem dX1_set_43 : decode cX1_set 43 = .ok (.getfield 24, 3) := by decide +kernel
theorem dX1_set_46 : decode cX1_set 46 = .ok (.arraylength, 1) := by decide +kernel
theorem dX1_set_47 : decode cX1_set 47 = .ok (.if_icmp .ge 11, 3) := by decide +kernel
theorem dX1_set_50 : decode cX1_set 50 = .ok (.aload_n 0, 1) := by decide +kernel
theorem dX1_set_51 : decode cX1_set 51 = .ok (.getfield 24, 3) := by decide +kernel
theorem dX1_set_54 : decode cX1_set 54 = .ok (.iload 4, 2) := by decide +kernel
theorem dX1_set_56 : decode cX1_set 56 = .ok (.iload_n 3, 1) := by decide +kernel
theorem dX1_set_57 : decode cX1_set 57 = .ok (.iastore, 1) := by decide +kernel
theorem dX1_set_58 : decode cX1_set 58 = .ok (.return_, 1) := by decide +kernel
set_option maxRecDepth 20000 in
theorem ggX1_fill_J7_fill_53178 : GoodIn wsX1_fill wsJ7_fill_53178 := goodIn_r _ [5] (by decide +kernel) (by decide +kernel)
set_option maxRecDepth 20000 in
theorem gX1_fill_J7_fill_53178 : GoodIn wsX1_fill (va_wsS RX1 28 yJ7_fill_53178 wsJ7_fill_53178) := goodIn_app (goodIn_of _ (by decide +kernel)) ggX1_fill_J7_fill_53178
theorem dX1_fill_0 : decode cX1_fill 0 = .ok (.aload_n 0, 1) := by decide +kernel
theorem dX1_fill_1 : decode cX1_fill 1 = .ok (.getfield 24, 3) := by decide +kernel
theorem dX1_fill_4 : decode cX1_fill 4 = .ok (.iload_n 1, 1) := by decide +kernel
theorem dX1_fill_5 : decode cX1_fill 5 = .ok (.invokestatic 28, 3) := by decide +kernel
theorem dX1_fill_8 : decode cX1_fill 8 = .ok (.return_, 1) := by decide +kernel
set_option maxRecDepth 20000 in
theorem ggX2_init_X4_init : GoodIn wsX2_init wsX4_init := goodIn_r _ [15, 16, 2, 3, 17, 18, 19, 20, 21, 22, 23, 24, 25, 26, 27] (by decide +kernel) (by decide +kernel)
set_option maxRecDepth 20000 in
theorem gX2_init_X4_init : GoodIn wsX2_init (wsX4_init) := ggX2_init_X4_init
theorem dX2_init_0 : decode cX2_init 0 = .ok (.aload_n 0, 1) := by decide +kernel
theorem dX2_init_1 : decode cX2_init 1 = .ok (.invokespecial 3, 3) := by decide +kernel
theorem dX2_init_4 : decode cX2_init 4 = .ok (.aload_n 0, 1) := by decide +kernel
theorem dX2_init_5 : decode cX2_init 5 = .ok (.new 9, 3) := by decide +kernel
theorem dX2_init_8 : decode cX2_init 8 = .ok (.dup, 1) := by decide +kernel
theorem dX2_init_9 : decode cX2_init 9 = .ok (.sipush 180, 3) := by decide +kernel
theorem dX2_init_12 : decode cX2_init 12 = .ok (.iconst (-1), 1) := by decide +kernel
theorem dX2_init_13 : decode cX2_init 13 = .ok (.invokespecial 11, 3) := by decide +kernel
theorem dX2_init_16 : decode cX2_init 16 = .ok (.putfield 14, 3) := by decide +kernel
theorem dX2_init_19 : decode cX2_init 19 = .ok (.aload_n 0, 1) := by decide +kernel
theorem dX2_init_20 : decode cX2_init 20 = .ok (.new 9, 3) := by decide +kernel
theorem dX2_init_23 : decode cX2_init 23 = .ok (.dup, 1) := by decide +kernel
theorem dX2_init_24 : decode cX2_init 24 = .ok (.sipush 180, 3) := by decide +kernel
theorem dX2_init_27 : decode cX2_init 27 = .ok (.iconst (-1), 1) := by decide +kernel
theorem dX2_init_28 : decode cX2_init 28 = .ok (.invokespecial 11, 3) := by decide +kernel
theorem dX2_init_31 : decode cX2_init 31 = .ok (.putfield 20, 3) := by decide +kernel
theorem dX2_init_34 : decode cX2_init 34 = .ok (.aload_n 0, 1) := by decide +kernel
theorem dX2_init_35 : decode cX2_init 35 = .ok (.new 9, 3) := by decide +kernel
theorem dX2_init_38 : decode cX2_init 38 = .ok (.dup, 1) := by decide +kernel
theorem dX2_init_39 : decode cX2_init 39 = .ok (.sipush 180, 3) := by decide +kernel
theorem dX2_init_42 : decode cX2_init 42 = .ok (.iconst (-1), 1) := by decide +kernel
theorem dX2_init_43 : decode cX2_init 43 = .ok (.invokespecial 11, 3) := by decide +kernel
theorem dX2_init_46 : decode cX2_init 46 = .ok (.putfield 23, 3) := by decide +kernel
theorem dX2_init_49 : decode cX2_init 49 = .ok (.aload_n 0, 1) := by decide +kernel
theorem dX2_init_50 : decode cX2_init 50 = .ok (.new 9, 3) := by decide +kernel
theorem dX2_init_53 : decode cX2_init 53 = .ok (.dup, 1) := by decide +kernel
theorem dX2_init_54 : decode cX2_init 54 = .ok (.sipush 180, 3) := by decide +kernel
theorem dX2_init_57 : decode cX2_init 57 = .ok (.iconst (-1), 1) := by decide +kernel
theorem dX2_init_58 : decode cX2_init 58 = .ok (.invokespecial 11, 3) := by decide +kernel
theorem dX2_init_61 : decode cX2_init 61 = .ok (.putfield 26, 3) := by decide +kernel
theorem dX2_init_64 : decode cX2_init 64 = .ok (.aload_n 0, 1) := by decide +kernel
theorem dX2_init_65 : decode cX2_init 65 = .ok (.iconst 0, 1) := by decide +kernel
theorem dX2_init_66 : decode cX2_init 66 = .ok (.putfield 29, 3) := by decide +kernel
theorem dX2_init_69 : decode cX2_init 69 = .ok (.aload_n 0, 1) := by decide +kernel
theorem dX2_init_70 : decode cX2_init 70 = .ok (.iconst 0, 1) := by decide +kernel
theorem dX2_init_71 : decode cX2_init 71 = .ok (.putfield 33, 3) := by decide +kernel
theorem dX2_init_74 : decode cX2_init 74 = .ok (.return_, 1) := by decide +kernel
set_option maxRecDepth 20000 in
theorem ggX2_append_X4_set : GoodIn wsX2_append wsX4_set := goodIn_r _ [11, 12, 19] (by decide +kernel) (by decide +kernel)
set_option maxRecDepth 20000 in
theorem gX2_append_X4_set : GoodIn wsX2_append (wsV RX2 36 RX4 yX4_set wsX4_set) := goodIn_app (goodIn_of _ (by decide +kernel)) ggX2_append_X4_set
theorem dX2_append_0 : decode cX2_append 0 = .ok (.aload_n 0, 1) := by decide +kernel
theorem dX2_append_1 : decode cX2_append 1 = .ok (.getfield 14, 3) := by decide +kernel
theorem dX2_append_4 : decode cX2_append 4 = .ok (.aload_n 0, 1) := by decide +kernel
theorem dX2_append_5 : decode cX2_append 5 = .ok (.getfield 29, 3) := by decide +kernel
theorem dX2_append_8 : decode cX2_append 8 = .ok (.iload_n 1, 1) := by decide +kernel
theorem dX2_append_9 : decode cX2_append 9 = .ok (.invokevirtual 36, 3) := by decide +kernel
theorem dX2_append_12 : decode cX2_append 12 = .ok (.aload_n 0, 1) := by decide +kernel
theorem dX2_append_13 : decode cX2_append 13 = .ok (.getfield 20, 3) := by decide +kernel
theorem dX2_append_16 : decode cX2_append 16 = .ok (.aload_n 0, 1) := by decide +kernel
theorem dX2_append_17 : decode cX2_append 17 = .ok (.getfield 29, 3) := by decide +kernel
theorem dX2_append_20 : decode cX2_append 20 = .ok (.iload_n 2, 1) := by decide +kernel
theorem dX2_append_21 : decode cX2_append 21 = .ok (.invokevirtual 36, 3) := by decide +kernel
theorem dX2_append_24 : decode cX2_append 24 = .ok (.aload_n 0, 1) := by decide +kernel
theorem dX2_append_25 : decode cX2_append 25 = .ok (.getfield 23, 3) := by decide +kernel
theorem dX2_append_28 : decode cX2_append 28 = .ok (.aload_n 0, 1) := by decide +kernel
theorem dX2_append_29 : decode cX2_append 29 = .ok (.getfield 29, 3) := by decide +kernel
theorem dX2_append_32 : decode cX2_append 32 = .ok (.iload_n 3, 1) := by decide +kernel
theorem dX2_append_33 : decode cX2_append 33 = .ok (.invokevirtual 36, 3) := by decide +kernel
theorem dX2_append_36 : decode cX2_append 36 = .ok (.aload_n 0, 1) := by decide +kernel
theorem dX2_append_37 : decode cX2_append 37 = .ok (.getfield 26, 3) := by decide +kernel
theorem dX2_append_40 : decode cX2_append 40 = .ok (.aload_n 0, 1) := by decide +kernel
theorem dX2_append_41 : decode cX2_append 41 = .ok (.getfield 29, 3) := by decide +kernel
theorem dX2_append_44 : decode cX2_append 44 = .ok (.iload 4, 2) := by decide +kernel
theorem dX2_append_46 : decode cX2_append 46 = .ok (.invokevirtual 36, 3) := by decide +kernel
theorem dX2_append_49 : decode cX2_append 49 = .ok (.aload_n 0, 1) := by decide +kernel
theorem dX2_append_50 : decode cX2_append 50 = .ok (.dup, 1) := by decide +kernel
theorem dX2_append_51 : decode cX2_append 51 = .ok (.getfield 29, 3) := by decide +kernel
theorem dX2_append_54 : decode cX2_append 54 = .ok (.iconst 1, 1) := by decide +kernel
theorem dX2_append_55 : decode cX2_append 55 = .ok (.iadd, 1) := by decide +kernel
theorem dX2_append_56 : decode cX2_append 56 = .ok (.putfield 29, 3) := by decide +kernel
theorem dX2_append_59 : decode cX2_append 59 = .ok (.iload_n 1, 1) := by decide +kernel
theorem dX2_append_60 : decode cX2_append 60 = .ok (.ifCond .ne 13, 3) := by decide +kernel
theorem dX2_append_63 : decode cX2_append 63 = .ok (.aload_n 0, 1) := by decide +kernel
theorem dX2_append_64 : decode cX2_append 64 = .ok (.dup, 1) := by decide +kernel
theorem dX2_append_65 : decode cX2_append 65 = .ok (.getfield 33, 3) := by decide +kernel
theorem dX2_append_68 : decode cX2_append 68 = .ok (.iconst 1, 1) := by decide +kernel
theorem dX2_append_69 : decode cX2_append 69 = .ok (.iadd, 1) := by decide +kernel
theorem dX2_append_70 : decode cX2_append 70 = .ok (.putfield 33, 3) := by decide +kernel
theorem dX2_append_73 : decode cX2_append 73 = .ok (.return_, 1) := by decide +kernel
theorem dX2_acts_0 : decode cX2_acts 0 = .ok (.aload_n 0, 1) := by decide +kernel
theorem dX2_acts_1 : decode cX2_acts 1 = .ok (.getfield 29, 3) := by decide +kernel
theorem dX2_acts_4 : decode cX2_acts 4 = .ok (.aload_n 0, 1) := by decide +kernel
theorem dX2_acts_5 : decode cX2_acts 5 = .ok (.getfield 33, 3) := by decide +kernel
theorem dX2_acts_8 : decode cX2_acts 8 = .ok (.isub, 1) := by decide +kernel
theorem dX2_acts_9 : decode cX2_acts 9 = .ok (.ireturn, 1) := by decide +kernel
set_option maxRecDepth 20000 in
theorem ggX3_init_X1_init : GoodIn wsX3_init wsX1_init := goodIn_r _ [19, 20, 2, 3, 21, 22, 23, 24, 25, 26, 27, 28, 29, 30, 31, 32, 40, 41, 42] (by decide +kernel) (by decide +kernel)
set_option maxRecDepth 20000 in
theorem gX3_init_X1_init : GoodIn wsX3_init (wsX1_init) := ggX3_init_X1_init
set_option maxRecDepth 20000 in
theorem ggX3_init_X4_init : GoodIn wsX3_init wsX4_init := goodIn_r _ [35, 36, 2, 3, 37, 24, 25, 26, 27, 38, 39, 30, 31, 32, 50] (by decide +kernel) (by decide +kernel)
set_option maxRecDepth 20000 in
theorem gX3_init_X4_init : GoodIn wsX3_init (wsX4_init) := ggX3_init_X4_init
theorem dX3_init_0 : decode cX3_init 0 = .ok (.aload_n 0, 1) := by decide +kernel
theorem dX3_init_1 : decode cX3_init 1 = .ok (.invokespecial 3, 3) := by decide +kernel
theorem dX3_init_4 : decode cX3_init 4 = .ok (.aload_n 0, 1) := by decide +kernel
theorem dX3_init_5 : decode cX3_init 5 = .ok (.new 9, 3) := by decide +kernel
theorem dX3_init_8 : decode cX3_init 8 = .ok (.dup, 1) := by decide +kernel
theorem dX3_init_9 : decode cX3_init 9 = .ok (.bipush 81, 2) := by decide +kernel
theorem dX3_init_11 : decode cX3_init 11 = .ok (.iconst 3, 1) := by decide +kernel
theorem dX3_init_12 : decode cX3_init 12 = .ok (.iconst (-1), 1) := by decide +kernel
theorem dX3_init_13 : decode cX3_init 13 = .ok (.invokespecial 11, 3) := by decide +kernel
theorem dX3_init_16 : decode cX3_init 16 = .ok (.putfield 14, 3) := by decide +kernel
theorem dX3_init_19 : decode cX3_init 19 = .ok (.aload_n 0, 1) := by decide +kernel
theorem dX3_init_20 : decode cX3_init 20 = .ok (.new 9, 3) := by decide +kernel
theorem dX3_init_23 : decode cX3_init 23 = .ok (.dup, 1) := by decide +kernel
theorem dX3_init_24 : decode cX3_init 24 = .ok (.bipush 81, 2) := by decide +kernel
theorem dX3_init_26 : decode cX3_init 26 = .ok (.iconst 4, 1) := by decide +kernel
theorem dX3_init_27 : decode cX3_init 27 = .ok (.iconst (-1), 1) := by decide +kernel
theorem dX3_init_28 : decode cX3_init 28 = .ok (.invokespecial 11, 3) := by decide +kernel
theorem dX3_init_31 : decode cX3_init 31 = .ok (.putfield 20, 3) := by decide +kernel
theorem dX3_init_34 : decode cX3_init 34 = .ok (.aload_n 0, 1) := by decide +kernel
theorem dX3_init_35 : decode cX3_init 35 = .ok (.new 23, 3) := by decide +kernel
theorem dX3_init_38 : decode cX3_init 38 = .ok (.dup, 1) := by decide +kernel
theorem dX3_init_39 : decode cX3_init 39 = .ok (.bipush 80, 2) := by decide +kernel
theorem dX3_init_41 : decode cX3_init 41 = .ok (.iconst (-1), 1) := by decide +kernel
theorem dX3_init_42 : decode cX3_init 42 = .ok (.invokespecial 25, 3) := by decide +kernel
theorem dX3_init_45 : decode cX3_init 45 = .ok (.putfield 28, 3) := by decide +kernel
theorem dX3_init_48 : decode cX3_init 48 = .ok (.aload_n 0, 1) := by decide +kernel
theorem dX3_init_49 : decode cX3_init 49 = .ok (.new 23, 3) := by decide +kernel
theorem dX3_init_52 : decode cX3_init 52 = .ok (.dup, 1) := by decide +kernel
theorem dX3_init_53 : decode cX3_init 53 = .ok (.bipush 80, 2) := by decide +kernel
theorem dX3_init_55 : decode cX3_init 55 = .ok (.iconst (-1), 1) := by decide +kernel
theorem dX3_init_56 : decode cX3_init 56 = .ok (.invokespecial 25, 3) := by decide +kernel
theorem dX3_init_59 : decode cX3_init 59 = .ok (.putfield 32, 3) := by decide +kernel
theorem dX3_init_62 : decode cX3_init 62 = .ok (.aload_n 0, 1) := by decide +kernel
theorem dX3_init_63 : decode cX3_init 63 = .ok (.new 23, 3) := by decide +kernel
theorem dX3_init_66 : decode cX3_init 66 = .ok (.dup, 1) := by decide +kernel
theorem dX3_init_67 : decode cX3_init 67 = .ok (.bipush 10, 2) := by decide +kernel
theorem dX3_init_69 : decode cX3_init 69 = .ok (.iconst 0, 1) := by decide +kernel
theorem dX3_init_70 : decode cX3_init 70 = .ok (.invokespecial 25, 3) := by decide +kernel
theorem dX3_init_73 : decode cX3_init 73 = .ok (.putfield 35, 3) := by decide +kernel
theorem dX3_init_76 : decode cX3_init 76 = .ok (.aload_n 0, 1) := by decide +kernel
theorem dX3_init_77 : decode cX3_init 77 = .ok (.iconst 0, 1) := by decide +kernel
theorem dX3_init_78 : decode cX3_init 78 = .ok (.putfield 38, 3) := by decide +kernel
theorem dX3_init_81 : decode cX3_init 81 = .ok (.aload_n 0, 1) := by decide +kernel
theorem dX3_init_82 : decode cX3_init 82 = .ok (.iconst 0, 1) := by decide +kernel
theorem dX3_init_83 : decode cX3_init 83 = .ok (.putfield 42, 3) := by decide +kernel
theorem dX3_init_86 : decode cX3_init 86 = .ok (.return_, 1) := by decide +kernel
theorem dX3_begin_0 : decode cX3_begin 0 = .ok (.aload_n 0, 1) := by decide +kernel
theorem dX3_begin_1 : decode cX3_begin 1 = .ok (.getfield 42, 3) := by decide +kernel
theorem dX3_begin_4 : decode cX3_begin 4 = .ok (.istore_n 1, 1) := by decide +kernel
theorem dX3_begin_5 : decode cX3_begin 5 = .ok (.aload_n 0, 1) := by decide +kernel
theorem dX3_begin_6 : decode cX3_begin 6 = .ok (.dup, 1) := by decide +kernel
theorem dX3_begin_7 : decode cX3_begin 7 = .ok (.getfield 42, 3) := by decide +kernel
theorem dX3_begin_10 : decode cX3_begin 10 = .ok (.iconst 1, 1) := by decide +kernel
theorem dX3_begin_11 : decode cX3_begin 11 = .ok (.iadd, 1) := by decide +kernel
theorem dX3_begin_12 : decode cX3_begin 12 = .ok (.putfield 42, 3) := by decide +kernel
theorem dX3_begin_15 : decode cX3_begin 15 = .ok (.iload_n 1, 1) := by decide +kernel
theorem dX3_begin_16 : decode cX3_begin 16 = .ok (.ireturn, 1) := by decide +kernel
set_option maxRecDepth 20000 in
theorem ggX3_close_X4_set : GoodIn wsX3_close wsX4_set := goodIn_r _ [9, 10, 18] (by decide +kernel) (by decide +kernel)
set_option maxRecDepth 20000 in
theorem gX3_close_X4_set : GoodIn wsX3_close (wsV RX3 45 RX4 yX4_set wsX4_set) := goodIn_app (goodIn_of _ (by decide +kernel)) ggX3_close_X4_set
theorem dX3_close_0 : decode cX3_close 0 = .ok (.aload_n 0, 1) := by decide +kernel
theorem dX3_close_1 : decode cX3_close 1 = .ok (.getfield 38, 3) := by decide +kernel
theorem dX3_close_4 : decode cX3_close 4 = .ok (.istore_n 2, 1) := by decide +kernel
theorem dX3_close_5 : decode cX3_close 5 = .ok (.aload_n 0, 1) := by decide +kernel
theorem dX3_close_6 : decode cX3_close 6 = .ok (.getfield 28, 3) := by decide +kernel
theorem dX3_close_9 : decode cX3_close 9 = .ok (.iload_n 2, 1) := by decide +kernel
theorem dX3_close_10 : decode cX3_close 10 = .ok (.iload_n 1, 1) := by decide +kernel
theorem dX3_close_11 : decode cX3_close 11 = .ok (.invokevirtual 45, 3) := by decide +kernel
theorem dX3_close_14 : decode cX3_close 14 = .ok (.aload_n 0, 1) := by decide +kernel
theorem dX3_close_15 : decode cX3_close 15 = .ok (.getfield 32, 3) := by decide +kernel
theorem dX3_close_18 : decode cX3_close 18 = .ok (.iload_n 2, 1) := by decide +kernel
theorem dX3_close_19 : decode cX3_close 19 = .ok (.aload_n 0, 1) := by decide +kernel
theorem dX3_close_20 : decode cX3_close 20 = .ok (.getfield 42, 3) := by decide +kernel
theorem dX3_close_23 : decode cX3_close 23 = .ok (.iconst 1, 1) := by decide +kernel
theorem dX3_close_24 : decode cX3_close 24 = .ok (.isub, 1) := by decide +kernel
theorem dX3_close_25 : decode cX3_close 25 = .ok (.invokevirtual 45, 3) := by decide +kernel
theorem dX3_close_28 : decode cX3_close 28 = .ok (.aload_n 0, 1) := by decide +kernel
theorem dX3_close_29 : decode cX3_close 29 = .ok (.dup, 1) := by decide +kernel
theorem dX3_close_30 : decode cX3_close 30 = .ok (.getfield 38, 3) := by decide +kernel
theorem dX3_close_33 : decode cX3_close 33 = .ok (.iconst 1, 1) := by decide +kernel
theorem dX3_close_34 : decode cX3_close 34 = .ok (.iadd, 1) := by decide +kernel
theorem dX3_close_35 : decode cX3_close 35 = .ok (.putfield 38, 3) := by decide +kernel
theorem dX3_close_38 : decode cX3_close 38 = .ok (.iload_n 2, 1) := by decide +kernel
theorem dX3_close_39 : decode cX3_close 39 = .ok (.ireturn, 1) := by decide +kernel
set_option maxRecDepth 20000 in
theorem ggX3_isLeftOut_X4_get : GoodIn wsX3_isLeftOut wsX4_get := goodIn_r _ [7, 8, 16] (by decide +kernel) (by decide +kernel)
set_option maxRecDepth 20000 in
theorem gX3_isLeftOut_X4_get : GoodIn wsX3_isLeftOut (wsV RX3 48 RX4 yX4_get wsX4_get) := goodIn_app (goodIn_of _ (by decide +kernel)) ggX3_isLeftOut_X4_get
theorem dX3_isLeftOut_0 : decode cX3_isLeftOut 0 = .ok (.aload_n 0, 1) := by decide +kernel
theorem dX3_isLeftOut_1 : decode cX3_isLeftOut 1 = .ok (.getfield 35, 3) := by decide +kernel
theorem dX3_isLeftOut_4 : decode cX3_isLeftOut 4 = .ok (.aload_n 0, 1) := by decide +kernel
theorem dX3_isLeftOut_5 : decode cX3_isLeftOut 5 = .ok (.getfield 32, 3) := by decide +kernel
theorem dX3_isLeftOut_8 : decode cX3_isLeftOut 8 = .ok (.iload_n 1, 1) := by decide +kernel
theorem dX3_isLeftOut_9 : decode cX3_isLeftOut 9 = .ok (.invokevirtual 48, 3) := by decide +kernel
theorem dX3_isLeftOut_12 : decode cX3_isLeftOut 12 = .ok (.invokevirtual 48, 3) := by decide +kernel
theorem dX3_isLeftOut_15 : decode cX3_isLeftOut 15 = .ok (.iconst 1, 1) := by decide +kernel
theorem dX3_isLeftOut_16 : decode cX3_isLeftOut 16 = .ok (.if_icmp .ne 7, 3) := by decide +kernel
theorem dX3_isLeftOut_19 : decode cX3_isLeftOut 19 = .ok (.iconst 1, 1) := by decide +kernel
theorem dX3_isLeftOut_20 : decode cX3_isLeftOut 20 = .ok (.goto 4, 3) := by decide +kernel
theorem dX3_isLeftOut_23 : decode cX3_isLeftOut 23 = .ok (.iconst 0, 1) := by decide +kernel
theorem dX3_isLeftOut_24 : decode cX3_isLeftOut 24 = .ok (.ireturn, 1) := by decide +kernel
set_option maxRecDepth 20000 in
theorem ggX4_init_J7_fill_53178 : GoodIn wsX4_init wsJ7_fill_53178 := goodIn_r _ [13] (by decide +kernel) (by decide +kernel)
set_option maxRecDepth 20000 in
theorem gX4_init_J7_fill_53178 : GoodIn wsX4_init (va_wsS RX4 21 yJ7_fill_53178 wsJ7_fill_53178) := goodIn_app (goodIn_of _ (by decide +kernel)) ggX4_init_J7_fill_53178
theorem dX4_init_0 : decode cX4_init 0 = .ok (.aload_n 0, 1) := by decide +kernel
theorem dX4_init_1 : decode cX4_init 1 = .ok (.invokespecial 3, 3) := by decide +kernel
theorem dX4_init_4 : decode cX4_init 4 = .ok (.aload_n 0, 1) := by decide +kernel
theorem dX4_init_5 : decode cX4_init 5 = .ok (.iconst 0, 1) := by decide +kernel
theorem dX4_init_6 : decode cX4_init 6 = .ok (.iload_n 1, 1) := by decide +kernel
theorem dX4_init_7 : decode cX4_init 7 = .ok (.invokestatic 9, 3) := by decide +kernel
theorem dX4_init_10 : decode cX4_init 10 = .ok (.newarray .int, 2) := by decide +kernel
theorem dX4_init_12 : decode cX4_init 12 = .ok (.putfield 15, 3) := by decide +kernel
theorem dX4_init_15 : decode cX4_init 15 = .ok (.aload_n 0, 1) := by decide +kernel
theorem dX4_init_16 : decode cX4_init 16 = .ok (.getfield 15, 3) := by decide +kernel
theorem dX4_init_19 : decode cX4_init 19 = .ok (.iload_n 2, 1) := by decide +kernel
theorem dX4_init_20 : decode cX4_init 20 = .ok (.invokestatic 21, 3) := by decide +kernel
theorem dX4_init_23 : decode cX4_init 23 = .ok (.return_, 1) := by decide +kernel
theorem dX4_get_0 : decode cX4_get 0 = .ok (.iload_n 1, 1) := by decide +kernel
theorem dX4_get_1 : decode cX4_get 1 = .ok (.ifCond .lt 21, 3) := by decide +kernel
theorem dX4_get_4 : decode cX4_get 4 = .ok (.iload_n 1, 1) := by decide +kernel
theorem dX4_get_5 : decode cX4_get 5 = .ok (.aload_n 0, 1) := by decide +kernel
theorem dX4_get_6 : decode cX4_get 6 = .ok (.getfield 15, 3) := by decide +kernel
theorem dX4_get_9 : decode cX4_get 9 = .ok (.arraylength, 1) := by decide +kernel
theorem dX4_get_10 : decode cX4_get 10 = .ok (.if_icmp .ge 12, 3) := by decide +kernel
theorem dX4_get_13 : decode cX4_get 13 = .ok (.aload_n 0, 1) := by decide +kernel
theorem dX4_get_14 : decode cX4_get 14 = .ok (.getfield 15, 3) := by decide +kernel
theorem dX4_get_17 : decode cX4_get 17 = .ok (.iload_n 1, 1) := by decide +kernel
theorem dX4_get_18 : decode cX4_get 18 = .ok (.iaload, 1) := by decide +kernel
theorem dX4_get_19 : decode cX4_get 19 = .ok (.goto 4, 3) := by decide +kernel
theorem dX4_get_22 : decode cX4_get 22 = .ok (.iconst (-1), 1) := by decide +kernel
theorem dX4_get_23 : decode cX4_get 23 = .ok (.ireturn, 1) := by decide +kernel
theorem dX4_set_0 : decode cX4_set 0 = .ok (.iload_n 1, 1) := by decide +kernel
theorem dX4_set_1 : decode cX4_set 1 = .ok (.ifCond .lt 19, 3) := by decide +kernel
theorem dX4_set_4 : decode cX4_set 4 = .ok (.iload_n 1, 1) := by decide +kernel
theorem dX4_set_5 : decode cX4_set 5 = .ok (.aload_n 0, 1) := by decide +kernel
theorem dX4_set_6 : decode cX4_set 6 = .ok (.getfield 15, 3) := by decide +kernel
theorem dX4_set_9 : decode cX4_set 9 = .ok (.arraylength, 1) := by decide +kernel
theorem dX4_set_10 : decode cX4_set 10 = .ok (.if_icmp .ge 10, 3) := by decide +kernel
theorem dX4_set_13 : decode cX4_set 13 = .ok (.aload_n 0, 1) := by decide +kernel
theorem dX4_set_14 : decode cX4_set 14 = .ok (.getfield 15, 3) := by decide +kernel
theorem dX4_set_17 : decode cX4_set 17 = .ok (.iload_n 1, 1) := by decide +kernel
theorem dX4_set_18 : decode cX4_set 18 = .ok (.iload_n 2, 1) := by decide +kernel
theorem dX4_set_19 : decode cX4_set 19 = .ok (.iastore, 1) := by decide +kernel
theorem dX4_set_20 : decode cX4_set 20 = .ok (.return_, 1) := by decide +kernel
set_option maxRecDepth 20000 in
theorem ggX4_fill_J7_fill_53178 : GoodIn wsX4_fill wsJ7_fill_53178 := goodIn_r _ [5] (by decide +kernel) (by decide +kernel)
set_option maxRecDepth 20000 in
theorem gX4_fill_J7_fill_53178 : GoodIn wsX4_fill (va_wsS RX4 21 yJ7_fill_53178 wsJ7_fill_53178) := goodIn_app (goodIn_of _ (by decide +kernel)) ggX4_fill_J7_fill_53178
theorem dX4_fill_0 : decode cX4_fill 0 = .ok (.aload_n 0, 1) := by decide +kernel
theorem dX4_fill_1 : decode cX4_fill 1 = .ok (.getfield 15, 3) := by decide +kernel
theorem dX4_fill_4 : decode cX4_fill 4 = .ok (.iload_n 1, 1) := by decide +kernel
theorem dX4_fill_5 : decode cX4_fill 5 = .ok (.invokestatic 21, 3) := by decide +kernel
theorem dX4_fill_8 : decode cX4_fill 8 = .ok (.return_, 1) := by decide +kernel
set_option maxRecDepth 20000 in
theorem ggX5_init_X4_init : GoodIn wsX5_init wsX4_init := goodIn_r _ [12, 13, 2, 3, 14, 15, 16, 17, 18, 19, 20, 21, 22, 23, 28] (by decide +kernel) (by decide +kernel)
set_option maxRecDepth 20000 in
theorem gX5_init_X4_init : GoodIn wsX5_init (wsX4_init) := ggX5_init_X4_init
set_option maxRecDepth 20000 in
theorem ggX5_init_X4_set : GoodIn wsX5_init wsX4_set := goodIn_r _ [27, 19, 28] (by decide +kernel) (by decide +kernel)
set_option maxRecDepth 20000 in
theorem gX5_init_X4_set : GoodIn wsX5_init (wsV RX5 20 RX4 yX4_set wsX4_set) := goodIn_app (goodIn_of _ (by decide +kernel)) ggX5_init_X4_set
theorem dX5_init_0 : decode cX5_init 0 = .ok (.aload_n 0, 1) := by decide +kernel
theorem dX5_init_1 : decode cX5_init 1 = .ok (.invokespecial 3, 3) := by decide +kernel
theorem dX5_init_4 : decode cX5_init 4 = .ok (.aload_n 0, 1) := by decide +kernel
theorem dX5_init_5 : decode cX5_init 5 = .ok (.new 9, 3) := by decide +kernel
theorem dX5_init_8 : decode cX5_init 8 = .ok (.dup, 1) := by decide +kernel
theorem dX5_init_9 : decode cX5_init 9 = .ok (.iconst 5, 1) := by decide +kernel
theorem dX5_init_10 : decode cX5_init 10 = .ok (.iconst 0, 1) := by decide +kernel
theorem dX5_init_11 : decode cX5_init 11 = .ok (.invokespecial 11, 3) := by decide +kernel
theorem dX5_init_14 : decode cX5_init 14 = .ok (.putfield 14, 3) := by decide +kernel
theorem dX5_init_17 : decode cX5_init 17 = .ok (.iconst 0, 1) := by decide +kernel
theorem dX5_init_18 : decode cX5_init 18 = .ok (.istore_n 1, 1) := by decide +kernel
theorem dX5_init_19 : decode cX5_init 19 = .ok (.iload_n 1, 1) := by decide +kernel
theorem dX5_init_20 : decode cX5_init 20 = .ok (.iconst 5, 1) := by decide +kernel
theorem dX5_init_21 : decode cX5_init 21 = .ok (.if_icmp .ge 18, 3) := by decide +kernel
theorem dX5_init_24 : decode cX5_init 24 = .ok (.aload_n 0, 1) := by decide +kernel
theorem dX5_init_25 : decode cX5_init 25 = .ok (.getfield 14, 3) := by decide +kernel
theorem dX5_init_28 : decode cX5_init 28 = .ok (.iload_n 1, 1) := by decide +kernel
theorem dX5_init_29 : decode cX5_init 29 = .ok (.iload_n 1, 1) := by decide +kernel
theorem dX5_init_30 : decode cX5_init 30 = .ok (.invokevirtual 20, 3) := by decide +kernel
theorem dX5_init_33 : decode cX5_init 33 = .ok (.iinc 1 1, 3) := by decide +kernel
theorem dX5_init_36 : decode cX5_init 36 = .ok (.goto (-17), 3) := by decide +kernel
theorem dX5_init_39 : decode cX5_init 39 = .ok (.aload_n 0, 1) := by decide +kernel
theorem dX5_init_40 : decode cX5_init 40 = .ok (.new 9, 3) := by decide +kernel
theorem dX5_init_43 : decode cX5_init 43 = .ok (.dup, 1) := by decide +kernel
theorem dX5_init_44 : decode cX5_init 44 = .ok (.iconst 4, 1) := by decide +kernel
theorem dX5_init_45 : decode cX5_init 45 = .ok (.iconst 1, 1) := by decide +kernel
theorem dX5_init_46 : decode cX5_init 46 = .ok (.invokespecial 11, 3) := by decide +kernel
theorem dX5_init_49 : decode cX5_init 49 = .ok (.putfield 23, 3) := by decide +kernel
theorem dX5_init_52 : decode cX5_init 52 = .ok (.aload_n 0, 1) := by decide +kernel
theorem dX5_init_53 : decode cX5_init 53 = .ok (.new 9, 3) := by decide +kernel
theorem dX5_init_56 : decode cX5_init 56 = .ok (.dup, 1) := by decide +kernel
theorem dX5_init_57 : decode cX5_init 57 = .ok (.iconst 3, 1) := by decide +kernel
theorem dX5_init_58 : decode cX5_init 58 = .ok (.iconst 0, 1) := by decide +kernel
theorem dX5_init_59 : decode cX5_init 59 = .ok (.invokespecial 11, 3) := by decide +kernel
theorem dX5_init_62 : decode cX5_init 62 = .ok (.putfield 26, 3) := by decide +kernel
theorem dX5_init_65 : decode cX5_init 65 = .ok (.iconst 0, 1) := by decide +kernel
theorem dX5_init_66 : decode cX5_init 66 = .ok (.istore_n 1, 1) := by decide +kernel
theorem dX5_init_67 : decode cX5_init 67 = .ok (.iload_n 1, 1) := by decide +kernel
theorem dX5_init_68 : decode cX5_init 68 = .ok (.iconst 3, 1) := by decide +kernel
theorem dX5_init_69 : decode cX5_init 69 = .ok (.if_icmp .ge 18, 3) := by decide +kernel
theorem dX5_init_72 : decode cX5_init 72 = .ok (.aload_n 0, 1) := by decide +kernel
theorem dX5_init_73 : decode cX5_init 73 = .ok (.getfield 26, 3) := by decide +kernel
theorem dX5_init_76 : decode cX5_init 76 = .ok (.iload_n 1, 1) := by decide +kernel
theorem dX5_init_77 : decode cX5_init 77 = .ok (.iload_n 1, 1) := by decide +kernel
theorem dX5_init_78 : decode cX5_init 78 = .ok (.invokevirtual 20, 3) := by decide +kernel
theorem dX5_init_81 : decode cX5_init 81 = .ok (.iinc 1 1, 3) := by decide +kernel
theorem dX5_init_84 : decode cX5_init 84 = .ok (.goto (-17), 3) := by decide +kernel
theorem dX5_init_87 : decode cX5_init 87 = .ok (.return_, 1) := by decide +kernel
set_option maxRecDepth 20000 in
theorem ggX5_replaces_X4_get : GoodIn wsX5_replaces wsX4_get := goodIn_r _ [7, 8, 12] (by decide +kernel) (by decide +kernel)
set_option maxRecDepth 20000 in
theorem gX5_replaces_X4_get : GoodIn wsX5_replaces (wsV RX5 29 RX4 yX4_get wsX4_get) := goodIn_app (goodIn_of _ (by decide +kernel)) ggX5_replaces_X4_get
theorem dX5_replaces_0 : decode cX5_replaces 0 = .ok (.aload_n 0, 1) := by decide +kernel
theorem dX5_replaces_1 : decode cX5_replaces 1 = .ok (.getfield 23, 3) := by decide +kernel
theorem dX5_replaces_4 : decode cX5_replaces 4 = .ok (.iload_n 1, 1) := by decide +kernel
theorem dX5_replaces_5 : decode cX5_replaces 5 = .ok (.invokevirtual 29, 3) := by decide +kernel
theorem dX5_replaces_8 : decode cX5_replaces 8 = .ok (.lookupswitch 32 #[(0, 28), (2, 30)], 28) := by decide +kernel
theorem dX5_replaces_36 : decode cX5_replaces 36 = .ok (.iconst 0, 1) := by decide +kernel
theorem dX5_replaces_37 : decode cX5_replaces 37 = .ok (.ireturn, 1) := by decide +kernel
theorem dX5_replaces_38 : decode cX5_replaces 38 = .ok (.iconst 1, 1) := by decide +kernel
theorem dX5_replaces_39 : decode cX5_replaces 39 = .ok (.ireturn, 1) := by decide +kernel
theorem dX5_replaces_40 : decode cX5_replaces 40 = .ok (.aload_n 0, 1) := by decide +kernel
theorem dX5_replaces_41 : decode cX5_replaces 41 = .ok (.getfield 14, 3) := by decide +kernel
theorem dX5_replaces_44 : decode cX5_replaces 44 = .ok (.iload_n 2, 1) := by decide +kernel
theorem dX5_replaces_45 : decode cX5_replaces 45 = .ok (.invokevirtual 29, 3) := by decide +kernel
theorem dX5_replaces_48 : decode cX5_replaces 48 = .ok (.aload_n 0, 1) := by decide +kernel
theorem dX5_replaces_49 : decode cX5_replaces 49 = .ok (.getfield 14, 3) := by decide +kernel
theorem dX5_replaces_52 : decode cX5_replaces 52 = .ok (.iload_n 3, 1) := by decide +kernel
theorem dX5_replaces_53 : decode cX5_replaces 53 = .ok (.invokevirtual 29, 3) := by decide +kernel
theorem dX5_replaces_56 : decode cX5_replaces 56 = .ok (.if_icmp .lt 7, 3) := by decide +kernel
theorem dX5_replaces_59 : decode cX5_replaces 59 = .ok (.iconst 1, 1) := by decide +kernel
theorem dX5_replaces_60 : decode cX5_replaces 60 = .ok (.goto 4, 3) := by decide +kernel
theorem dX5_replaces_63 : decode cX5_replaces 63 = .ok (.iconst 0, 1) := by decide +kernel
theorem dX5_replaces_64 : decode cX5_replaces 64 = .ok (.ireturn, 1) := by decide +kernel
theorem dJ9_max_7cf53_0 : decode cJ9_max_7cf53 0 = .ok (.iload_n 0, 1) := by decide +kernel
theorem dJ9_max_7cf53_1 : decode cJ9_max_7cf53 1 = .ok (.iload_n 1, 1) := by decide +kernel
theorem dJ9_max_7cf53_2 : decode cJ9_max_7cf53 2 = .ok (.if_icmp .lt 7, 3) := by decide +kernel
theorem dJ9_max_7cf53_5 : decode cJ9_max_7cf53 5 = .ok (.iload_n 0, 1) := by decide +kernel
theorem dJ9_max_7cf53_6 : decode cJ9_max_7cf53 6 = .ok (.goto 4, 3) := by decide +kernel
theorem dJ9_max_7cf53_9 : decode cJ9_max_7cf53 9 = .ok (.iload_n 1, 1) := by decide +kernel
theorem dJ9_max_7cf53_10 : decode cJ9_max_7cf53 10 = .ok (.ireturn, 1) := by decide +kernel
theorem dJ7_fill_53178_0 : decode cJ7_fill_53178 0 = .ok (.iconst 0, 1) := by decide +kernel
theorem dJ7_fill_53178_1 : decode cJ7_fill_53178 1 = .ok (.istore_n 2, 1) := by decide +kernel
theorem dJ7_fill_53178_2 : decode cJ7_fill_53178 2 = .ok (.aload_n 0, 1) := by decide +kernel
theorem dJ7_fill_53178_3 : decode cJ7_fill_53178 3 = .ok (.arraylength, 1) := by decide +kernel
theorem dJ7_fill_53178_4 : decode cJ7_fill_53178 4 = .ok (.istore_n 3, 1) := by decide +kernel
theorem dJ7_fill_53178_5 : decode cJ7_fill_53178 5 = .ok (.iload_n 2, 1) := by decide +kernel
theorem dJ7_fill_53178_6 : decode cJ7_fill_53178 6 = .ok (.iload_n 3, 1) := by decide +kernel
theorem dJ7_fill_53178_7 : decode cJ7_fill_53178 7 = .ok (.if_icmp .ge 13, 3) := by decide +kernel
theorem dJ7_fill_53178_10 : decode cJ7_fill_53178 10 = .ok (.aload_n 0, 1) := by decide +kernel
theorem dJ7_fill_53178_11 : decode cJ7_fill_53178 11 = .ok (.iload_n 2, 1) := by decide +kernel
theorem dJ7_fill_53178_12 : decode cJ7_fill_53178 12 = .ok (.iload_n 1, 1) := by decide +kernel
theorem dJ7_fill_53178_13 : decode cJ7_fill_53178 13 = .ok (.iastore, 1) := by decide +kernel
theorem dJ7_fill_53178_14 : decode cJ7_fill_53178 14 = .ok (.iinc 2 1, 3) := by decide +kernel
theorem dJ7_fill_53178_17 : decode cJ7_fill_53178 17 = .ok (.goto (-12), 3) := by decide +kernel
theorem dJ7_fill_53178_20 : decode cJ7_fill_53178 20 = .ok (.return_, 1) := by decide +kernel
end
section
/-! CALLS IN PLACE: a contract over a small world W0, used in a larger one by places; what comes back is put where it was -/
abbrev cq_Y : Type := ClassId × ClassId × ClassId
abbrev cq_ty (Y : cq_Y) : List (ClassId × FieldType) := [(Y.1, .int), (Y.2.1, .boolean), (Y.2.2, .long)]
/-- the words of the nest mates' fields -/
def cq_nl : List (String × Nat × String × String × String × String) := [
  ("CatalogueLoader", 51, "CatalogueLoader$Settings", "ranks", "LCatalogueLoader$Row;", "CatalogueLoader"),
  ("CatalogueLoader", 64, "CatalogueLoader$Settings", "rules", "LCatalogueLoader$Row;", "CatalogueLoader"),
  ("CatalogueLoader", 74, "CatalogueLoader$Settings", "order", "LCatalogueLoader$Row;", "CatalogueLoader"),
  ("CatalogueLoader$Catalogue", 77, "CatalogueLoader$Settings", "order", "LCatalogueLoader$Row;", "CatalogueLoader"),
  ("CatalogueLoader", 90, "CatalogueLoader$Loads", "keys", "LCatalogueLoader$Grid;", "CatalogueLoader"),
  ("CatalogueLoader$Catalogue", 82, "CatalogueLoader$Loads", "keys", "LCatalogueLoader$Grid;", "CatalogueLoader"),
  ("CatalogueLoader", 104, "CatalogueLoader$Loads", "fields", "LCatalogueLoader$Grid;", "CatalogueLoader"),
  ("CatalogueLoader$Catalogue", 93, "CatalogueLoader$Loads", "fields", "LCatalogueLoader$Grid;", "CatalogueLoader"),
  ("CatalogueLoader$Catalogue", 91, "CatalogueLoader$Loads", "sources", "LCatalogueLoader$Row;", "CatalogueLoader"),
  ("CatalogueLoader", 141, "CatalogueLoader$Loads", "undone", "LCatalogueLoader$Row;", "CatalogueLoader"),
  ("CatalogueLoader", 94, "CatalogueLoader$Loads", "count", "I", "CatalogueLoader"),
  ("CatalogueLoader", 77, "CatalogueLoader$Loads", "batchCount", "I", "CatalogueLoader"),
  ("CatalogueLoader", 200, "CatalogueLoader$History", "kinds", "LCatalogueLoader$Row;", "CatalogueLoader"),
  ("CatalogueLoader", 194, "CatalogueLoader$History", "first", "LCatalogueLoader$Row;", "CatalogueLoader"),
  ("CatalogueLoader", 197, "CatalogueLoader$History", "second", "LCatalogueLoader$Row;", "CatalogueLoader"),
  ("CatalogueLoader", 203, "CatalogueLoader$History", "third", "LCatalogueLoader$Row;", "CatalogueLoader"),
  ("CatalogueLoader", 189, "CatalogueLoader$History", "count", "I", "CatalogueLoader"),
  ("CatalogueLoader", 159, "CatalogueLoader$Catalogue", "keys", "LCatalogueLoader$Grid;", "CatalogueLoader"),
  ("CatalogueLoader", 160, "CatalogueLoader$Catalogue", "fields", "LCatalogueLoader$Grid;", "CatalogueLoader"),
  ("CatalogueLoader", 161, "CatalogueLoader$Catalogue", "sources", "LCatalogueLoader$Grid;", "CatalogueLoader"),
  ("CatalogueLoader", 164, "CatalogueLoader$Catalogue", "held", "LCatalogueLoader$Row;", "CatalogueLoader"),
  ("CatalogueLoader", 156, "CatalogueLoader$Catalogue", "hits", "LCatalogueLoader$Row;", "CatalogueLoader")]
def cq_nw (t : String × Nat × String × String × String × String) : Cond := .fieldLinkNest t.1 t.2.1 t.2.2.1 t.2.2.2.1 t.2.2.2.2.1 t.2.2.2.2.2
def cq_N (U : State) : Prop := ∀ t ∈ cq_nl, va_Nw (cq_nw t) U
/-- what a method knows of the machine's tables -/
def cq_G (D : va_G) (Y : cq_Y) (U : State) : Prop := va_K D vwCl (cq_ty Y) U ∧ cq_N U
theorem cq_G.warm {D : va_G} {Y : cq_Y} {s U : State} (hW : s.WarmedH U.vm) (h : cq_G D Y s) : cq_G D Y U :=
  ⟨va_K.moved hW.alike h.1, fun t ht => va_Nw.warmF hW (h.2 t ht)⟩
theorem cq_G.calling {D : va_G} {Y : cq_Y} {U : State} {g : JFrame} {mk : MethodId} {a : Array Value} (h : cq_G D Y U) : cq_G D Y (U.calling g mk a) :=
  ⟨va_K.moved (u := U) (U := U.calling g mk a) (Vm.Alike.refl U.vm) h.1, fun t ht => va_Nw.same rfl (u := U) (U := U.calling g mk a) rfl (h.2 t ht)⟩
theorem cq_G.nest {D : va_G} {Y : cq_Y} {U : State} {args : Array Value} (h : cq_G D Y U) (i : Nat) {t : String × Nat × String × String × String × String} (ht : cq_nl[i]? = some t) : (cq_nw t).before args U = true :=
  va_Nw.use rfl (h.2 t (List.mem_of_getElem? ht))
/-- a contract's start; its end where nothing is written; its end where only the world is -/
def cq_P (D : va_G) (Y : cq_Y) (W0 : va_W) (av : List Value) : Array Value → State → Prop := va_Pc av (fun U => va_P D vwCl W0 U.heap ∧ cq_G D Y U ∧ va_D (fun _ => True) W0)
def cq_R (v : Option Value) : Array Value → State → Outcome → State → Prop := fun _ st oc t => oc = .returned v ∧ t.heap = st.heap
def cq_in (W0 : va_W) : Nat → Prop := fun q => ∃ x ∈ W0, x.1 = q
def cq_W (D : va_G) (v : Option Value) (W0 W1 : va_W) : Array Value → State → Outcome → State → Prop := fun _ st oc t => oc = .returned v ∧ va_P D vwCl W1 t.heap ∧ va_F (cq_in W0) st t
def cq_rm (f n : Nat) : Room := { frames := f, cells := 0, slots := 0, locals := n }
def cq_MR (l : Launch) (y : MethodName) (ws : List Cond) (rm : Room) (D : va_G) (Y : cq_Y) (W0 : va_W) (av : List Value) (v : Option Value) : Prop := Met l y ws rm (cq_P D Y W0 av) (cq_R v) 0 0 (fun _ => False)
def cq_MW (l : Launch) (y : MethodName) (ws : List Cond) (rm : Room) (D : va_G) (Y : cq_Y) (W0 : va_W) (av : List Value) (v : Option Value) (W1 : va_W) : Prop := Met l y ws rm (cq_P D Y W0 av) (cq_W D v W0 W1) 0 0 (cq_in W0)
theorem cq_P.blind {D : va_G} {Y : cq_Y} {W0 : va_W} {av : List Value} : FrameBlind (cq_P D Y W0 av) := fun a U g mk q => ⟨q.1, q.2.1, q.2.2.1.calling, q.2.2.2⟩
/-- the world wl1 is wl with W1 at the places ps -/
def cq_new (wl wl1 W1 : va_W) (ps qs : List Nat) : Prop := ps.map (fun i => wl1[i]?) = W1.map some ∧ (∃ Q0 : va_W, qs.map (fun i => wl1[i]?) = Q0.map some ∧ qs.map (fun i => wl[i]?) = Q0.map some) ∧ ∃ N : Nat, wl1.length = N ∧ (List.range N).all (fun i => ps.contains i || qs.contains i) = true
theorem cq_new_get {wl wl1 W1 : va_W} {ps qs : List Nat} (h : cq_new wl wl1 W1 ps qs) (k : Nat) (q : Nat × va_E) (hq : wl1[k]? = some q) : (∃ j : Nat, ps[j]? = some k ∧ W1[j]? = some q) ∨ (wl[k]? = some q ∧ k ∉ ps) := by
  obtain ⟨h1, ⟨Q0, hq1, hq0⟩, N, h4, h3⟩ := h
  have h2 := hq1.trans hq0.symm
  have hk : k < wl1.length := (List.getElem?_eq_some_iff.mp hq).1
  rw [h4] at hk
  have h5 := List.all_eq_true.mp h3 k (List.mem_range.mpr hk)
  by_cases hp : k ∈ ps
  · obtain ⟨j, hj⟩ := List.getElem?_of_mem hp
    refine Or.inl ⟨j, hj, ?_⟩
    have h6 : (ps.map (fun i => wl1[i]?))[j]? = some (some q) := by rw [List.getElem?_map, hj]; simp [hq]
    rw [h1, List.getElem?_map] at h6
    cases hw : W1[j]? with
    | none => rw [hw] at h6; cases h6
    | some x => rw [hw] at h6; simpa using h6
  · have hq2 : k ∈ qs := by
      rcases Bool.or_eq_true _ _ ▸ h5 with h | h
      · exact absurd (List.contains_iff_mem.mp h) hp
      · exact List.contains_iff_mem.mp h
    obtain ⟨j, hj⟩ := List.getElem?_of_mem hq2
    have h6 : (qs.map (fun i => wl1[i]?))[j]? = some (wl1[k]?) := by rw [List.getElem?_map, hj]; rfl
    rw [h2, List.getElem?_map, hj] at h6
    exact Or.inr ⟨(Option.some.inj h6).trans hq, hp⟩
theorem cq_key {is : List Nat} {wl w : va_W} (hs : is.map (fun i => wl[i]?) = w.map some) (k : Nat) (q : Nat × va_E) (hk : w[k]? = some q) : ∃ i, is[k]? = some i ∧ wl[i]? = some q := by
  have h1 : (is.map (fun i => wl[i]?))[k]? = some (some q) := by rw [hs, List.getElem?_map, hk]; rfl
  rw [List.getElem?_map] at h1
  cases hi : is[k]? with
  | none => rw [hi] at h1; cases h1
  | some i => rw [hi] at h1; exact ⟨i, rfl, Option.some.inj h1⟩
theorem cq_key2 {is : List Nat} {wl w : va_W} (hs : is.map (fun i => wl[i]?) = w.map some) (k i : Nat) (hi : is[k]? = some i) : ∃ q, w[k]? = some q ∧ wl[i]? = some q := by
  have h1 : (is.map (fun i => wl[i]?))[k]? = some (wl[i]?) := by rw [List.getElem?_map, hi]; rfl
  rw [hs, List.getElem?_map] at h1
  cases hq : w[k]? with
  | none => rw [hq] at h1; cases h1
  | some q => rw [hq] at h1; exact ⟨q, rfl, (Option.some.inj h1).symm⟩
theorem cq_adr {W0 W1 : va_W} (had : W1.map (·.1) = W0.map (·.1)) (k : Nat) (x : Nat × va_E) (h : W1[k]? = some x) : ∃ y, W0[k]? = some y ∧ y.1 = x.1 := by
  have h1 : (W1.map (·.1))[k]? = some x.1 := by rw [List.getElem?_map, h]; rfl
  rw [had, List.getElem?_map] at h1
  cases hy : W0[k]? with
  | none => rw [hy] at h1; cases h1
  | some y => rw [hy] at h1; exact ⟨y, rfl, Option.some.inj h1⟩
theorem cq_put_P {D : va_G} {A : Nat → Prop} {wl wl1 W0 W1 : va_W} {H H1 : Heap} {ps qs : List Nat} (hn : cq_new wl wl1 W1 ps qs) (hP : va_P D vwCl wl H) (hD : va_D A wl) (hps : ps.map (fun i => wl[i]?) = W0.map some) (had : W1.map (·.1) = W0.map (·.1))
    (hk : ∀ q : Nat, q < H.size → ¬ cq_in W0 q → H1[q]? = H[q]?) (hP1 : va_P D vwCl W1 H1) : va_P D vwCl wl1 H1 := by
  intro k q hq
  rcases cq_new_get hn k q hq with ⟨j, -, h2⟩ | ⟨h1, h2⟩
  · exact hP1 j q h2
  · refine (hP k q h1).kept (hk q.1 (hP k q h1).lt ?_)
    rintro ⟨x, hx, e⟩
    obtain ⟨j, hj⟩ := List.getElem?_of_mem hx
    obtain ⟨i, hi, hi2⟩ := cq_key hps j x hj
    have := hD.1 i k x q hi2 h1 e
    subst this
    exact h2 (List.mem_of_getElem? hi)
theorem cq_put_D {A : Nat → Prop} {wl wl1 W0 W1 : va_W} {ps qs : List Nat} (hn : cq_new wl wl1 W1 ps qs) (hD : va_D A wl) (hps : ps.map (fun i => wl[i]?) = W0.map some) (had : W1.map (·.1) = W0.map (·.1)) : va_D A wl1 := by
  have key : ∀ (k : Nat) (q : Nat × va_E), wl1[k]? = some q → ∃ y, wl[k]? = some y ∧ y.1 = q.1 := by
    intro k q hq
    rcases cq_new_get hn k q hq with ⟨j, h1, h2⟩ | ⟨h1, -⟩
    · obtain ⟨y, hy, e⟩ := cq_adr had j q h2
      obtain ⟨i, hi, hi2⟩ := cq_key hps j y hy
      cases Option.some.inj (hi.symm.trans h1)
      exact ⟨y, hi2, e⟩
    · exact ⟨q, h1, rfl⟩
  refine ⟨fun i j x y hi hj hxy => ?_, fun k q hk => ?_⟩
  · obtain ⟨x', h1, e1⟩ := key i x hi
    obtain ⟨y', h2, e2⟩ := key j y hj
    exact hD.1 i j x' y' h1 h2 (by rw [e1, e2]; exact hxy)
  · obtain ⟨y, h1, e⟩ := key k q hk
    rw [← e]
    exact hD.2 k y h1
theorem cq_sub_in {A : Nat → Prop} {wl W0 : va_W} {ps : List Nat} (hD : va_D A wl) (hps : ps.map (fun i => wl[i]?) = W0.map some) : ∀ q, cq_in W0 q → A q := by
  rintro q ⟨x, hx, rfl⟩
  obtain ⟨j, hj⟩ := List.getElem?_of_mem hx
  obtain ⟨i, -, hi2⟩ := cq_key hps j x hj
  exact hD.2 i x hi2
theorem cq_sub_P {D : va_G} {wl W0 : va_W} {H : Heap} {ps : List Nat} (hP : va_P D vwCl wl H) (hps : ps.map (fun i => wl[i]?) = W0.map some) : va_P D vwCl W0 H := by
  intro k q hk
  obtain ⟨i, -, h⟩ := cq_key hps k q hk
  exact hP i q h
theorem cq_self {W0 : va_W} {A : Nat → Prop} (h : va_D A W0) : va_D (cq_in W0) W0 := ⟨h.1, fun _ _ hk => ⟨_, List.mem_of_getElem? hk, rfl⟩⟩
section CQC
variable {p : Program} {l : Launch} {e : Env} {R : Room} {s : State} {m : MethodId} {args : Array Value} {below : List Frame} {meth : Method} {c : Code} {H : Heap} {locs : List Loc} {cells slots : Nat} {Q : State → Prop}
variable {y : MethodName} {bytes cc : ByteArray} {maxL nL n index pc : Nat} {ret : Option FieldType} {ws : List Cond} {rm : Room} {Ts : List Cond} {own C : String} {b : Addr} {As rest st0 : List Value} {ls : Array Slot}
variable {D : va_G} {Y : cq_Y} {W0 W1 wl : va_W} {v : Option Value} {A : Nat → Prop} {H0 : Heap}
theorem cq_afterR {a : Array Value} (hr : va_Run p l e R s m args below meth c H locs cells slots 0 0 (F0 m pc ls st0) rest (cq_R v a) (fun _ => False))
    (kk : W p l e R s m args below meth c H locs cells slots Q (F0 m (pc + 3) ls (v.toList ++ rest))) : W p l e R s m args below meth c H locs cells slots Q (F0 m pc ls st0) := by
  intro T hT X
  obtain ⟨v', st₀, t, T', L, h0, X', hL, e1, e2, ⟨hv, hh⟩, st⟩ := hr T hT X
  cases hv
  cases L with
  | cons q L => exact absurd (hL q List.mem_cons_self) id
  | nil =>
    rw [List.append_nil] at X'
    obtain ⟨t2, a1, b1⟩ := kk T' (by rw [e1, hh, h0]) X'
    exact ⟨t2, st t2 a1, b1⟩
theorem cq_afterW {a : Array Value} {ps qs : List Nat} {wl1 : va_W} (hn : cq_new wl wl1 W1 ps qs) (hr : va_Run p l e R s m args below meth c H locs cells slots 0 0 (F0 m pc ls st0) rest (cq_W D v W0 W1 a) (cq_in W0))
    (hP : va_P D vwCl wl H) (hD : va_D A wl) (hS : va_S A H0 H locs) (hps : ps.map (fun i => wl[i]?) = W0.map some) (had : W1.map (·.1) = W0.map (·.1))
    (kk : ∀ (H1 : Heap) (locs1 : List Loc), va_P D vwCl wl1 H1 → va_D A wl1 → va_S A H0 H1 locs1 → W p l e R s m args below meth c H1 locs1 cells slots Q (F0 m (pc + 3) ls (v.toList ++ rest))) : W p l e R s m args below meth c H locs cells slots Q (F0 m pc ls st0) := by
  intro T hT X
  obtain ⟨v', st₀, t, T', L, h0, X', hL, e1, e2, ⟨hv, hp, hz, hk⟩, st⟩ := hr T hT X
  cases hv
  rw [h0] at hz hk
  have hsub := cq_sub_in hD hps
  obtain ⟨t2, a1, b1⟩ := kk T'.heap (locs ++ L) (cq_put_P hn hP hD hps had (fun q h1 h2 => by rw [e1]; exact hk q h1 h2) (by rw [e1]; exact hp)) (cq_put_D hn hD hps had)
    ⟨Nat.le_trans hS.1 (by rw [e1]; exact hz), fun q h1 h2 => by rw [e1, hk q (Nat.lt_of_lt_of_le h1 hS.1) (fun z => h2 (hsub q z))]; exact hS.2.1 q h1 h2, fun q hq => by
      rcases List.mem_append.mp hq with h | h
      · exact hS.2.2 q h
      · exact hsub _ (hL q h)⟩ T' rfl X'
  exact ⟨t2, st t2 a1, b1⟩
theorem cq_pre (hG : cq_G D Y s) (hP : va_P D vwCl wl H) (hD : va_D A wl) (ps : List Nat) (hps : ps.map (fun i => wl[i]?) = W0.map some) (hnd : va_nd ps = true) (av : List Value) :
    ∀ U : State, U.heap = H → s.WarmedH U.vm → cq_P D Y W0 av av.toArray U := fun U hU hW => ⟨rfl, by rw [hU]; exact cq_sub_P hP hps, hG.warm hW, (hD.sub ps hnd hps).weaken (fun _ _ _ _ => trivial)⟩
/-- a virtual call that writes nothing -/
theorem cq_RV (S : CallFix p m c cc nL s args Ts own) (hM : cq_MR l y ws rm D Y W0 (.ref b :: As) v) (cw : CallW R s args own C index y bytes maxL ret ws rm 0 0 n) (hG : cq_G D Y s) (hP : va_P D vwCl wl H) (hD : va_D A wl)
    (ps : List Nat) (hps : ps.map (fun i => wl[i]?) = W0.map some) (hnd : va_nd ps = true) (q0 ci : Nat) {fs : List Value} {qc : vw_C} (hc : vwCl[ci]? = some qc) (he : wl[q0]? = some (b, .inr (ci, fs))) (hC : qc.1 = C)
    (hn : As.length = n) (hls : ls.size = nL) (hst : st0 = As.reverse ++ .ref b :: rest) (hroom : (rest.map fun v => v.category).sum ≤ 8) (hdg : decode cc pc = .ok (.invokevirtual index, 3)) (hf : cells ≤ R.cells ∧ slots ≤ R.slots)
    (kk : W p l e R s m args below meth c H locs cells slots Q (F0 m (pc + 3) ls (v.toList ++ rest))) : W p l e R s m args below meth c H locs cells slots Q (F0 m pc ls st0) :=
  cq_afterR (va_runV S hM cw ⟨cq_P.blind, by rw [← hC]; exact va_recv hG.1 hP hc he, cq_pre hG hP hD ps hps hnd _⟩ rfl hn hls hst (lv_room hroom) hdg hf) kk
/-- a virtual call that writes its world -/
theorem cq_WV (wl1 : va_W) (qs : List Nat) (S : CallFix p m c cc nL s args Ts own) (hM : cq_MW l y ws rm D Y W0 (.ref b :: As) v W1) (cw : CallW R s args own C index y bytes maxL ret ws rm 0 0 n) (hG : cq_G D Y s) (hP : va_P D vwCl wl H) (hD : va_D A wl) (hS : va_S A H0 H locs)
    (ps : List Nat) (hps : ps.map (fun i => wl[i]?) = W0.map some) (hnd : va_nd ps = true) (hn1 : cq_new wl wl1 W1 ps qs) (hadr : ∃ ad : List Nat, W1.map (·.1) = ad ∧ W0.map (·.1) = ad) (q0 ci : Nat) {fs : List Value} {qc : vw_C} (hc : vwCl[ci]? = some qc) (he : wl[q0]? = some (b, .inr (ci, fs))) (hC : qc.1 = C)
    (hn : As.length = n) (hls : ls.size = nL) (hst : st0 = As.reverse ++ .ref b :: rest) (hroom : (rest.map fun v => v.category).sum ≤ 8) (hdg : decode cc pc = .ok (.invokevirtual index, 3)) (hf : cells ≤ R.cells ∧ slots ≤ R.slots)
    (kk : ∀ (H1 : Heap) (locs1 : List Loc), va_P D vwCl wl1 H1 → va_D A wl1 → va_S A H0 H1 locs1 → W p l e R s m args below meth c H1 locs1 cells slots Q (F0 m (pc + 3) ls (v.toList ++ rest))) : W p l e R s m args below meth c H locs cells slots Q (F0 m pc ls st0) :=
  cq_afterW hn1 (va_runV S hM cw ⟨cq_P.blind, by rw [← hC]; exact va_recv hG.1 hP hc he, cq_pre hG hP hD ps hps hnd _⟩ rfl hn hls hst (lv_room hroom) hdg hf) hP hD hS hps (hadr.elim fun _ h => h.1.trans h.2.symm) kk
/-- static ones -/
theorem cq_RS (S : CallFix p m c cc nL s args Ts own) (hM : cq_MR l y ws rm D Y W0 As v) (cw : CallB R s args own index y bytes maxL ret ws rm 0 0 n ∧ (Cond.static y).before args s = true) (hG : cq_G D Y s) (hP : va_P D vwCl wl H) (hD : va_D A wl)
    (ps : List Nat) (hps : ps.map (fun i => wl[i]?) = W0.map some) (hnd : va_nd ps = true)
    (hn : As.length = n) (hls : ls.size = nL) (hst : st0 = As.reverse ++ rest) (hroom : (rest.map fun v => v.category).sum ≤ 8) (hdg : decode cc pc = .ok (.invokestatic index, 3)) (hf : cells ≤ R.cells ∧ slots ≤ R.slots)
    (kk : W p l e R s m args below meth c H locs cells slots Q (F0 m (pc + 3) ls (v.toList ++ rest))) : W p l e R s m args below meth c H locs cells slots Q (F0 m pc ls st0) :=
  cq_afterR (va_runS S hM cw ⟨cq_P.blind, cq_pre hG hP hD ps hps hnd _⟩ rfl hn hls hst (lv_room hroom) hdg hf) kk
theorem cq_WS (wl1 : va_W) (qs : List Nat) (S : CallFix p m c cc nL s args Ts own) (hM : cq_MW l y ws rm D Y W0 As v W1) (cw : CallB R s args own index y bytes maxL ret ws rm 0 0 n ∧ (Cond.static y).before args s = true) (hG : cq_G D Y s) (hP : va_P D vwCl wl H) (hD : va_D A wl) (hS : va_S A H0 H locs)
    (ps : List Nat) (hps : ps.map (fun i => wl[i]?) = W0.map some) (hnd : va_nd ps = true) (hn1 : cq_new wl wl1 W1 ps qs) (hadr : ∃ ad : List Nat, W1.map (·.1) = ad ∧ W0.map (·.1) = ad)
    (hn : As.length = n) (hls : ls.size = nL) (hst : st0 = As.reverse ++ rest) (hroom : (rest.map fun v => v.category).sum ≤ 8) (hdg : decode cc pc = .ok (.invokestatic index, 3)) (hf : cells ≤ R.cells ∧ slots ≤ R.slots)
    (kk : ∀ (H1 : Heap) (locs1 : List Loc), va_P D vwCl wl1 H1 → va_D A wl1 → va_S A H0 H1 locs1 → W p l e R s m args below meth c H1 locs1 cells slots Q (F0 m (pc + 3) ls (v.toList ++ rest))) : W p l e R s m args below meth c H locs cells slots Q (F0 m pc ls st0) :=
  cq_afterW hn1 (va_runS S hM cw ⟨cq_P.blind, cq_pre hG hP hD ps hps hnd _⟩ rfl hn hls hst (lv_room hroom) hdg hf) hP hD hS hps (hadr.elim fun _ h => h.1.trans h.2.symm) kk
end CQC
/-- a body, from its entry -/
def cq_E (p : Program) (s : State) (m : MethodId) (meth : Method) (c : Code) (y : MethodName) (cc : ByteArray) (maxL : Nat) (ret : Option FieldType) (ws : List Cond) (av : List Value) : Prop :=
  p.tables.exec = Jvm.exec ∧ c.code = cc ∧ meth.sig.returnType = ret ∧ c.maxLocals = maxL ∧ (∀ w ∈ ws, w.before av.toArray s = true) ∧ s.vm.findClass y.cls = some m.cls ∧ meth.name = y.name ∧ meth.locks = false
theorem cq_body {l : Launch} {y : MethodName} {ws ws' : List Cond} {rm : Room} {D : va_G} {Y : cq_Y} {W0 : va_W} {av : List Value} {Qc : Array Value → State → Outcome → State → Prop} {mc ms : Nat} {free : Addr → Prop} {cc : ByteArray} {maxL : Nat} {ret : Option FieldType}
    (hy : plainName y.cls = true) (hw : ws = Cond.code y cc maxL ret :: ws') (hlv : (lg_sl av).length ≤ maxL)
    (body : ∀ p e s m below meth c, cq_E p s m meth c y cc maxL ret ws av → va_P D vwCl W0 s.heap → cq_G D Y s → va_D (cq_in W0) W0 → ∀ ls : Array Slot, lv_has ls maxL (lv_args 0 av) →
      W p l e rm s m av.toArray below meth c s.heap [] 0 0 (MQ below Qc av.toArray s mc ms free) (F0 m 0 ls [])) : Met l y ws rm (cq_P D Y W0 av) Qc mc ms free := by
  refine Met.ofW hy hw ?_
  intro p e s m args below meth c s₁ B hml hv
  obtain ⟨rfl, hP, hG, hD⟩ := hv
  rw [lg_entry_eq]
  exact body p e s m below meth c ⟨B.exec, B.bytes, B.returns, hml, atoms_spec (ws := ws) B.pre, findClass_of_methodNamed B.named, (name_of_methodNamed B.named B.method).1, B.notSynchronized⟩ hP hG (cq_self hD) _ (lv_entry av hlv)
section CQE
variable {p : Program} {l : Launch} {e : Env} {R : Room} {s : State} {m : MethodId} {args : Array Value} {below : List Frame} {meth : Method} {c : Code} {H : Heap} {locs : List Loc} {cells slots : Nat} {Q : State → Prop}
variable {cc : ByteArray} {pc : Nat} {ls : Array Slot} {D : va_G} {W0 W1 wl : va_W} {free : Addr → Prop}
theorem cq_rI {v : Option Value} {x : Int32} {ty : FieldType} (hx : p.tables.exec = Jvm.exec) (hb : c.code = cc) (hr : meth.sig.returnType = some ty) (hlocks : meth.locks = false) (hn : narrow ty (.int x) = .int x) (hv : v = some (.int x)) (hdg : decode cc pc = .ok (.ireturn, 1)) : W p l e R s m args below meth c s.heap [] 0 0 (MQ below (cq_R v) args s 0 0 free) (F0 m pc ls [.int x]) :=
  W.zret hx hb hr hn (fun t ht _ => ⟨by rw [hv], ht⟩) (fun _ h => by cases h) hdg hlocks
theorem cq_wI {v : Option Value} {x : Int32} {ty : FieldType} (hx : p.tables.exec = Jvm.exec) (hb : c.code = cc) (hr : meth.sig.returnType = some ty) (hlocks : meth.locks = false) (hn : narrow ty (.int x) = .int x) (hP : va_P D vwCl wl H) (hS : va_S (cq_in W0) s.heap H locs) (hv : v = some (.int x)) (hW : W1 = wl) (hdg : decode cc pc = .ok (.ireturn, 1)) : W p l e R s m args below meth c H locs 0 0 (MQ below (cq_W D v W0 W1) args s 0 0 (cq_in W0)) (F0 m pc ls [.int x]) :=
  W.zret hx hb hr hn (fun t ht _ => ⟨by rw [hv], by rw [ht, hW]; exact hP, hS.F ht⟩) hS.2.2 hdg hlocks
theorem cq_wV {v : Option Value} (hx : p.tables.exec = Jvm.exec) (hb : c.code = cc) (hr : meth.sig.returnType = none) (hlocks : meth.locks = false) (hP : va_P D vwCl wl H) (hS : va_S (cq_in W0) s.heap H locs) (hv : v = none) (hW : W1 = wl) (hdg : decode cc pc = .ok (.return_, 1)) : W p l e R s m args below meth c H locs 0 0 (MQ below (cq_W D v W0 W1) args s 0 0 (cq_in W0)) (F0 m pc ls []) :=
  W.vret hx hb hr (fun t ht _ => ⟨by rw [hv], by rw [ht, hW]; exact hP, hS.F ht⟩) hS.2.2 hdg hlocks
end CQE
end
section
/-- what the models are made of -/
def jmax (x y : Int32) : Int32 := if x < y then y else x
theorem cq_z {x : Int32} {N k : Nat} (hx : x = nI N) (h : N ≤ k) (hk : k < 2147483648) : x ≤ nI k := by rw [hx]; exact nI_le h (by omega)
theorem cq_s {x : Int32} {N k : Nat} (hx : x = nI N) (h : k < N) (hN : N < 2147483648) : ¬ x ≤ nI k := by rw [hx]; exact nI_ge h (by omega)
theorem cq_vin {i : Int32} {n : Nat} (hn : n < 2147483648) (h1 : ¬ i < 0) (h2 : ¬ nI n ≤ i) : vp_in i n := by
  obtain ⟨j, hj, rfl⟩ := nI_of h1
  refine vp_in_nI ?_ (by omega)
  rcases Nat.lt_or_ge j n with h | h
  · exact h
  · exact absurd (nI_le h hj) h2
abbrev FI : Type := Nat → Int32
abbrev cl_row (Y : cq_Y) (h b n : Nat) (f : FI) : va_W := [(h, .inr (4, [.ref b])), (b, .inl (Y.1, n, .inl f))]
abbrev cl_grd (Y : cq_Y) (h b : Nat) (r c : Int32) (n : Nat) (f : FI) : va_W := [(h, .inr (1, [.int r, .int c, .ref b])), (b, .inl (Y.1, n, .inl f))]
abbrev cl_arr (Y : cq_Y) (b n : Nat) (f : FI) : va_W := [(b, .inl (Y.1, n, .inl f))]
abbrev cl_out (Y : cq_Y) (b : Nat) (f : Nat → Int64) : va_W := [(b, .inl (Y.2.2, 1, .inr (.inl f)))]
abbrev cl_ldr (h b1 b2 b3 b4 b5 : Nat) : va_W := [(h, .inr (6, [.ref b1, .ref b2, .ref b3, .ref b4, .ref b5]))]
abbrev CatS : Type := FI × FI × FI × FI × FI × FI × FI
abbrev cl_cat (Y : cq_Y) (a : Nat → Nat) (c : CatS) : va_W := [(a 0, .inr (0, [.ref (a 1), .ref (a 3), .ref (a 5), .ref (a 7), .ref (a 9), .ref (a 11), .ref (a 13)])), (a 1, .inr (4, [.ref (a 2)])), (a 2, .inl (Y.1, 80, .inl c.1)), (a 3, .inr (1, [.int 80, .int 3, .ref (a 4)])), (a 4, .inl (Y.1, 240, .inl c.2.1)), (a 5, .inr (1, [.int 80, .int 4, .ref (a 6)])), (a 6, .inl (Y.1, 320, .inl c.2.2.1)), (a 7, .inr (1, [.int 80, .int 4, .ref (a 8)])), (a 8, .inl (Y.1, 320, .inl c.2.2.2.1)), (a 9, .inr (1, [.int 80, .int 4, .ref (a 10)])), (a 10, .inl (Y.1, 320, .inl c.2.2.2.2.1)), (a 11, .inr (4, [.ref (a 12)])), (a 12, .inl (Y.1, 80, .inl c.2.2.2.2.2.1)), (a 13, .inr (4, [.ref (a 14)])), (a 14, .inl (Y.1, 80, .inl c.2.2.2.2.2.2))]
abbrev SetS : Type := FI × FI × FI
abbrev cl_set (Y : cq_Y) (a : Nat → Nat) (c : SetS) : va_W := [(a 0, .inr (5, [.ref (a 1), .ref (a 3), .ref (a 5)])), (a 1, .inr (4, [.ref (a 2)])), (a 2, .inl (Y.1, 5, .inl c.1)), (a 3, .inr (4, [.ref (a 4)])), (a 4, .inl (Y.1, 4, .inl c.2.1)), (a 5, .inr (4, [.ref (a 6)])), (a 6, .inl (Y.1, 3, .inl c.2.2))]
abbrev LodS : Type := FI × FI × FI × FI × FI × Int32 × Int32
abbrev cl_lod (Y : cq_Y) (a : Nat → Nat) (c : LodS) : va_W := [(a 0, .inr (3, [.ref (a 1), .ref (a 3), .ref (a 5), .ref (a 7), .ref (a 9), .int c.2.2.2.2.2.1, .int c.2.2.2.2.2.2])), (a 1, .inr (1, [.int 81, .int 3, .ref (a 2)])), (a 2, .inl (Y.1, 243, .inl c.1)), (a 3, .inr (1, [.int 81, .int 4, .ref (a 4)])), (a 4, .inl (Y.1, 324, .inl c.2.1)), (a 5, .inr (4, [.ref (a 6)])), (a 6, .inl (Y.1, 80, .inl c.2.2.1)), (a 7, .inr (4, [.ref (a 8)])), (a 8, .inl (Y.1, 80, .inl c.2.2.2.1)), (a 9, .inr (4, [.ref (a 10)])), (a 10, .inl (Y.1, 10, .inl c.2.2.2.2.1))]
abbrev HisS : Type := FI × FI × FI × FI × Int32 × Int32
abbrev cl_his (Y : cq_Y) (a : Nat → Nat) (c : HisS) : va_W := [(a 0, .inr (2, [.ref (a 1), .ref (a 3), .ref (a 5), .ref (a 7), .int c.2.2.2.2.1, .int c.2.2.2.2.2])), (a 1, .inr (4, [.ref (a 2)])), (a 2, .inl (Y.1, 180, .inl c.1)), (a 3, .inr (4, [.ref (a 4)])), (a 4, .inl (Y.1, 180, .inl c.2.1)), (a 5, .inr (4, [.ref (a 6)])), (a 6, .inl (Y.1, 180, .inl c.2.2.1)), (a 7, .inr (4, [.ref (a 8)])), (a 8, .inl (Y.1, 180, .inl c.2.2.2.1))]
abbrev MdlS : Type := FI × FI × FI × FI × FI × Int32 × FI × Int32 × FI × FI × FI × FI × FI × Int32 × Int32 × FI × FI × FI × FI × FI × FI × FI × FI × FI × Int32
abbrev cl_mdl (Y : cq_Y) (a : Nat → Nat) (c : MdlS) : va_W := [(a 0, .inr (7, [.ref (a 1), .ref (a 2), .ref (a 3), .ref (a 4), .ref (a 5), .int c.2.2.2.2.2.1, .ref (a 6), .int c.2.2.2.2.2.2.2.1, .ref (a 7), .ref (a 8), .ref (a 9), .ref (a 10), .ref (a 11), .int c.2.2.2.2.2.2.2.2.2.2.2.2.2.1, .int c.2.2.2.2.2.2.2.2.2.2.2.2.2.2.1, .ref (a 12), .ref (a 13), .ref (a 14), .ref (a 15), .ref (a 16), .ref (a 17), .ref (a 18), .ref (a 19), .ref (a 20), .int c.2.2.2.2.2.2.2.2.2.2.2.2.2.2.2.2.2.2.2.2.2.2.2.2])), (a 1, .inl (Y.1, 5, .inl c.1)), (a 2, .inl (Y.1, 4, .inl c.2.1)), (a 3, .inl (Y.1, 3, .inl c.2.2.1)), (a 4, .inl (Y.1, 3, .inl c.2.2.2.1)), (a 5, .inl (Y.1, 4, .inl c.2.2.2.2.1)), (a 6, .inl (Y.2.1, 10, .inl c.2.2.2.2.2.2.1)), (a 7, .inl (Y.1, 80, .inl c.2.2.2.2.2.2.2.2.1)), (a 8, .inl (Y.1, 80, .inl c.2.2.2.2.2.2.2.2.2.1)), (a 9, .inl (Y.1, 240, .inl c.2.2.2.2.2.2.2.2.2.2.1)), (a 10, .inl (Y.1, 320, .inl c.2.2.2.2.2.2.2.2.2.2.2.1)), (a 11, .inl (Y.1, 80, .inl c.2.2.2.2.2.2.2.2.2.2.2.2.1)), (a 12, .inl (Y.1, 180, .inl c.2.2.2.2.2.2.2.2.2.2.2.2.2.2.2.1)), (a 13, .inl (Y.1, 180, .inl c.2.2.2.2.2.2.2.2.2.2.2.2.2.2.2.2.1)), (a 14, .inl (Y.1, 180, .inl c.2.2.2.2.2.2.2.2.2.2.2.2.2.2.2.2.2.1)), (a 15, .inl (Y.2.1, 80, .inl c.2.2.2.2.2.2.2.2.2.2.2.2.2.2.2.2.2.2.1)), (a 16, .inl (Y.1, 240, .inl c.2.2.2.2.2.2.2.2.2.2.2.2.2.2.2.2.2.2.2.1)), (a 17, .inl (Y.1, 320, .inl c.2.2.2.2.2.2.2.2.2.2.2.2.2.2.2.2.2.2.2.2.1)), (a 18, .inl (Y.1, 320, .inl c.2.2.2.2.2.2.2.2.2.2.2.2.2.2.2.2.2.2.2.2.2.1)), (a 19, .inl (Y.2.1, 320, .inl c.2.2.2.2.2.2.2.2.2.2.2.2.2.2.2.2.2.2.2.2.2.2.1)), (a 20, .inl (Y.1, 80, .inl c.2.2.2.2.2.2.2.2.2.2.2.2.2.2.2.2.2.2.2.2.2.2.2.1))]

def m_J7_fill_53178_lp5 (n : Nat) (f : FI) (v : Int32) : Nat → Nat → FI → FI
  | 0, k5, s0_5 => s0_5
  | n5 + 1, k5, s0_5 => m_J7_fill_53178_lp5 n f v n5 (k5 + 1) (upd s0_5 (nI k5).toNatClampNeg v)
def m_J7_fill_53178 (n : Nat) (f : FI) (v : Int32) : FI := (let fin_1 := m_J7_fill_53178_lp5 n f v n 0 f; fin_1)
set_option maxHeartbeats 4000000 in
set_option maxRecDepth 100000 in
theorem ct_J7_fill_53178 (l : Launch) (D : va_G) (Y : cq_Y) (b n : Nat) (f : FI) (v : Int32) (hn : n < 2147483648) : cq_MW l yJ7_fill_53178 wsJ7_fill_53178 (cq_rm 0 0) D Y (cl_arr Y b n f) [.ref b, .int v] (none) (cl_arr Y b n (m_J7_fill_53178 n f v)) := by
  refine cq_body (cc := cJ7_fill_53178) (maxL := 4) (ret := none) (by decide) rfl (Nat.le_of_ble_eq_true rfl) ?_
  intro p e s m below meth c hE hP hG hD ls hl
  obtain ⟨hx, hb, hr, hml, hts, hown, hnm, hlocks⟩ := hE
  have hown : s.vm.findClass RJ7 = some m.cls := hown
  have hS : va_S (cq_in (cl_arr Y b n f)) s.heap s.heap [] := va_S.rf
  have hl : lv_has ls 4 [(0, .ref b), (1, .int v)] := hl
  refine lv_iconst (v := 0) hx hb dJ7_fill_53178_0 (by decide) ?_
  refine lv_istore_n (lv' := [(2, .int 0), (0, .ref b), (1, .int v)]) hx hb dJ7_fill_53178_1 rfl hl (by decide) rfl (fun ls hl => ?_)
  refine lv_aload_n hx hb dJ7_fill_53178_2 rfl (lv_at hl 1 rfl) ?_
  refine va_alen (v := nI n) hx hb hG.1 hP 0 0 rfl (ty := .int) rfl rfl dJ7_fill_53178_3 ?_
  refine lv_istore_n (lv' := [(3, .int (nI n)), (2, .int 0), (0, .ref b), (1, .int v)]) hx hb dJ7_fill_53178_4 rfl hl (by decide) rfl (fun ls hl => ?_)
  obtain ⟨fin_1, efin_1⟩ : ∃ z, z = m_J7_fill_53178_lp5 n f v n 0 f := ⟨_, rfl⟩
  have lp5 : ∀ (n5 k5 : Nat) (s0_5 : FI) (H : Heap) (locs : List Loc) (ls : Array Slot), k5 + n5 = n → m_J7_fill_53178_lp5 n f v n5 k5 s0_5 = fin_1 → va_P D vwCl (cl_arr Y b n s0_5) H → va_D (cq_in (cl_arr Y b n f)) (cl_arr Y b n s0_5) → va_S (cq_in (cl_arr Y b n f)) s.heap H locs → lv_has ls 4 [(3, .int (nI n)), (2, .int (nI k5)), (0, .ref b), (1, .int v)] → W p l e (cq_rm 0 0) s m ([.ref b, .int v] : List Value).toArray below meth c H locs 0 0 (MQ below (cq_W D (none) (cl_arr Y b n f) (cl_arr Y b n (m_J7_fill_53178 n f v))) ([.ref b, .int v] : List Value).toArray s 0 0 (cq_in (cl_arr Y b n f))) (F0 m 5 ls []) := by
    intro n5; induction n5 with
    | zero =>
      intro k5 s0_5 H locs ls hkn hres5 hP hD hS hl
      have hz : nI n ≤ nI k5 := cq_z (N := n) rfl (by omega) (by omega)
      have e9 : fin_1 = s0_5 := hres5.symm
      subst e9
      refine lv_iload_n hx hb dJ7_fill_53178_5 rfl (lv_at hl 1 rfl) ?_
      refine lv_iload_n hx hb dJ7_fill_53178_6 rfl (lv_at hl 0 rfl) ?_
      refine lv_icmp_ge (tgt := 20) hx hb dJ7_fill_53178_7 (by decide) (fun c_2 => ?_) (fun c_2 => ?_)
      · exact cq_wV (wl := cl_arr Y b n fin_1) hx hb hr hlocks hP hS rfl (by subst efin_1; simp only [m_J7_fill_53178, ↓reduceIte, if_true, if_false]) dJ7_fill_53178_20
      · exact absurd hz c_2
    | succ n5 ih5 =>
      intro k5 s0_5 H locs ls hkn hres5 hP hD hS hl
      have hz : ¬ (nI n ≤ nI k5) := cq_s (N := n) rfl (by omega) (by omega)
      refine lv_iload_n hx hb dJ7_fill_53178_5 rfl (lv_at hl 1 rfl) ?_
      refine lv_iload_n hx hb dJ7_fill_53178_6 rfl (lv_at hl 0 rfl) ?_
      refine lv_icmp_ge (tgt := 20) hx hb dJ7_fill_53178_7 (by decide) (fun c_3 => ?_) (fun c_3 => ?_)
      · exact absurd c_3 hz
      · refine lv_aload_n hx hb dJ7_fill_53178_10 rfl (lv_at hl 2 rfl) ?_
        refine lv_iload_n hx hb dJ7_fill_53178_11 rfl (lv_at hl 1 rfl) ?_
        refine lv_iload_n hx hb dJ7_fill_53178_12 rfl (lv_at hl 3 rfl) ?_
        refine va_iast hx hb hG.1 hP hD hS 0 0 rfl rfl (vp_in_nI (by omega) hn) dJ7_fill_53178_13 (fun H locs hP hD hS => ?_)
        have hP : va_P D vwCl (cl_arr Y b n (upd s0_5 (nI k5).toNatClampNeg v)) H := hP
        have hD : va_D (cq_in (cl_arr Y b n f)) (cl_arr Y b n (upd s0_5 (nI k5).toNatClampNeg v)) := hD
        refine lv_iinc (v := nI (k5 + 1)) (lv' := [(2, .int (nI (k5 + 1))), (3, .int (nI n)), (0, .ref b), (1, .int v)]) hx hb dJ7_fill_53178_14 hl (k := 1) rfl (nI_1 k5) (by decide) rfl (fun ls hl => ?_)
        refine lv_goto (tgt := 5) hx hb dJ7_fill_53178_17 (by decide) ?_
        exact ih5 (k5 + 1) (upd s0_5 (nI k5).toNatClampNeg v) _ _ _ (by omega) (Eq.trans (by simp only [m_J7_fill_53178_lp5, ↓reduceIte, if_true, if_false]) hres5) hP hD hS (lv_sub hl [1, 0, 2, 3] rfl)
  exact lp5 n 0 f _ _ _ (Nat.zero_add _) efin_1.symm hP hD hS (lv_sub hl [0, 1, 2, 3] rfl)

def m_X4_get (n : Nat) (f : FI) (i : Int32) : Int32 := (if i < 0 then (-1) else (if nI n ≤ i then (-1) else f i.toNatClampNeg))
set_option maxHeartbeats 4000000 in
set_option maxRecDepth 100000 in
theorem ct_X4_get (l : Launch) (D : va_G) (Y : cq_Y) (h b n : Nat) (f : FI) (i : Int32) (hn : n < 2147483648) : cq_MR l yX4_get wsX4_get (cq_rm 0 0) D Y (cl_row Y h b n f) [.ref h, .int i] (some (.int (m_X4_get n f i))) := by
  refine cq_body (cc := cX4_get) (maxL := 2) (ret := (some .int)) (by decide) rfl (Nat.le_of_ble_eq_true rfl) ?_
  intro p e s m below meth c hE hP hG hD ls hl
  obtain ⟨hx, hb, hr, hml, hts, hown, hnm, hlocks⟩ := hE
  have hown : s.vm.findClass RX4 = some m.cls := hown
  have hl : lv_has ls 2 [(0, .ref h), (1, .int i)] := hl
  refine lv_iload_n hx hb dX4_get_0 rfl (lv_at hl 1 rfl) ?_
  refine lv_if_lt (tgt := 22) hx hb dX4_get_1 (by decide) (fun c_1 => ?_) (fun c_1 => ?_)
  · refine lv_iconst (v := (-1)) hx hb dX4_get_22 (by decide) ?_
    exact cq_rI hx hb hr hlocks (vp_nar_int _) (by simp only [m_X4_get, eq_true c_1, ↓reduceIte, if_true, if_false]) dX4_get_23
  · refine lv_iload_n hx hb dX4_get_4 rfl (lv_at hl 1 rfl) ?_
    refine lv_aload_n hx hb dX4_get_5 rfl (lv_at hl 0 rfl) ?_
    refine va_get (D := D) (ci := 4) (v := .ref b) (C := RX4) (T := TX4) (N := 1) hx hb hts (fun _ h => List.mem_cons_of_mem _ (List.mem_append_right _ h)) hown hG.1 hP 0 rfl rfl 0 (by decide) (hts (.fieldLink RX4 15 "CatalogueLoader$Row" "cells" "[I") (List.mem_of_getElem? (i := 1) rfl)) (fun _ h9 => h9) rfl dX4_get_6 ?_
    refine va_alen (v := nI n) hx hb hG.1 hP 1 0 rfl (ty := .int) rfl rfl dX4_get_9 ?_
    refine lv_icmp_ge (tgt := 22) hx hb dX4_get_10 (by decide) (fun c_2 => ?_) (fun c_2 => ?_)
    · refine lv_iconst (v := (-1)) hx hb dX4_get_22 (by decide) ?_
      exact cq_rI hx hb hr hlocks (vp_nar_int _) (by simp only [m_X4_get, eq_false c_1, eq_true c_2, ↓reduceIte, if_true, if_false]) dX4_get_23
    · refine lv_aload_n hx hb dX4_get_13 rfl (lv_at hl 0 rfl) ?_
      refine va_get (D := D) (ci := 4) (v := .ref b) (C := RX4) (T := TX4) (N := 1) hx hb hts (fun _ h => List.mem_cons_of_mem _ (List.mem_append_right _ h)) hown hG.1 hP 0 rfl rfl 0 (by decide) (hts (.fieldLink RX4 15 "CatalogueLoader$Row" "cells" "[I") (List.mem_of_getElem? (i := 1) rfl)) (fun _ h9 => h9) rfl dX4_get_14 ?_
      refine lv_iload_n hx hb dX4_get_17 rfl (lv_at hl 1 rfl) ?_
      refine va_iald hx hb hG.1 hP 1 0 rfl rfl (cq_vin (by first | decide | assumption | omega) c_1 c_2) dX4_get_18 ?_
      refine lv_goto (tgt := 23) hx hb dX4_get_19 (by decide) ?_
      exact cq_rI hx hb hr hlocks (vp_nar_int _) (by simp only [m_X4_get, eq_false c_1, eq_false c_2, ↓reduceIte, if_true, if_false]) dX4_get_23

def m_X4_set (n : Nat) (f : FI) (i : Int32) (v : Int32) : FI := (if i < 0 then f else (if nI n ≤ i then f else upd f i.toNatClampNeg v))
set_option maxHeartbeats 4000000 in
set_option maxRecDepth 100000 in
theorem ct_X4_set (l : Launch) (D : va_G) (Y : cq_Y) (h b n : Nat) (f : FI) (i : Int32) (v : Int32) (hn : n < 2147483648) : cq_MW l yX4_set wsX4_set (cq_rm 0 0) D Y (cl_row Y h b n f) [.ref h, .int i, .int v] (none) (cl_row Y h b n (m_X4_set n f i v)) := by
  refine cq_body (cc := cX4_set) (maxL := 3) (ret := none) (by decide) rfl (Nat.le_of_ble_eq_true rfl) ?_
  intro p e s m below meth c hE hP hG hD ls hl
  obtain ⟨hx, hb, hr, hml, hts, hown, hnm, hlocks⟩ := hE
  have hown : s.vm.findClass RX4 = some m.cls := hown
  have hS : va_S (cq_in (cl_row Y h b n f)) s.heap s.heap [] := va_S.rf
  have hl : lv_has ls 3 [(0, .ref h), (1, .int i), (2, .int v)] := hl
  refine lv_iload_n hx hb dX4_set_0 rfl (lv_at hl 1 rfl) ?_
  refine lv_if_lt (tgt := 20) hx hb dX4_set_1 (by decide) (fun c_1 => ?_) (fun c_1 => ?_)
  · exact cq_wV (wl := cl_row Y h b n f) hx hb hr hlocks hP hS rfl (by simp only [m_X4_set, eq_true c_1, ↓reduceIte, if_true, if_false]) dX4_set_20
  · refine lv_iload_n hx hb dX4_set_4 rfl (lv_at hl 1 rfl) ?_
    refine lv_aload_n hx hb dX4_set_5 rfl (lv_at hl 0 rfl) ?_
    refine va_get (D := D) (ci := 4) (v := .ref b) (C := RX4) (T := TX4) (N := 1) hx hb hts (fun _ h => List.mem_cons_of_mem _ (List.mem_append_right _ h)) hown hG.1 hP 0 rfl rfl 0 (by decide) (hts (.fieldLink RX4 15 "CatalogueLoader$Row" "cells" "[I") (List.mem_of_getElem? (i := 1) rfl)) (fun _ h9 => h9) rfl dX4_set_6 ?_
    refine va_alen (v := nI n) hx hb hG.1 hP 1 0 rfl (ty := .int) rfl rfl dX4_set_9 ?_
    refine lv_icmp_ge (tgt := 20) hx hb dX4_set_10 (by decide) (fun c_2 => ?_) (fun c_2 => ?_)
    · exact cq_wV (wl := cl_row Y h b n f) hx hb hr hlocks hP hS rfl (by simp only [m_X4_set, eq_false c_1, eq_true c_2, ↓reduceIte, if_true, if_false]) dX4_set_20
    · refine lv_aload_n hx hb dX4_set_13 rfl (lv_at hl 0 rfl) ?_
      refine va_get (D := D) (ci := 4) (v := .ref b) (C := RX4) (T := TX4) (N := 1) hx hb hts (fun _ h => List.mem_cons_of_mem _ (List.mem_append_right _ h)) hown hG.1 hP 0 rfl rfl 0 (by decide) (hts (.fieldLink RX4 15 "CatalogueLoader$Row" "cells" "[I") (List.mem_of_getElem? (i := 1) rfl)) (fun _ h9 => h9) rfl dX4_set_14 ?_
      refine lv_iload_n hx hb dX4_set_17 rfl (lv_at hl 1 rfl) ?_
      refine lv_iload_n hx hb dX4_set_18 rfl (lv_at hl 2 rfl) ?_
      refine va_iast hx hb hG.1 hP hD hS 1 0 rfl rfl (cq_vin (by first | decide | assumption | omega) c_1 c_2) dX4_set_19 (fun H locs hP hD hS => ?_)
      have hP : va_P D vwCl (cl_row Y h b n (upd f i.toNatClampNeg v)) H := hP
      have hD : va_D (cq_in (cl_row Y h b n f)) (cl_row Y h b n (upd f i.toNatClampNeg v)) := hD
      exact cq_wV (wl := cl_row Y h b n (upd f i.toNatClampNeg v)) hx hb hr hlocks hP hS rfl (by simp only [m_X4_set, eq_false c_1, eq_false c_2, ↓reduceIte, if_true, if_false]) dX4_set_20

def m_X4_fill (n : Nat) (f : FI) (v : Int32) : FI := m_J7_fill_53178 n f v
set_option maxHeartbeats 4000000 in
set_option maxRecDepth 100000 in
theorem ct_X4_fill (l : Launch) (D : va_G) (Y : cq_Y) (h b n : Nat) (f : FI) (v : Int32) (hn : n < 2147483648) : cq_MW l yX4_fill wsX4_fill (cq_rm 1 23) D Y (cl_row Y h b n f) [.ref h, .int v] (none) (cl_row Y h b n (m_X4_fill n f v)) := by
  refine cq_body (cc := cX4_fill) (maxL := 2) (ret := none) (by decide) rfl (Nat.le_of_ble_eq_true rfl) ?_
  intro p e s m below meth c hE hP hG hD ls hl
  obtain ⟨hx, hb, hr, hml, hts, hown, hnm, hlocks⟩ := hE
  have hown : s.vm.findClass RX4 = some m.cls := hown
  have hS : va_S (cq_in (cl_row Y h b n f)) s.heap s.heap [] := va_S.rf
  have hl : lv_has ls 2 [(0, .ref h), (1, .int v)] := hl
  refine lv_aload_n hx hb dX4_fill_0 rfl (lv_at hl 0 rfl) ?_
  refine va_get (D := D) (ci := 4) (v := .ref b) (C := RX4) (T := TX4) (N := 1) hx hb hts (fun _ h => List.mem_cons_of_mem _ (List.mem_append_right _ h)) hown hG.1 hP 0 rfl rfl 0 (by decide) (hts (.fieldLink RX4 15 "CatalogueLoader$Row" "cells" "[I") (List.mem_of_getElem? (i := 1) rfl)) (fun _ h9 => h9) rfl dX4_fill_1 ?_
  refine lv_iload_n hx hb dX4_fill_4 rfl (lv_at hl 1 rfl) ?_
  refine cq_WS (R := (cq_rm 1 23)) (args := ([.ref h, .int v] : List Value).toArray) (y := yJ7_fill_53178) (bytes := cJ7_fill_53178) (cc := cX4_fill) (maxL := 4) (nL := 2) (n := 2) (index := 21) (ret := none) (ws := wsJ7_fill_53178) (rm := cq_rm 0 0) (Ts := wsX4_fill) (own := RX4) (D := D) (Y := Y) (W0 := cl_arr Y b n f) (wl := cl_row Y h b n f) (v := none) (st0 := [.int v, .ref b]) (As := [.ref b, .int v]) (rest := []) (W1 := cl_arr Y b n (m_J7_fill_53178 n f v)) (cl_row Y h b n (m_J7_fill_53178 n f v)) [0] ⟨hx, hb, hml, hown, hts⟩ (ct_J7_fill_53178 l D Y b n f v hn) (va_cwS 2 hts gX4_fill_J7_fill_53178 rfl rfl rfl (by decide +kernel) ⟨Nat.le_of_ble_eq_true rfl, Nat.le_of_ble_eq_true rfl⟩) hG hP hD hS [1] rfl (by decide +kernel) ⟨rfl, ⟨[(h, .inr (4, [.ref b]))], rfl, rfl⟩, 2, rfl, by decide +kernel⟩ ⟨[b], rfl, rfl⟩ rfl hl.1 rfl (Nat.le_of_ble_eq_true rfl) dX4_fill_5 ⟨Nat.zero_le _, Nat.zero_le _⟩ (fun H locs hP hD hS => ?_)
  change W _ _ _ _ _ _ _ _ _ _ _ _ _ _ _ (F0 m 8 _ [])
  exact cq_wV (wl := cl_row Y h b n (m_J7_fill_53178 n f v)) hx hb hr hlocks hP hS rfl (by simp only [m_X4_fill, ↓reduceIte, if_true, if_false]) dX4_fill_8

def m_X1_get (gr : Int32) (gc : Int32) (n : Nat) (f : FI) (i : Int32) (j : Int32) : Int32 := (if i < 0 then (-1) else (if gr ≤ i then (-1) else (if j < 0 then (-1) else (if j < gc then (let x_5 := (i * gc) + j; (if x_5 < 0 then (-1) else (if nI n ≤ x_5 then (-1) else f x_5.toNatClampNeg))) else (-1)))))
set_option maxHeartbeats 4000000 in
set_option maxRecDepth 100000 in
theorem ct_X1_get (l : Launch) (D : va_G) (Y : cq_Y) (h b : Nat) (gr gc : Int32) (n : Nat) (f : FI) (i : Int32) (j : Int32) (hn : n < 2147483648) : cq_MR l yX1_get wsX1_get (cq_rm 0 0) D Y (cl_grd Y h b gr gc n f) [.ref h, .int i, .int j] (some (.int (m_X1_get gr gc n f i j))) := by
  refine cq_body (cc := cX1_get) (maxL := 4) (ret := (some .int)) (by decide) rfl (Nat.le_of_ble_eq_true rfl) ?_
  intro p e s m below meth c hE hP hG hD ls hl
  obtain ⟨hx, hb, hr, hml, hts, hown, hnm, hlocks⟩ := hE
  have hown : s.vm.findClass RX1 = some m.cls := hown
  have hl : lv_has ls 4 [(0, .ref h), (1, .int i), (2, .int j)] := hl
  refine lv_iload_n hx hb dX1_get_0 rfl (lv_at hl 1 rfl) ?_
  refine lv_if_lt (tgt := 24) hx hb dX1_get_1 (by decide) (fun c_1 => ?_) (fun c_1 => ?_)
  · refine lv_iconst (v := (-1)) hx hb dX1_get_24 (by decide) ?_
    exact cq_rI hx hb hr hlocks (vp_nar_int _) (by simp only [m_X1_get, eq_true c_1, ↓reduceIte, if_true, if_false]) dX1_get_25
  · refine lv_iload_n hx hb dX1_get_4 rfl (lv_at hl 1 rfl) ?_
    refine lv_aload_n hx hb dX1_get_5 rfl (lv_at hl 0 rfl) ?_
    refine va_get (D := D) (ci := 1) (v := .int gr) (C := RX1) (T := TX1) (N := 3) hx hb hts (fun _ h => List.mem_cons_of_mem _ (List.mem_append_right _ h)) hown hG.1 hP 0 rfl rfl 0 (by decide) (hts (.fieldLink RX1 9 "CatalogueLoader$Grid" "lines" "I") (List.mem_of_getElem? (i := 1) rfl)) (fun _ h9 => h9) rfl dX1_get_6 ?_
    refine lv_icmp_ge (tgt := 24) hx hb dX1_get_9 (by decide) (fun c_2 => ?_) (fun c_2 => ?_)
    · refine lv_iconst (v := (-1)) hx hb dX1_get_24 (by decide) ?_
      exact cq_rI hx hb hr hlocks (vp_nar_int _) (by simp only [m_X1_get, eq_false c_1, eq_true c_2, ↓reduceIte, if_true, if_false]) dX1_get_25
    · refine lv_iload_n hx hb dX1_get_12 rfl (lv_at hl 2 rfl) ?_
      refine lv_if_lt (tgt := 24) hx hb dX1_get_13 (by decide) (fun c_3 => ?_) (fun c_3 => ?_)
      · refine lv_iconst (v := (-1)) hx hb dX1_get_24 (by decide) ?_
        exact cq_rI hx hb hr hlocks (vp_nar_int _) (by simp only [m_X1_get, eq_false c_1, eq_false c_2, eq_true c_3, ↓reduceIte, if_true, if_false]) dX1_get_25
      · refine lv_iload_n hx hb dX1_get_16 rfl (lv_at hl 2 rfl) ?_
        refine lv_aload_n hx hb dX1_get_17 rfl (lv_at hl 0 rfl) ?_
        refine va_get (D := D) (ci := 1) (v := .int gc) (C := RX1) (T := TX1) (N := 3) hx hb hts (fun _ h => List.mem_cons_of_mem _ (List.mem_append_right _ h)) hown hG.1 hP 0 rfl rfl 1 (by decide) (hts (.fieldLink RX1 15 "CatalogueLoader$Grid" "columns" "I") (List.mem_of_getElem? (i := 2) rfl)) (fun _ h9 => h9) rfl dX1_get_18 ?_
        refine lv_icmp_lt (tgt := 26) hx hb dX1_get_21 (by decide) (fun c_4 => ?_) (fun c_4 => ?_)
        · refine lv_iload_n hx hb dX1_get_26 rfl (lv_at hl 1 rfl) ?_
          refine lv_aload_n hx hb dX1_get_27 rfl (lv_at hl 0 rfl) ?_
          refine va_get (D := D) (ci := 1) (v := .int gc) (C := RX1) (T := TX1) (N := 3) hx hb hts (fun _ h => List.mem_cons_of_mem _ (List.mem_append_right _ h)) hown hG.1 hP 0 rfl rfl 1 (by decide) (hts (.fieldLink RX1 15 "CatalogueLoader$Grid" "columns" "I") (List.mem_of_getElem? (i := 2) rfl)) (fun _ h9 => h9) rfl dX1_get_28 ?_
          refine lv_imul hx hb dX1_get_31 ?_
          refine lv_iload_n hx hb dX1_get_32 rfl (lv_at hl 2 rfl) ?_
          refine lv_iadd hx hb dX1_get_33 ?_
          refine lv_topi (fun x_5 ex_5 => ?_)
          refine lv_istore_n (lv' := [(3, .int x_5), (0, .ref h), (1, .int i), (2, .int j)]) hx hb dX1_get_34 rfl hl (by decide) rfl (fun ls hl => ?_)
          refine lv_iload_n hx hb dX1_get_35 rfl (lv_at hl 0 rfl) ?_
          refine lv_if_lt (tgt := 57) hx hb dX1_get_36 (by decide) (fun c_6 => ?_) (fun c_6 => ?_)
          · refine lv_iconst (v := (-1)) hx hb dX1_get_57 (by decide) ?_
            exact cq_rI hx hb hr hlocks (vp_nar_int _) (by subst ex_5; simp only [m_X1_get, eq_false c_1, eq_false c_2, eq_false c_3, eq_true c_4, eq_true c_6, ↓reduceIte, if_true, if_false]) dX1_get_58
          · refine lv_iload_n hx hb dX1_get_39 rfl (lv_at hl 0 rfl) ?_
            refine lv_aload_n hx hb dX1_get_40 rfl (lv_at hl 1 rfl) ?_
            refine va_get (D := D) (ci := 1) (v := .ref b) (C := RX1) (T := TX1) (N := 3) hx hb hts (fun _ h => List.mem_cons_of_mem _ (List.mem_append_right _ h)) hown hG.1 hP 0 rfl rfl 2 (by decide) (hts (.fieldLink RX1 24 "CatalogueLoader$Grid" "cells" "[I") (List.mem_of_getElem? (i := 3) rfl)) (fun _ h9 => h9) rfl dX1_get_41 ?_
            refine va_alen (v := nI n) hx hb hG.1 hP 1 0 rfl (ty := .int) rfl rfl dX1_get_44 ?_
            refine lv_icmp_ge (tgt := 57) hx hb dX1_get_45 (by decide) (fun c_7 => ?_) (fun c_7 => ?_)
            · refine lv_iconst (v := (-1)) hx hb dX1_get_57 (by decide) ?_
              exact cq_rI hx hb hr hlocks (vp_nar_int _) (by subst ex_5; simp only [m_X1_get, eq_false c_1, eq_false c_2, eq_false c_3, eq_true c_4, eq_false c_6, eq_true c_7, ↓reduceIte, if_true, if_false]) dX1_get_58
            · refine lv_aload_n hx hb dX1_get_48 rfl (lv_at hl 1 rfl) ?_
              refine va_get (D := D) (ci := 1) (v := .ref b) (C := RX1) (T := TX1) (N := 3) hx hb hts (fun _ h => List.mem_cons_of_mem _ (List.mem_append_right _ h)) hown hG.1 hP 0 rfl rfl 2 (by decide) (hts (.fieldLink RX1 24 "CatalogueLoader$Grid" "cells" "[I") (List.mem_of_getElem? (i := 3) rfl)) (fun _ h9 => h9) rfl dX1_get_49 ?_
              refine lv_iload_n hx hb dX1_get_52 rfl (lv_at hl 0 rfl) ?_
              refine va_iald hx hb hG.1 hP 1 0 rfl rfl (cq_vin (by first | decide | assumption | omega) c_6 c_7) dX1_get_53 ?_
              refine lv_goto (tgt := 58) hx hb dX1_get_54 (by decide) ?_
              exact cq_rI hx hb hr hlocks (vp_nar_int _) (by subst ex_5; simp only [m_X1_get, eq_false c_1, eq_false c_2, eq_false c_3, eq_true c_4, eq_false c_6, eq_false c_7, ↓reduceIte, if_true, if_false]) dX1_get_58
        · refine lv_iconst (v := (-1)) hx hb dX1_get_24 (by decide) ?_
          exact cq_rI hx hb hr hlocks (vp_nar_int _) (by simp only [m_X1_get, eq_false c_1, eq_false c_2, eq_false c_3, eq_false c_4, ↓reduceIte, if_true, if_false]) dX1_get_25

def m_X1_set (gr : Int32) (gc : Int32) (n : Nat) (f : FI) (i : Int32) (j : Int32) (v : Int32) : FI := (if i < 0 then f else (if gr ≤ i then f else (if j < 0 then f else (if j < gc then (let x_5 := (i * gc) + j; (if x_5 < 0 then f else (if nI n ≤ x_5 then f else upd f x_5.toNatClampNeg v))) else f))))
set_option maxHeartbeats 4000000 in
set_option maxRecDepth 100000 in
theorem ct_X1_set (l : Launch) (D : va_G) (Y : cq_Y) (h b : Nat) (gr gc : Int32) (n : Nat) (f : FI) (i : Int32) (j : Int32) (v : Int32) (hn : n < 2147483648) : cq_MW l yX1_set wsX1_set (cq_rm 0 0) D Y (cl_grd Y h b gr gc n f) [.ref h, .int i, .int j, .int v] (none) (cl_grd Y h b gr gc n (m_X1_set gr gc n f i j v)) := by
  refine cq_body (cc := cX1_set) (maxL := 5) (ret := none) (by decide) rfl (Nat.le_of_ble_eq_true rfl) ?_
  intro p e s m below meth c hE hP hG hD ls hl
  obtain ⟨hx, hb, hr, hml, hts, hown, hnm, hlocks⟩ := hE
  have hown : s.vm.findClass RX1 = some m.cls := hown
  have hS : va_S (cq_in (cl_grd Y h b gr gc n f)) s.heap s.heap [] := va_S.rf
  have hl : lv_has ls 5 [(0, .ref h), (1, .int i), (2, .int j), (3, .int v)] := hl
  refine lv_iload_n hx hb dX1_set_0 rfl (lv_at hl 1 rfl) ?_
  refine lv_if_lt (tgt := 24) hx hb dX1_set_1 (by decide) (fun c_1 => ?_) (fun c_1 => ?_)
  · exact cq_wV (wl := cl_grd Y h b gr gc n f) hx hb hr hlocks hP hS rfl (by simp only [m_X1_set, eq_true c_1, ↓reduceIte, if_true, if_false]) dX1_set_24
  · refine lv_iload_n hx hb dX1_set_4 rfl (lv_at hl 1 rfl) ?_
    refine lv_aload_n hx hb dX1_set_5 rfl (lv_at hl 0 rfl) ?_
    refine va_get (D := D) (ci := 1) (v := .int gr) (C := RX1) (T := TX1) (N := 3) hx hb hts (fun _ h => List.mem_cons_of_mem _ (List.mem_append_right _ h)) hown hG.1 hP 0 rfl rfl 0 (by decide) (hts (.fieldLink RX1 9 "CatalogueLoader$Grid" "lines" "I") (List.mem_of_getElem? (i := 1) rfl)) (fun _ h9 => h9) rfl dX1_set_6 ?_
    refine lv_icmp_ge (tgt := 24) hx hb dX1_set_9 (by decide) (fun c_2 => ?_) (fun c_2 => ?_)
    · exact cq_wV (wl := cl_grd Y h b gr gc n f) hx hb hr hlocks hP hS rfl (by simp only [m_X1_set, eq_false c_1, eq_true c_2, ↓reduceIte, if_true, if_false]) dX1_set_24
    · refine lv_iload_n hx hb dX1_set_12 rfl (lv_at hl 2 rfl) ?_
      refine lv_if_lt (tgt := 24) hx hb dX1_set_13 (by decide) (fun c_3 => ?_) (fun c_3 => ?_)
      · exact cq_wV (wl := cl_grd Y h b gr gc n f) hx hb hr hlocks hP hS rfl (by simp only [m_X1_set, eq_false c_1, eq_false c_2, eq_true c_3, ↓reduceIte, if_true, if_false]) dX1_set_24
      · refine lv_iload_n hx hb dX1_set_16 rfl (lv_at hl 2 rfl) ?_
        refine lv_aload_n hx hb dX1_set_17 rfl (lv_at hl 0 rfl) ?_
        refine va_get (D := D) (ci := 1) (v := .int gc) (C := RX1) (T := TX1) (N := 3) hx hb hts (fun _ h => List.mem_cons_of_mem _ (List.mem_append_right _ h)) hown hG.1 hP 0 rfl rfl 1 (by decide) (hts (.fieldLink RX1 15 "CatalogueLoader$Grid" "columns" "I") (List.mem_of_getElem? (i := 2) rfl)) (fun _ h9 => h9) rfl dX1_set_18 ?_
        refine lv_icmp_lt (tgt := 25) hx hb dX1_set_21 (by decide) (fun c_4 => ?_) (fun c_4 => ?_)
        · refine lv_iload_n hx hb dX1_set_25 rfl (lv_at hl 1 rfl) ?_
          refine lv_aload_n hx hb dX1_set_26 rfl (lv_at hl 0 rfl) ?_
          refine va_get (D := D) (ci := 1) (v := .int gc) (C := RX1) (T := TX1) (N := 3) hx hb hts (fun _ h => List.mem_cons_of_mem _ (List.mem_append_right _ h)) hown hG.1 hP 0 rfl rfl 1 (by decide) (hts (.fieldLink RX1 15 "CatalogueLoader$Grid" "columns" "I") (List.mem_of_getElem? (i := 2) rfl)) (fun _ h9 => h9) rfl dX1_set_27 ?_
          refine lv_imul hx hb dX1_set_30 ?_
          refine lv_iload_n hx hb dX1_set_31 rfl (lv_at hl 2 rfl) ?_
          refine lv_iadd hx hb dX1_set_32 ?_
          refine lv_topi (fun x_5 ex_5 => ?_)
          refine lv_istore (lv' := [(4, .int x_5), (0, .ref h), (1, .int i), (2, .int j), (3, .int v)]) hx hb dX1_set_33 hl (by decide) rfl (fun ls hl => ?_)
          refine lv_iload hx hb dX1_set_35 (lv_at hl 0 rfl) ?_
          refine lv_if_lt (tgt := 58) hx hb dX1_set_37 (by decide) (fun c_6 => ?_) (fun c_6 => ?_)
          · exact cq_wV (wl := cl_grd Y h b gr gc n f) hx hb hr hlocks hP hS rfl (by subst ex_5; simp only [m_X1_set, eq_false c_1, eq_false c_2, eq_false c_3, eq_true c_4, eq_true c_6, ↓reduceIte, if_true, if_false]) dX1_set_58
          · refine lv_iload hx hb dX1_set_40 (lv_at hl 0 rfl) ?_
            refine lv_aload_n hx hb dX1_set_42 rfl (lv_at hl 1 rfl) ?_
            refine va_get (D := D) (ci := 1) (v := .ref b) (C := RX1) (T := TX1) (N := 3) hx hb hts (fun _ h => List.mem_cons_of_mem _ (List.mem_append_right _ h)) hown hG.1 hP 0 rfl rfl 2 (by decide) (hts (.fieldLink RX1 24 "CatalogueLoader$Grid" "cells" "[I") (List.mem_of_getElem? (i := 3) rfl)) (fun _ h9 => h9) rfl dX1_set_43 ?_
            refine va_alen (v := nI n) hx hb hG.1 hP 1 0 rfl (ty := .int) rfl rfl dX1_set_46 ?_
            refine lv_icmp_ge (tgt := 58) hx hb dX1_set_47 (by decide) (fun c_7 => ?_) (fun c_7 => ?_)
            · exact cq_wV (wl := cl_grd Y h b gr gc n f) hx hb hr hlocks hP hS rfl (by subst ex_5; simp only [m_X1_set, eq_false c_1, eq_false c_2, eq_false c_3, eq_true c_4, eq_false c_6, eq_true c_7, ↓reduceIte, if_true, if_false]) dX1_set_58
            · refine lv_aload_n hx hb dX1_set_50 rfl (lv_at hl 1 rfl) ?_
              refine va_get (D := D) (ci := 1) (v := .ref b) (C := RX1) (T := TX1) (N := 3) hx hb hts (fun _ h => List.mem_cons_of_mem _ (List.mem_append_right _ h)) hown hG.1 hP 0 rfl rfl 2 (by decide) (hts (.fieldLink RX1 24 "CatalogueLoader$Grid" "cells" "[I") (List.mem_of_getElem? (i := 3) rfl)) (fun _ h9 => h9) rfl dX1_set_51 ?_
              refine lv_iload hx hb dX1_set_54 (lv_at hl 0 rfl) ?_
              refine lv_iload_n hx hb dX1_set_56 rfl (lv_at hl 4 rfl) ?_
              refine va_iast hx hb hG.1 hP hD hS 1 0 rfl rfl (cq_vin (by first | decide | assumption | omega) c_6 c_7) dX1_set_57 (fun H locs hP hD hS => ?_)
              have hP : va_P D vwCl (cl_grd Y h b gr gc n (upd f x_5.toNatClampNeg v)) H := hP
              have hD : va_D (cq_in (cl_grd Y h b gr gc n f)) (cl_grd Y h b gr gc n (upd f x_5.toNatClampNeg v)) := hD
              exact cq_wV (wl := cl_grd Y h b gr gc n (upd f x_5.toNatClampNeg v)) hx hb hr hlocks hP hS rfl (by subst ex_5; simp only [m_X1_set, eq_false c_1, eq_false c_2, eq_false c_3, eq_true c_4, eq_false c_6, eq_false c_7, ↓reduceIte, if_true, if_false]) dX1_set_58
        · exact cq_wV (wl := cl_grd Y h b gr gc n f) hx hb hr hlocks hP hS rfl (by simp only [m_X1_set, eq_false c_1, eq_false c_2, eq_false c_3, eq_false c_4, ↓reduceIte, if_true, if_false]) dX1_set_24

def m_X1_fill (gr : Int32) (gc : Int32) (n : Nat) (f : FI) (v : Int32) : FI := m_J7_fill_53178 n f v
set_option maxHeartbeats 4000000 in
set_option maxRecDepth 100000 in
theorem ct_X1_fill (l : Launch) (D : va_G) (Y : cq_Y) (h b : Nat) (gr gc : Int32) (n : Nat) (f : FI) (v : Int32) (hn : n < 2147483648) : cq_MW l yX1_fill wsX1_fill (cq_rm 1 23) D Y (cl_grd Y h b gr gc n f) [.ref h, .int v] (none) (cl_grd Y h b gr gc n (m_X1_fill gr gc n f v)) := by
  refine cq_body (cc := cX1_fill) (maxL := 2) (ret := none) (by decide) rfl (Nat.le_of_ble_eq_true rfl) ?_
  intro p e s m below meth c hE hP hG hD ls hl
  obtain ⟨hx, hb, hr, hml, hts, hown, hnm, hlocks⟩ := hE
  have hown : s.vm.findClass RX1 = some m.cls := hown
  have hS : va_S (cq_in (cl_grd Y h b gr gc n f)) s.heap s.heap [] := va_S.rf
  have hl : lv_has ls 2 [(0, .ref h), (1, .int v)] := hl
  refine lv_aload_n hx hb dX1_fill_0 rfl (lv_at hl 0 rfl) ?_
  refine va_get (D := D) (ci := 1) (v := .ref b) (C := RX1) (T := TX1) (N := 3) hx hb hts (fun _ h => List.mem_cons_of_mem _ (List.mem_append_right _ h)) hown hG.1 hP 0 rfl rfl 2 (by decide) (hts (.fieldLink RX1 24 "CatalogueLoader$Grid" "cells" "[I") (List.mem_of_getElem? (i := 1) rfl)) (fun _ h9 => h9) rfl dX1_fill_1 ?_
  refine lv_iload_n hx hb dX1_fill_4 rfl (lv_at hl 1 rfl) ?_
  refine cq_WS (R := (cq_rm 1 23)) (args := ([.ref h, .int v] : List Value).toArray) (y := yJ7_fill_53178) (bytes := cJ7_fill_53178) (cc := cX1_fill) (maxL := 4) (nL := 2) (n := 2) (index := 28) (ret := none) (ws := wsJ7_fill_53178) (rm := cq_rm 0 0) (Ts := wsX1_fill) (own := RX1) (D := D) (Y := Y) (W0 := cl_arr Y b n f) (wl := cl_grd Y h b gr gc n f) (v := none) (st0 := [.int v, .ref b]) (As := [.ref b, .int v]) (rest := []) (W1 := cl_arr Y b n (m_J7_fill_53178 n f v)) (cl_grd Y h b gr gc n (m_J7_fill_53178 n f v)) [0] ⟨hx, hb, hml, hown, hts⟩ (ct_J7_fill_53178 l D Y b n f v hn) (va_cwS 2 hts gX1_fill_J7_fill_53178 rfl rfl rfl (by decide +kernel) ⟨Nat.le_of_ble_eq_true rfl, Nat.le_of_ble_eq_true rfl⟩) hG hP hD hS [1] rfl (by decide +kernel) ⟨rfl, ⟨[(h, .inr (1, [.int gr, .int gc, .ref b]))], rfl, rfl⟩, 2, rfl, by decide +kernel⟩ ⟨[b], rfl, rfl⟩ rfl hl.1 rfl (Nat.le_of_ble_eq_true rfl) dX1_fill_5 ⟨Nat.zero_le _, Nat.zero_le _⟩ (fun H locs hP hD hS => ?_)
  change W _ _ _ _ _ _ _ _ _ _ _ _ _ _ _ (F0 m 8 _ [])
  exact cq_wV (wl := cl_grd Y h b gr gc n (m_J7_fill_53178 n f v)) hx hb hr hlocks hP hS rfl (by simp only [m_X1_fill, ↓reduceIte, if_true, if_false]) dX1_fill_8
end
section

def m_X2_acts (hi : HisS) : Int32 := hi.2.2.2.2.1 - hi.2.2.2.2.2
set_option maxHeartbeats 4000000 in
set_option maxRecDepth 100000 in
theorem ct_X2_acts (l : Launch) (D : va_G) (Y : cq_Y) (ahi : Nat → Nat) (hi : HisS) : cq_MR l yX2_acts wsX2_acts (cq_rm 0 0) D Y (cl_his Y ahi hi) [.ref (ahi 0)] (some (.int (m_X2_acts hi))) := by
  refine cq_body (cc := cX2_acts) (maxL := 1) (ret := (some .int)) (by decide) rfl (Nat.le_of_ble_eq_true rfl) ?_
  intro p e s m below meth c hE hP hG hD ls hl
  obtain ⟨hx, hb, hr, hml, hts, hown, hnm, hlocks⟩ := hE
  have hown : s.vm.findClass RX2 = some m.cls := hown
  have hl : lv_has ls 1 [(0, .ref (ahi 0))] := hl
  refine lv_aload_n hx hb dX2_acts_0 rfl (lv_at hl 0 rfl) ?_
  refine va_get (D := D) (ci := 2) (v := .int hi.2.2.2.2.1) (C := RX2) (T := TX2) (N := 6) hx hb hts (fun _ h => List.mem_cons_of_mem _ (List.mem_append_right _ h)) hown hG.1 hP 0 rfl rfl 4 (by decide) (hts (.fieldLink RX2 29 "CatalogueLoader$History" "count" "I") (List.mem_of_getElem? (i := 1) rfl)) (fun _ h9 => h9) rfl dX2_acts_1 ?_
  refine lv_aload_n hx hb dX2_acts_4 rfl (lv_at hl 0 rfl) ?_
  refine va_get (D := D) (ci := 2) (v := .int hi.2.2.2.2.2) (C := RX2) (T := TX2) (N := 6) hx hb hts (fun _ h => List.mem_cons_of_mem _ (List.mem_append_right _ h)) hown hG.1 hP 0 rfl rfl 5 (by decide) (hts (.fieldLink RX2 33 "CatalogueLoader$History" "loadCount" "I") (List.mem_of_getElem? (i := 2) rfl)) (fun _ h9 => h9) rfl dX2_acts_5 ?_
  refine lv_isub hx hb dX2_acts_8 ?_
  exact cq_rI hx hb hr hlocks (vp_nar_int _) (by simp only [m_X2_acts, ↓reduceIte, if_true, if_false]) dX2_acts_9

def m_X2_append (hi : HisS) (kind : Int32) (one : Int32) (two : Int32) (three : Int32) : HisS := (if kind = 0 then (m_X4_set 180 hi.1 hi.2.2.2.2.1 kind, m_X4_set 180 hi.2.1 hi.2.2.2.2.1 one, m_X4_set 180 hi.2.2.1 hi.2.2.2.2.1 two, m_X4_set 180 hi.2.2.2.1 hi.2.2.2.2.1 three, hi.2.2.2.2.1 + 1, hi.2.2.2.2.2 + 1) else (m_X4_set 180 hi.1 hi.2.2.2.2.1 kind, m_X4_set 180 hi.2.1 hi.2.2.2.2.1 one, m_X4_set 180 hi.2.2.1 hi.2.2.2.2.1 two, m_X4_set 180 hi.2.2.2.1 hi.2.2.2.2.1 three, hi.2.2.2.2.1 + 1, hi.2.2.2.2.2))
set_option maxHeartbeats 4000000 in
set_option maxRecDepth 100000 in
theorem ct_X2_append (l : Launch) (D : va_G) (Y : cq_Y) (ahi : Nat → Nat) (hi : HisS) (kind : Int32) (one : Int32) (two : Int32) (three : Int32) : cq_MW l yX2_append wsX2_append (cq_rm 1 22) D Y (cl_his Y ahi hi) [.ref (ahi 0), .int kind, .int one, .int two, .int three] (none) (cl_his Y ahi (m_X2_append hi kind one two three)) := by
  refine cq_body (cc := cX2_append) (maxL := 5) (ret := none) (by decide) rfl (Nat.le_of_ble_eq_true rfl) ?_
  intro p e s m below meth c hE hP hG hD ls hl
  obtain ⟨hx, hb, hr, hml, hts, hown, hnm, hlocks⟩ := hE
  have hown : s.vm.findClass RX2 = some m.cls := hown
  have hS : va_S (cq_in (cl_his Y ahi hi)) s.heap s.heap [] := va_S.rf
  have hl : lv_has ls 5 [(0, .ref (ahi 0)), (1, .int kind), (2, .int one), (3, .int two), (4, .int three)] := hl
  refine lv_aload_n hx hb dX2_append_0 rfl (lv_at hl 0 rfl) ?_
  refine va_get (D := D) (ci := 2) (v := .ref (ahi 1)) (C := RX2) (T := TX2) (N := 6) hx hb hts (fun _ h => List.mem_cons_of_mem _ (List.mem_append_left _ (List.mem_append_right _ h))) hown hG.1 hP 0 rfl rfl 0 (by decide) (hts (.fieldLink RX2 14 "CatalogueLoader$History" "kinds" "LCatalogueLoader$Row;") (List.mem_of_getElem? (i := 1) rfl)) (fun _ h9 => h9) rfl dX2_append_1 ?_
  refine lv_aload_n hx hb dX2_append_4 rfl (lv_at hl 0 rfl) ?_
  refine va_get (D := D) (ci := 2) (v := .int hi.2.2.2.2.1) (C := RX2) (T := TX2) (N := 6) hx hb hts (fun _ h => List.mem_cons_of_mem _ (List.mem_append_left _ (List.mem_append_right _ h))) hown hG.1 hP 0 rfl rfl 4 (by decide) (hts (.fieldLink RX2 29 "CatalogueLoader$History" "count" "I") (List.mem_of_getElem? (i := 2) rfl)) (fun _ h9 => h9) rfl dX2_append_5 ?_
  refine lv_iload_n hx hb dX2_append_8 rfl (lv_at hl 1 rfl) ?_
  refine cq_WV (R := (cq_rm 1 22)) (args := ([.ref (ahi 0), .int kind, .int one, .int two, .int three] : List Value).toArray) (y := yX4_set) (bytes := cX4_set) (cc := cX2_append) (maxL := 3) (nL := 5) (n := 2) (index := 36) (ret := none) (ws := wsX4_set) (rm := cq_rm 0 0) (Ts := wsX2_append) (own := RX2) (D := D) (Y := Y) (W0 := cl_row Y (ahi 1) (ahi 2) 180 hi.1) (wl := cl_his Y ahi hi) (v := none) (st0 := [.int kind, .int hi.2.2.2.2.1, .ref (ahi 1)]) (As := [.int hi.2.2.2.2.1, .int kind]) (rest := []) (W1 := cl_row Y (ahi 1) (ahi 2) 180 (m_X4_set 180 hi.1 hi.2.2.2.2.1 kind)) (C := RX4) (b := ahi 1) (cl_his Y ahi (m_X4_set 180 hi.1 hi.2.2.2.2.1 kind, hi.2.1, hi.2.2.1, hi.2.2.2.1, hi.2.2.2.2.1, hi.2.2.2.2.2)) [0, 3, 4, 5, 6, 7, 8] ⟨hx, hb, hml, hown, hts⟩ (ct_X4_set l D Y (ahi 1) (ahi 2) 180 hi.1 hi.2.2.2.2.1 kind (by decide)) (cwV 2 hts gX2_append_X4_set rfl rfl rfl (by decide +kernel) ⟨Nat.le_of_ble_eq_true rfl, Nat.le_of_ble_eq_true rfl⟩) hG hP hD hS [1, 2] rfl (by decide +kernel) ⟨rfl, ⟨[(ahi 0, .inr (2, [.ref (ahi 1), .ref (ahi 3), .ref (ahi 5), .ref (ahi 7), .int hi.2.2.2.2.1, .int hi.2.2.2.2.2])), (ahi 3, .inr (4, [.ref (ahi 4)])), (ahi 4, .inl (Y.1, 180, .inl hi.2.1)), (ahi 5, .inr (4, [.ref (ahi 6)])), (ahi 6, .inl (Y.1, 180, .inl hi.2.2.1)), (ahi 7, .inr (4, [.ref (ahi 8)])), (ahi 8, .inl (Y.1, 180, .inl hi.2.2.2.1))], rfl, rfl⟩, 9, rfl, by decide +kernel⟩ ⟨[ahi 1, ahi 2], rfl, rfl⟩ 1 4 (qc := (RX4, TX4, 1)) (fs := [.ref (ahi 2)]) rfl rfl rfl rfl hl.1 rfl (Nat.le_of_ble_eq_true rfl) dX2_append_9 ⟨Nat.zero_le _, Nat.zero_le _⟩ (fun H locs hP hD hS => ?_)
  change W _ _ _ _ _ _ _ _ _ _ _ _ _ _ _ (F0 m 12 _ [])
  refine lv_aload_n hx hb dX2_append_12 rfl (lv_at hl 0 rfl) ?_
  refine va_get (D := D) (ci := 2) (v := .ref (ahi 3)) (C := RX2) (T := TX2) (N := 6) hx hb hts (fun _ h => List.mem_cons_of_mem _ (List.mem_append_left _ (List.mem_append_right _ h))) hown hG.1 hP 0 rfl rfl 1 (by decide) (hts (.fieldLink RX2 20 "CatalogueLoader$History" "first" "LCatalogueLoader$Row;") (List.mem_of_getElem? (i := 3) rfl)) (fun _ h9 => h9) rfl dX2_append_13 ?_
  refine lv_aload_n hx hb dX2_append_16 rfl (lv_at hl 0 rfl) ?_
  refine va_get (D := D) (ci := 2) (v := .int hi.2.2.2.2.1) (C := RX2) (T := TX2) (N := 6) hx hb hts (fun _ h => List.mem_cons_of_mem _ (List.mem_append_left _ (List.mem_append_right _ h))) hown hG.1 hP 0 rfl rfl 4 (by decide) (hts (.fieldLink RX2 29 "CatalogueLoader$History" "count" "I") (List.mem_of_getElem? (i := 2) rfl)) (fun _ h9 => h9) rfl dX2_append_17 ?_
  refine lv_iload_n hx hb dX2_append_20 rfl (lv_at hl 2 rfl) ?_
  refine cq_WV (R := (cq_rm 1 22)) (args := ([.ref (ahi 0), .int kind, .int one, .int two, .int three] : List Value).toArray) (y := yX4_set) (bytes := cX4_set) (cc := cX2_append) (maxL := 3) (nL := 5) (n := 2) (index := 36) (ret := none) (ws := wsX4_set) (rm := cq_rm 0 0) (Ts := wsX2_append) (own := RX2) (D := D) (Y := Y) (W0 := cl_row Y (ahi 3) (ahi 4) 180 hi.2.1) (wl := cl_his Y ahi (m_X4_set 180 hi.1 hi.2.2.2.2.1 kind, hi.2.1, hi.2.2.1, hi.2.2.2.1, hi.2.2.2.2.1, hi.2.2.2.2.2)) (v := none) (st0 := [.int one, .int hi.2.2.2.2.1, .ref (ahi 3)]) (As := [.int hi.2.2.2.2.1, .int one]) (rest := []) (W1 := cl_row Y (ahi 3) (ahi 4) 180 (m_X4_set 180 hi.2.1 hi.2.2.2.2.1 one)) (C := RX4) (b := ahi 3) (cl_his Y ahi (m_X4_set 180 hi.1 hi.2.2.2.2.1 kind, m_X4_set 180 hi.2.1 hi.2.2.2.2.1 one, hi.2.2.1, hi.2.2.2.1, hi.2.2.2.2.1, hi.2.2.2.2.2)) [0, 1, 2, 5, 6, 7, 8] ⟨hx, hb, hml, hown, hts⟩ (ct_X4_set l D Y (ahi 3) (ahi 4) 180 hi.2.1 hi.2.2.2.2.1 one (by decide)) (cwV 2 hts gX2_append_X4_set rfl rfl rfl (by decide +kernel) ⟨Nat.le_of_ble_eq_true rfl, Nat.le_of_ble_eq_true rfl⟩) hG hP hD hS [3, 4] rfl (by decide +kernel) ⟨rfl, ⟨[(ahi 0, .inr (2, [.ref (ahi 1), .ref (ahi 3), .ref (ahi 5), .ref (ahi 7), .int hi.2.2.2.2.1, .int hi.2.2.2.2.2])), (ahi 1, .inr (4, [.ref (ahi 2)])), (ahi 2, .inl (Y.1, 180, .inl (m_X4_set 180 hi.1 hi.2.2.2.2.1 kind))), (ahi 5, .inr (4, [.ref (ahi 6)])), (ahi 6, .inl (Y.1, 180, .inl hi.2.2.1)), (ahi 7, .inr (4, [.ref (ahi 8)])), (ahi 8, .inl (Y.1, 180, .inl hi.2.2.2.1))], rfl, rfl⟩, 9, rfl, by decide +kernel⟩ ⟨[ahi 3, ahi 4], rfl, rfl⟩ 3 4 (qc := (RX4, TX4, 1)) (fs := [.ref (ahi 4)]) rfl rfl rfl rfl hl.1 rfl (Nat.le_of_ble_eq_true rfl) dX2_append_21 ⟨Nat.zero_le _, Nat.zero_le _⟩ (fun H locs hP hD hS => ?_)
  change W _ _ _ _ _ _ _ _ _ _ _ _ _ _ _ (F0 m 24 _ [])
  refine lv_aload_n hx hb dX2_append_24 rfl (lv_at hl 0 rfl) ?_
  refine va_get (D := D) (ci := 2) (v := .ref (ahi 5)) (C := RX2) (T := TX2) (N := 6) hx hb hts (fun _ h => List.mem_cons_of_mem _ (List.mem_append_left _ (List.mem_append_right _ h))) hown hG.1 hP 0 rfl rfl 2 (by decide) (hts (.fieldLink RX2 23 "CatalogueLoader$History" "second" "LCatalogueLoader$Row;") (List.mem_of_getElem? (i := 4) rfl)) (fun _ h9 => h9) rfl dX2_append_25 ?_
  refine lv_aload_n hx hb dX2_append_28 rfl (lv_at hl 0 rfl) ?_
  refine va_get (D := D) (ci := 2) (v := .int hi.2.2.2.2.1) (C := RX2) (T := TX2) (N := 6) hx hb hts (fun _ h => List.mem_cons_of_mem _ (List.mem_append_left _ (List.mem_append_right _ h))) hown hG.1 hP 0 rfl rfl 4 (by decide) (hts (.fieldLink RX2 29 "CatalogueLoader$History" "count" "I") (List.mem_of_getElem? (i := 2) rfl)) (fun _ h9 => h9) rfl dX2_append_29 ?_
  refine lv_iload_n hx hb dX2_append_32 rfl (lv_at hl 3 rfl) ?_
  refine cq_WV (R := (cq_rm 1 22)) (args := ([.ref (ahi 0), .int kind, .int one, .int two, .int three] : List Value).toArray) (y := yX4_set) (bytes := cX4_set) (cc := cX2_append) (maxL := 3) (nL := 5) (n := 2) (index := 36) (ret := none) (ws := wsX4_set) (rm := cq_rm 0 0) (Ts := wsX2_append) (own := RX2) (D := D) (Y := Y) (W0 := cl_row Y (ahi 5) (ahi 6) 180 hi.2.2.1) (wl := cl_his Y ahi (m_X4_set 180 hi.1 hi.2.2.2.2.1 kind, m_X4_set 180 hi.2.1 hi.2.2.2.2.1 one, hi.2.2.1, hi.2.2.2.1, hi.2.2.2.2.1, hi.2.2.2.2.2)) (v := none) (st0 := [.int two, .int hi.2.2.2.2.1, .ref (ahi 5)]) (As := [.int hi.2.2.2.2.1, .int two]) (rest := []) (W1 := cl_row Y (ahi 5) (ahi 6) 180 (m_X4_set 180 hi.2.2.1 hi.2.2.2.2.1 two)) (C := RX4) (b := ahi 5) (cl_his Y ahi (m_X4_set 180 hi.1 hi.2.2.2.2.1 kind, m_X4_set 180 hi.2.1 hi.2.2.2.2.1 one, m_X4_set 180 hi.2.2.1 hi.2.2.2.2.1 two, hi.2.2.2.1, hi.2.2.2.2.1, hi.2.2.2.2.2)) [0, 1, 2, 3, 4, 7, 8] ⟨hx, hb, hml, hown, hts⟩ (ct_X4_set l D Y (ahi 5) (ahi 6) 180 hi.2.2.1 hi.2.2.2.2.1 two (by decide)) (cwV 2 hts gX2_append_X4_set rfl rfl rfl (by decide +kernel) ⟨Nat.le_of_ble_eq_true rfl, Nat.le_of_ble_eq_true rfl⟩) hG hP hD hS [5, 6] rfl (by decide +kernel) ⟨rfl, ⟨[(ahi 0, .inr (2, [.ref (ahi 1), .ref (ahi 3), .ref (ahi 5), .ref (ahi 7), .int hi.2.2.2.2.1, .int hi.2.2.2.2.2])), (ahi 1, .inr (4, [.ref (ahi 2)])), (ahi 2, .inl (Y.1, 180, .inl (m_X4_set 180 hi.1 hi.2.2.2.2.1 kind))), (ahi 3, .inr (4, [.ref (ahi 4)])), (ahi 4, .inl (Y.1, 180, .inl (m_X4_set 180 hi.2.1 hi.2.2.2.2.1 one))), (ahi 7, .inr (4, [.ref (ahi 8)])), (ahi 8, .inl (Y.1, 180, .inl hi.2.2.2.1))], rfl, rfl⟩, 9, rfl, by decide +kernel⟩ ⟨[ahi 5, ahi 6], rfl, rfl⟩ 5 4 (qc := (RX4, TX4, 1)) (fs := [.ref (ahi 6)]) rfl rfl rfl rfl hl.1 rfl (Nat.le_of_ble_eq_true rfl) dX2_append_33 ⟨Nat.zero_le _, Nat.zero_le _⟩ (fun H locs hP hD hS => ?_)
  change W _ _ _ _ _ _ _ _ _ _ _ _ _ _ _ (F0 m 36 _ [])
  refine lv_aload_n hx hb dX2_append_36 rfl (lv_at hl 0 rfl) ?_
  refine va_get (D := D) (ci := 2) (v := .ref (ahi 7)) (C := RX2) (T := TX2) (N := 6) hx hb hts (fun _ h => List.mem_cons_of_mem _ (List.mem_append_left _ (List.mem_append_right _ h))) hown hG.1 hP 0 rfl rfl 3 (by decide) (hts (.fieldLink RX2 26 "CatalogueLoader$History" "third" "LCatalogueLoader$Row;") (List.mem_of_getElem? (i := 5) rfl)) (fun _ h9 => h9) rfl dX2_append_37 ?_
  refine lv_aload_n hx hb dX2_append_40 rfl (lv_at hl 0 rfl) ?_
  refine va_get (D := D) (ci := 2) (v := .int hi.2.2.2.2.1) (C := RX2) (T := TX2) (N := 6) hx hb hts (fun _ h => List.mem_cons_of_mem _ (List.mem_append_left _ (List.mem_append_right _ h))) hown hG.1 hP 0 rfl rfl 4 (by decide) (hts (.fieldLink RX2 29 "CatalogueLoader$History" "count" "I") (List.mem_of_getElem? (i := 2) rfl)) (fun _ h9 => h9) rfl dX2_append_41 ?_
  refine lv_iload hx hb dX2_append_44 (lv_at hl 4 rfl) ?_
  refine cq_WV (R := (cq_rm 1 22)) (args := ([.ref (ahi 0), .int kind, .int one, .int two, .int three] : List Value).toArray) (y := yX4_set) (bytes := cX4_set) (cc := cX2_append) (maxL := 3) (nL := 5) (n := 2) (index := 36) (ret := none) (ws := wsX4_set) (rm := cq_rm 0 0) (Ts := wsX2_append) (own := RX2) (D := D) (Y := Y) (W0 := cl_row Y (ahi 7) (ahi 8) 180 hi.2.2.2.1) (wl := cl_his Y ahi (m_X4_set 180 hi.1 hi.2.2.2.2.1 kind, m_X4_set 180 hi.2.1 hi.2.2.2.2.1 one, m_X4_set 180 hi.2.2.1 hi.2.2.2.2.1 two, hi.2.2.2.1, hi.2.2.2.2.1, hi.2.2.2.2.2)) (v := none) (st0 := [.int three, .int hi.2.2.2.2.1, .ref (ahi 7)]) (As := [.int hi.2.2.2.2.1, .int three]) (rest := []) (W1 := cl_row Y (ahi 7) (ahi 8) 180 (m_X4_set 180 hi.2.2.2.1 hi.2.2.2.2.1 three)) (C := RX4) (b := ahi 7) (cl_his Y ahi (m_X4_set 180 hi.1 hi.2.2.2.2.1 kind, m_X4_set 180 hi.2.1 hi.2.2.2.2.1 one, m_X4_set 180 hi.2.2.1 hi.2.2.2.2.1 two, m_X4_set 180 hi.2.2.2.1 hi.2.2.2.2.1 three, hi.2.2.2.2.1, hi.2.2.2.2.2)) [0, 1, 2, 3, 4, 5, 6] ⟨hx, hb, hml, hown, hts⟩ (ct_X4_set l D Y (ahi 7) (ahi 8) 180 hi.2.2.2.1 hi.2.2.2.2.1 three (by decide)) (cwV 2 hts gX2_append_X4_set rfl rfl rfl (by decide +kernel) ⟨Nat.le_of_ble_eq_true rfl, Nat.le_of_ble_eq_true rfl⟩) hG hP hD hS [7, 8] rfl (by decide +kernel) ⟨rfl, ⟨[(ahi 0, .inr (2, [.ref (ahi 1), .ref (ahi 3), .ref (ahi 5), .ref (ahi 7), .int hi.2.2.2.2.1, .int hi.2.2.2.2.2])), (ahi 1, .inr (4, [.ref (ahi 2)])), (ahi 2, .inl (Y.1, 180, .inl (m_X4_set 180 hi.1 hi.2.2.2.2.1 kind))), (ahi 3, .inr (4, [.ref (ahi 4)])), (ahi 4, .inl (Y.1, 180, .inl (m_X4_set 180 hi.2.1 hi.2.2.2.2.1 one))), (ahi 5, .inr (4, [.ref (ahi 6)])), (ahi 6, .inl (Y.1, 180, .inl (m_X4_set 180 hi.2.2.1 hi.2.2.2.2.1 two)))], rfl, rfl⟩, 9, rfl, by decide +kernel⟩ ⟨[ahi 7, ahi 8], rfl, rfl⟩ 7 4 (qc := (RX4, TX4, 1)) (fs := [.ref (ahi 8)]) rfl rfl rfl rfl hl.1 rfl (Nat.le_of_ble_eq_true rfl) dX2_append_46 ⟨Nat.zero_le _, Nat.zero_le _⟩ (fun H locs hP hD hS => ?_)
  change W _ _ _ _ _ _ _ _ _ _ _ _ _ _ _ (F0 m 49 _ [])
  refine lv_aload_n hx hb dX2_append_49 rfl (lv_at hl 0 rfl) ?_
  refine lv_dup hx hb dX2_append_50 rfl ?_
  refine va_get (D := D) (ci := 2) (v := .int hi.2.2.2.2.1) (C := RX2) (T := TX2) (N := 6) hx hb hts (fun _ h => List.mem_cons_of_mem _ (List.mem_append_left _ (List.mem_append_right _ h))) hown hG.1 hP 0 rfl rfl 4 (by decide) (hts (.fieldLink RX2 29 "CatalogueLoader$History" "count" "I") (List.mem_of_getElem? (i := 2) rfl)) (fun _ h9 => h9) rfl dX2_append_51 ?_
  refine lv_iconst (v := 1) hx hb dX2_append_54 (by decide) ?_
  refine lv_iadd hx hb dX2_append_55 ?_
  refine va_put (D := D) (ci := 2) (v := .int (hi.2.2.2.2.1 + 1)) (ty := .int) (C := RX2) (T := TX2) (N := 6) hx hb hts (fun _ h => List.mem_cons_of_mem _ (List.mem_append_left _ (List.mem_append_right _ h))) tyX2 tyX2_ok nmX2 hown hG.1 hP hD hS 0 rfl rfl 4 (by decide) (hts (.fieldLink RX2 29 "CatalogueLoader$History" "count" "I") (List.mem_of_getElem? (i := 2) rfl)) (fun _ h9 => h9) rfl (by decide +kernel) rfl rfl (Nat.le_of_ble_eq_true rfl) dX2_append_56 (fun H locs hP hD hS => ?_)
  have hP : va_P D vwCl (cl_his Y ahi (m_X4_set 180 hi.1 hi.2.2.2.2.1 kind, m_X4_set 180 hi.2.1 hi.2.2.2.2.1 one, m_X4_set 180 hi.2.2.1 hi.2.2.2.2.1 two, m_X4_set 180 hi.2.2.2.1 hi.2.2.2.2.1 three, hi.2.2.2.2.1 + 1, hi.2.2.2.2.2)) H := hP
  have hD : va_D (cq_in (cl_his Y ahi hi)) (cl_his Y ahi (m_X4_set 180 hi.1 hi.2.2.2.2.1 kind, m_X4_set 180 hi.2.1 hi.2.2.2.2.1 one, m_X4_set 180 hi.2.2.1 hi.2.2.2.2.1 two, m_X4_set 180 hi.2.2.2.1 hi.2.2.2.2.1 three, hi.2.2.2.2.1 + 1, hi.2.2.2.2.2)) := hD
  refine lv_iload_n hx hb dX2_append_59 rfl (lv_at hl 1 rfl) ?_
  refine lv_if_ne (tgt := 73) hx hb dX2_append_60 (by decide) (fun c_1 => ?_) (fun c_1 => ?_)
  · exact cq_wV (wl := cl_his Y ahi (m_X4_set 180 hi.1 hi.2.2.2.2.1 kind, m_X4_set 180 hi.2.1 hi.2.2.2.2.1 one, m_X4_set 180 hi.2.2.1 hi.2.2.2.2.1 two, m_X4_set 180 hi.2.2.2.1 hi.2.2.2.2.1 three, hi.2.2.2.2.1 + 1, hi.2.2.2.2.2)) hx hb hr hlocks hP hS rfl (by simp only [m_X2_append, eq_false c_1, ↓reduceIte, if_true, if_false]) dX2_append_73
  · refine lv_aload_n hx hb dX2_append_63 rfl (lv_at hl 0 rfl) ?_
    refine lv_dup hx hb dX2_append_64 rfl ?_
    refine va_get (D := D) (ci := 2) (v := .int hi.2.2.2.2.2) (C := RX2) (T := TX2) (N := 6) hx hb hts (fun _ h => List.mem_cons_of_mem _ (List.mem_append_left _ (List.mem_append_right _ h))) hown hG.1 hP 0 rfl rfl 5 (by decide) (hts (.fieldLink RX2 33 "CatalogueLoader$History" "loadCount" "I") (List.mem_of_getElem? (i := 6) rfl)) (fun _ h9 => h9) rfl dX2_append_65 ?_
    refine lv_iconst (v := 1) hx hb dX2_append_68 (by decide) ?_
    refine lv_iadd hx hb dX2_append_69 ?_
    refine va_put (D := D) (ci := 2) (v := .int (hi.2.2.2.2.2 + 1)) (ty := .int) (C := RX2) (T := TX2) (N := 6) hx hb hts (fun _ h => List.mem_cons_of_mem _ (List.mem_append_left _ (List.mem_append_right _ h))) tyX2 tyX2_ok nmX2 hown hG.1 hP hD hS 0 rfl rfl 5 (by decide) (hts (.fieldLink RX2 33 "CatalogueLoader$History" "loadCount" "I") (List.mem_of_getElem? (i := 6) rfl)) (fun _ h9 => h9) rfl (by decide +kernel) rfl rfl (Nat.le_of_ble_eq_true rfl) dX2_append_70 (fun H locs hP hD hS => ?_)
    have hP : va_P D vwCl (cl_his Y ahi (m_X4_set 180 hi.1 hi.2.2.2.2.1 kind, m_X4_set 180 hi.2.1 hi.2.2.2.2.1 one, m_X4_set 180 hi.2.2.1 hi.2.2.2.2.1 two, m_X4_set 180 hi.2.2.2.1 hi.2.2.2.2.1 three, hi.2.2.2.2.1 + 1, hi.2.2.2.2.2 + 1)) H := hP
    have hD : va_D (cq_in (cl_his Y ahi hi)) (cl_his Y ahi (m_X4_set 180 hi.1 hi.2.2.2.2.1 kind, m_X4_set 180 hi.2.1 hi.2.2.2.2.1 one, m_X4_set 180 hi.2.2.1 hi.2.2.2.2.1 two, m_X4_set 180 hi.2.2.2.1 hi.2.2.2.2.1 three, hi.2.2.2.2.1 + 1, hi.2.2.2.2.2 + 1)) := hD
    exact cq_wV (wl := cl_his Y ahi (m_X4_set 180 hi.1 hi.2.2.2.2.1 kind, m_X4_set 180 hi.2.1 hi.2.2.2.2.1 one, m_X4_set 180 hi.2.2.1 hi.2.2.2.2.1 two, m_X4_set 180 hi.2.2.2.1 hi.2.2.2.2.1 three, hi.2.2.2.2.1 + 1, hi.2.2.2.2.2 + 1)) hx hb hr hlocks hP hS rfl (by simp only [m_X2_append, eq_true c_1, ↓reduceIte, if_true, if_false]) dX2_append_73

def m_X3_begin (ld : LodS) : LodS × Int32 := ((ld.1, ld.2.1, ld.2.2.1, ld.2.2.2.1, ld.2.2.2.2.1, ld.2.2.2.2.2.1, ld.2.2.2.2.2.2 + 1), ld.2.2.2.2.2.2)
set_option maxHeartbeats 4000000 in
set_option maxRecDepth 100000 in
theorem ct_X3_begin (l : Launch) (D : va_G) (Y : cq_Y) (ald : Nat → Nat) (ld : LodS) : cq_MW l yX3_begin wsX3_begin (cq_rm 0 0) D Y (cl_lod Y ald ld) [.ref (ald 0)] (some (.int (m_X3_begin ld).2)) (cl_lod Y ald ((m_X3_begin ld).1)) := by
  refine cq_body (cc := cX3_begin) (maxL := 2) (ret := (some .int)) (by decide) rfl (Nat.le_of_ble_eq_true rfl) ?_
  intro p e s m below meth c hE hP hG hD ls hl
  obtain ⟨hx, hb, hr, hml, hts, hown, hnm, hlocks⟩ := hE
  have hown : s.vm.findClass RX3 = some m.cls := hown
  have hS : va_S (cq_in (cl_lod Y ald ld)) s.heap s.heap [] := va_S.rf
  have hl : lv_has ls 2 [(0, .ref (ald 0))] := hl
  refine lv_aload_n hx hb dX3_begin_0 rfl (lv_at hl 0 rfl) ?_
  refine va_get (D := D) (ci := 3) (v := .int ld.2.2.2.2.2.2) (C := RX3) (T := TX3) (N := 7) hx hb hts (fun _ h => List.mem_cons_of_mem _ (List.mem_append_right _ h)) hown hG.1 hP 0 rfl rfl 6 (by decide) (hts (.fieldLink RX3 42 "CatalogueLoader$Loads" "batchCount" "I") (List.mem_of_getElem? (i := 1) rfl)) (fun _ h9 => h9) rfl dX3_begin_1 ?_
  refine lv_istore_n (lv' := [(1, .int ld.2.2.2.2.2.2), (0, .ref (ald 0))]) hx hb dX3_begin_4 rfl hl (by decide) rfl (fun ls hl => ?_)
  refine lv_aload_n hx hb dX3_begin_5 rfl (lv_at hl 1 rfl) ?_
  refine lv_dup hx hb dX3_begin_6 rfl ?_
  refine va_get (D := D) (ci := 3) (v := .int ld.2.2.2.2.2.2) (C := RX3) (T := TX3) (N := 7) hx hb hts (fun _ h => List.mem_cons_of_mem _ (List.mem_append_right _ h)) hown hG.1 hP 0 rfl rfl 6 (by decide) (hts (.fieldLink RX3 42 "CatalogueLoader$Loads" "batchCount" "I") (List.mem_of_getElem? (i := 1) rfl)) (fun _ h9 => h9) rfl dX3_begin_7 ?_
  refine lv_iconst (v := 1) hx hb dX3_begin_10 (by decide) ?_
  refine lv_iadd hx hb dX3_begin_11 ?_
  refine va_put (D := D) (ci := 3) (v := .int (ld.2.2.2.2.2.2 + 1)) (ty := .int) (C := RX3) (T := TX3) (N := 7) hx hb hts (fun _ h => List.mem_cons_of_mem _ (List.mem_append_right _ h)) tyX3 tyX3_ok nmX3 hown hG.1 hP hD hS 0 rfl rfl 6 (by decide) (hts (.fieldLink RX3 42 "CatalogueLoader$Loads" "batchCount" "I") (List.mem_of_getElem? (i := 1) rfl)) (fun _ h9 => h9) rfl (by decide +kernel) rfl rfl (Nat.le_of_ble_eq_true rfl) dX3_begin_12 (fun H locs hP hD hS => ?_)
  have hP : va_P D vwCl (cl_lod Y ald (ld.1, ld.2.1, ld.2.2.1, ld.2.2.2.1, ld.2.2.2.2.1, ld.2.2.2.2.2.1, ld.2.2.2.2.2.2 + 1)) H := hP
  have hD : va_D (cq_in (cl_lod Y ald ld)) (cl_lod Y ald (ld.1, ld.2.1, ld.2.2.1, ld.2.2.2.1, ld.2.2.2.2.1, ld.2.2.2.2.2.1, ld.2.2.2.2.2.2 + 1)) := hD
  refine lv_iload_n hx hb dX3_begin_15 rfl (lv_at hl 0 rfl) ?_
  exact cq_wI (wl := cl_lod Y ald (ld.1, ld.2.1, ld.2.2.1, ld.2.2.2.1, ld.2.2.2.2.1, ld.2.2.2.2.2.1, ld.2.2.2.2.2.2 + 1)) hx hb hr hlocks (vp_nar_int _) hP hS (by simp only [m_X3_begin, ↓reduceIte, if_true, if_false]) (by simp only [m_X3_begin, ↓reduceIte, if_true, if_false]) dX3_begin_16

def m_X3_close (ld : LodS) (source : Int32) : LodS × Int32 := ((ld.1, ld.2.1, m_X4_set 80 ld.2.2.1 ld.2.2.2.2.2.1 source, m_X4_set 80 ld.2.2.2.1 ld.2.2.2.2.2.1 (ld.2.2.2.2.2.2 - 1), ld.2.2.2.2.1, ld.2.2.2.2.2.1 + 1, ld.2.2.2.2.2.2), ld.2.2.2.2.2.1)
set_option maxHeartbeats 4000000 in
set_option maxRecDepth 100000 in
theorem ct_X3_close (l : Launch) (D : va_G) (Y : cq_Y) (ald : Nat → Nat) (ld : LodS) (source : Int32) : cq_MW l yX3_close wsX3_close (cq_rm 1 22) D Y (cl_lod Y ald ld) [.ref (ald 0), .int source] (some (.int (m_X3_close ld source).2)) (cl_lod Y ald ((m_X3_close ld source).1)) := by
  refine cq_body (cc := cX3_close) (maxL := 3) (ret := (some .int)) (by decide) rfl (Nat.le_of_ble_eq_true rfl) ?_
  intro p e s m below meth c hE hP hG hD ls hl
  obtain ⟨hx, hb, hr, hml, hts, hown, hnm, hlocks⟩ := hE
  have hown : s.vm.findClass RX3 = some m.cls := hown
  have hS : va_S (cq_in (cl_lod Y ald ld)) s.heap s.heap [] := va_S.rf
  have hl : lv_has ls 3 [(0, .ref (ald 0)), (1, .int source)] := hl
  refine lv_aload_n hx hb dX3_close_0 rfl (lv_at hl 0 rfl) ?_
  refine va_get (D := D) (ci := 3) (v := .int ld.2.2.2.2.2.1) (C := RX3) (T := TX3) (N := 7) hx hb hts (fun _ h => List.mem_cons_of_mem _ (List.mem_append_left _ (List.mem_append_right _ h))) hown hG.1 hP 0 rfl rfl 5 (by decide) (hts (.fieldLink RX3 38 "CatalogueLoader$Loads" "count" "I") (List.mem_of_getElem? (i := 1) rfl)) (fun _ h9 => h9) rfl dX3_close_1 ?_
  refine lv_istore_n (lv' := [(2, .int ld.2.2.2.2.2.1), (0, .ref (ald 0)), (1, .int source)]) hx hb dX3_close_4 rfl hl (by decide) rfl (fun ls hl => ?_)
  refine lv_aload_n hx hb dX3_close_5 rfl (lv_at hl 1 rfl) ?_
  refine va_get (D := D) (ci := 3) (v := .ref (ald 5)) (C := RX3) (T := TX3) (N := 7) hx hb hts (fun _ h => List.mem_cons_of_mem _ (List.mem_append_left _ (List.mem_append_right _ h))) hown hG.1 hP 0 rfl rfl 2 (by decide) (hts (.fieldLink RX3 28 "CatalogueLoader$Loads" "sources" "LCatalogueLoader$Row;") (List.mem_of_getElem? (i := 2) rfl)) (fun _ h9 => h9) rfl dX3_close_6 ?_
  refine lv_iload_n hx hb dX3_close_9 rfl (lv_at hl 0 rfl) ?_
  refine lv_iload_n hx hb dX3_close_10 rfl (lv_at hl 2 rfl) ?_
  refine cq_WV (R := (cq_rm 1 22)) (args := ([.ref (ald 0), .int source] : List Value).toArray) (y := yX4_set) (bytes := cX4_set) (cc := cX3_close) (maxL := 3) (nL := 3) (n := 2) (index := 45) (ret := none) (ws := wsX4_set) (rm := cq_rm 0 0) (Ts := wsX3_close) (own := RX3) (D := D) (Y := Y) (W0 := cl_row Y (ald 5) (ald 6) 80 ld.2.2.1) (wl := cl_lod Y ald ld) (v := none) (st0 := [.int source, .int ld.2.2.2.2.2.1, .ref (ald 5)]) (As := [.int ld.2.2.2.2.2.1, .int source]) (rest := []) (W1 := cl_row Y (ald 5) (ald 6) 80 (m_X4_set 80 ld.2.2.1 ld.2.2.2.2.2.1 source)) (C := RX4) (b := ald 5) (cl_lod Y ald (ld.1, ld.2.1, m_X4_set 80 ld.2.2.1 ld.2.2.2.2.2.1 source, ld.2.2.2.1, ld.2.2.2.2.1, ld.2.2.2.2.2.1, ld.2.2.2.2.2.2)) [0, 1, 2, 3, 4, 7, 8, 9, 10] ⟨hx, hb, hml, hown, hts⟩ (ct_X4_set l D Y (ald 5) (ald 6) 80 ld.2.2.1 ld.2.2.2.2.2.1 source (by decide)) (cwV 2 hts gX3_close_X4_set rfl rfl rfl (by decide +kernel) ⟨Nat.le_of_ble_eq_true rfl, Nat.le_of_ble_eq_true rfl⟩) hG hP hD hS [5, 6] rfl (by decide +kernel) ⟨rfl, ⟨[(ald 0, .inr (3, [.ref (ald 1), .ref (ald 3), .ref (ald 5), .ref (ald 7), .ref (ald 9), .int ld.2.2.2.2.2.1, .int ld.2.2.2.2.2.2])), (ald 1, .inr (1, [.int 81, .int 3, .ref (ald 2)])), (ald 2, .inl (Y.1, 243, .inl ld.1)), (ald 3, .inr (1, [.int 81, .int 4, .ref (ald 4)])), (ald 4, .inl (Y.1, 324, .inl ld.2.1)), (ald 7, .inr (4, [.ref (ald 8)])), (ald 8, .inl (Y.1, 80, .inl ld.2.2.2.1)), (ald 9, .inr (4, [.ref (ald 10)])), (ald 10, .inl (Y.1, 10, .inl ld.2.2.2.2.1))], rfl, rfl⟩, 11, rfl, by decide +kernel⟩ ⟨[ald 5, ald 6], rfl, rfl⟩ 5 4 (qc := (RX4, TX4, 1)) (fs := [.ref (ald 6)]) rfl rfl rfl rfl hl.1 rfl (Nat.le_of_ble_eq_true rfl) dX3_close_11 ⟨Nat.zero_le _, Nat.zero_le _⟩ (fun H locs hP hD hS => ?_)
  change W _ _ _ _ _ _ _ _ _ _ _ _ _ _ _ (F0 m 14 _ [])
  refine lv_aload_n hx hb dX3_close_14 rfl (lv_at hl 1 rfl) ?_
  refine va_get (D := D) (ci := 3) (v := .ref (ald 7)) (C := RX3) (T := TX3) (N := 7) hx hb hts (fun _ h => List.mem_cons_of_mem _ (List.mem_append_left _ (List.mem_append_right _ h))) hown hG.1 hP 0 rfl rfl 3 (by decide) (hts (.fieldLink RX3 32 "CatalogueLoader$Loads" "batches" "LCatalogueLoader$Row;") (List.mem_of_getElem? (i := 3) rfl)) (fun _ h9 => h9) rfl dX3_close_15 ?_
  refine lv_iload_n hx hb dX3_close_18 rfl (lv_at hl 0 rfl) ?_
  refine lv_aload_n hx hb dX3_close_19 rfl (lv_at hl 1 rfl) ?_
  refine va_get (D := D) (ci := 3) (v := .int ld.2.2.2.2.2.2) (C := RX3) (T := TX3) (N := 7) hx hb hts (fun _ h => List.mem_cons_of_mem _ (List.mem_append_left _ (List.mem_append_right _ h))) hown hG.1 hP 0 rfl rfl 6 (by decide) (hts (.fieldLink RX3 42 "CatalogueLoader$Loads" "batchCount" "I") (List.mem_of_getElem? (i := 4) rfl)) (fun _ h9 => h9) rfl dX3_close_20 ?_
  refine lv_iconst (v := 1) hx hb dX3_close_23 (by decide) ?_
  refine lv_isub hx hb dX3_close_24 ?_
  refine cq_WV (R := (cq_rm 1 22)) (args := ([.ref (ald 0), .int source] : List Value).toArray) (y := yX4_set) (bytes := cX4_set) (cc := cX3_close) (maxL := 3) (nL := 3) (n := 2) (index := 45) (ret := none) (ws := wsX4_set) (rm := cq_rm 0 0) (Ts := wsX3_close) (own := RX3) (D := D) (Y := Y) (W0 := cl_row Y (ald 7) (ald 8) 80 ld.2.2.2.1) (wl := cl_lod Y ald (ld.1, ld.2.1, m_X4_set 80 ld.2.2.1 ld.2.2.2.2.2.1 source, ld.2.2.2.1, ld.2.2.2.2.1, ld.2.2.2.2.2.1, ld.2.2.2.2.2.2)) (v := none) (st0 := [.int (ld.2.2.2.2.2.2 - 1), .int ld.2.2.2.2.2.1, .ref (ald 7)]) (As := [.int ld.2.2.2.2.2.1, .int (ld.2.2.2.2.2.2 - 1)]) (rest := []) (W1 := cl_row Y (ald 7) (ald 8) 80 (m_X4_set 80 ld.2.2.2.1 ld.2.2.2.2.2.1 (ld.2.2.2.2.2.2 - 1))) (C := RX4) (b := ald 7) (cl_lod Y ald (ld.1, ld.2.1, m_X4_set 80 ld.2.2.1 ld.2.2.2.2.2.1 source, m_X4_set 80 ld.2.2.2.1 ld.2.2.2.2.2.1 (ld.2.2.2.2.2.2 - 1), ld.2.2.2.2.1, ld.2.2.2.2.2.1, ld.2.2.2.2.2.2)) [0, 1, 2, 3, 4, 5, 6, 9, 10] ⟨hx, hb, hml, hown, hts⟩ (ct_X4_set l D Y (ald 7) (ald 8) 80 ld.2.2.2.1 ld.2.2.2.2.2.1 (ld.2.2.2.2.2.2 - 1) (by decide)) (cwV 2 hts gX3_close_X4_set rfl rfl rfl (by decide +kernel) ⟨Nat.le_of_ble_eq_true rfl, Nat.le_of_ble_eq_true rfl⟩) hG hP hD hS [7, 8] rfl (by decide +kernel) ⟨rfl, ⟨[(ald 0, .inr (3, [.ref (ald 1), .ref (ald 3), .ref (ald 5), .ref (ald 7), .ref (ald 9), .int ld.2.2.2.2.2.1, .int ld.2.2.2.2.2.2])), (ald 1, .inr (1, [.int 81, .int 3, .ref (ald 2)])), (ald 2, .inl (Y.1, 243, .inl ld.1)), (ald 3, .inr (1, [.int 81, .int 4, .ref (ald 4)])), (ald 4, .inl (Y.1, 324, .inl ld.2.1)), (ald 5, .inr (4, [.ref (ald 6)])), (ald 6, .inl (Y.1, 80, .inl (m_X4_set 80 ld.2.2.1 ld.2.2.2.2.2.1 source))), (ald 9, .inr (4, [.ref (ald 10)])), (ald 10, .inl (Y.1, 10, .inl ld.2.2.2.2.1))], rfl, rfl⟩, 11, rfl, by decide +kernel⟩ ⟨[ald 7, ald 8], rfl, rfl⟩ 7 4 (qc := (RX4, TX4, 1)) (fs := [.ref (ald 8)]) rfl rfl rfl rfl hl.1 rfl (Nat.le_of_ble_eq_true rfl) dX3_close_25 ⟨Nat.zero_le _, Nat.zero_le _⟩ (fun H locs hP hD hS => ?_)
  change W _ _ _ _ _ _ _ _ _ _ _ _ _ _ _ (F0 m 28 _ [])
  refine lv_aload_n hx hb dX3_close_28 rfl (lv_at hl 1 rfl) ?_
  refine lv_dup hx hb dX3_close_29 rfl ?_
  refine va_get (D := D) (ci := 3) (v := .int ld.2.2.2.2.2.1) (C := RX3) (T := TX3) (N := 7) hx hb hts (fun _ h => List.mem_cons_of_mem _ (List.mem_append_left _ (List.mem_append_right _ h))) hown hG.1 hP 0 rfl rfl 5 (by decide) (hts (.fieldLink RX3 38 "CatalogueLoader$Loads" "count" "I") (List.mem_of_getElem? (i := 1) rfl)) (fun _ h9 => h9) rfl dX3_close_30 ?_
  refine lv_iconst (v := 1) hx hb dX3_close_33 (by decide) ?_
  refine lv_iadd hx hb dX3_close_34 ?_
  refine va_put (D := D) (ci := 3) (v := .int (ld.2.2.2.2.2.1 + 1)) (ty := .int) (C := RX3) (T := TX3) (N := 7) hx hb hts (fun _ h => List.mem_cons_of_mem _ (List.mem_append_left _ (List.mem_append_right _ h))) tyX3 tyX3_ok nmX3 hown hG.1 hP hD hS 0 rfl rfl 5 (by decide) (hts (.fieldLink RX3 38 "CatalogueLoader$Loads" "count" "I") (List.mem_of_getElem? (i := 1) rfl)) (fun _ h9 => h9) rfl (by decide +kernel) rfl rfl (Nat.le_of_ble_eq_true rfl) dX3_close_35 (fun H locs hP hD hS => ?_)
  have hP : va_P D vwCl (cl_lod Y ald (ld.1, ld.2.1, m_X4_set 80 ld.2.2.1 ld.2.2.2.2.2.1 source, m_X4_set 80 ld.2.2.2.1 ld.2.2.2.2.2.1 (ld.2.2.2.2.2.2 - 1), ld.2.2.2.2.1, ld.2.2.2.2.2.1 + 1, ld.2.2.2.2.2.2)) H := hP
  have hD : va_D (cq_in (cl_lod Y ald ld)) (cl_lod Y ald (ld.1, ld.2.1, m_X4_set 80 ld.2.2.1 ld.2.2.2.2.2.1 source, m_X4_set 80 ld.2.2.2.1 ld.2.2.2.2.2.1 (ld.2.2.2.2.2.2 - 1), ld.2.2.2.2.1, ld.2.2.2.2.2.1 + 1, ld.2.2.2.2.2.2)) := hD
  refine lv_iload_n hx hb dX3_close_38 rfl (lv_at hl 0 rfl) ?_
  exact cq_wI (wl := cl_lod Y ald (ld.1, ld.2.1, m_X4_set 80 ld.2.2.1 ld.2.2.2.2.2.1 source, m_X4_set 80 ld.2.2.2.1 ld.2.2.2.2.2.1 (ld.2.2.2.2.2.2 - 1), ld.2.2.2.2.1, ld.2.2.2.2.2.1 + 1, ld.2.2.2.2.2.2)) hx hb hr hlocks (vp_nar_int _) hP hS (by simp only [m_X3_close, ↓reduceIte, if_true, if_false]) (by simp only [m_X3_close, ↓reduceIte, if_true, if_false]) dX3_close_39

def m_X3_isLeftOut (ld : LodS) (load : Int32) : Int32 := (if m_X4_get 10 ld.2.2.2.2.1 (m_X4_get 80 ld.2.2.2.1 load) = 1 then 1 else 0)
set_option maxHeartbeats 4000000 in
set_option maxRecDepth 100000 in
theorem ct_X3_isLeftOut (l : Launch) (D : va_G) (Y : cq_Y) (ald : Nat → Nat) (ld : LodS) (load : Int32) : cq_MR l yX3_isLeftOut wsX3_isLeftOut (cq_rm 1 21) D Y (cl_lod Y ald ld) [.ref (ald 0), .int load] (some (.int (m_X3_isLeftOut ld load))) := by
  refine cq_body (cc := cX3_isLeftOut) (maxL := 2) (ret := (some .boolean)) (by decide) rfl (Nat.le_of_ble_eq_true rfl) ?_
  intro p e s m below meth c hE hP hG hD ls hl
  obtain ⟨hx, hb, hr, hml, hts, hown, hnm, hlocks⟩ := hE
  have hown : s.vm.findClass RX3 = some m.cls := hown
  have hl : lv_has ls 2 [(0, .ref (ald 0)), (1, .int load)] := hl
  refine lv_aload_n hx hb dX3_isLeftOut_0 rfl (lv_at hl 0 rfl) ?_
  refine va_get (D := D) (ci := 3) (v := .ref (ald 9)) (C := RX3) (T := TX3) (N := 7) hx hb hts (fun _ h => List.mem_cons_of_mem _ (List.mem_append_left _ (List.mem_append_right _ h))) hown hG.1 hP 0 rfl rfl 4 (by decide) (hts (.fieldLink RX3 35 "CatalogueLoader$Loads" "undone" "LCatalogueLoader$Row;") (List.mem_of_getElem? (i := 1) rfl)) (fun _ h9 => h9) rfl dX3_isLeftOut_1 ?_
  refine lv_aload_n hx hb dX3_isLeftOut_4 rfl (lv_at hl 0 rfl) ?_
  refine va_get (D := D) (ci := 3) (v := .ref (ald 7)) (C := RX3) (T := TX3) (N := 7) hx hb hts (fun _ h => List.mem_cons_of_mem _ (List.mem_append_left _ (List.mem_append_right _ h))) hown hG.1 hP 0 rfl rfl 3 (by decide) (hts (.fieldLink RX3 32 "CatalogueLoader$Loads" "batches" "LCatalogueLoader$Row;") (List.mem_of_getElem? (i := 2) rfl)) (fun _ h9 => h9) rfl dX3_isLeftOut_5 ?_
  refine lv_iload_n hx hb dX3_isLeftOut_8 rfl (lv_at hl 1 rfl) ?_
  refine cq_RV (R := (cq_rm 1 21)) (args := ([.ref (ald 0), .int load] : List Value).toArray) (y := yX4_get) (bytes := cX4_get) (cc := cX3_isLeftOut) (maxL := 2) (nL := 2) (n := 1) (index := 48) (ret := (some .int)) (ws := wsX4_get) (rm := cq_rm 0 0) (Ts := wsX3_isLeftOut) (own := RX3) (D := D) (Y := Y) (W0 := cl_row Y (ald 7) (ald 8) 80 ld.2.2.2.1) (wl := cl_lod Y ald ld) (v := some (.int (m_X4_get 80 ld.2.2.2.1 load))) (st0 := [.int load, .ref (ald 7), .ref (ald 9)]) (As := [.int load]) (rest := [.ref (ald 9)]) (C := RX4) (b := ald 7) ⟨hx, hb, hml, hown, hts⟩ (ct_X4_get l D Y (ald 7) (ald 8) 80 ld.2.2.2.1 load (by decide)) (cwV 1 hts gX3_isLeftOut_X4_get rfl rfl rfl (by decide +kernel) ⟨Nat.le_of_ble_eq_true rfl, Nat.le_of_ble_eq_true rfl⟩) hG hP hD [7, 8] rfl (by decide +kernel) 7 4 (qc := (RX4, TX4, 1)) (fs := [.ref (ald 8)]) rfl rfl rfl rfl hl.1 rfl (Nat.le_of_ble_eq_true rfl) dX3_isLeftOut_9 ⟨Nat.zero_le _, Nat.zero_le _⟩ ?_
  change W _ _ _ _ _ _ _ _ _ _ _ _ _ _ _ (F0 m 12 _ (.int (m_X4_get 80 ld.2.2.2.1 load) :: [.ref (ald 9)]))
  refine cq_RV (R := (cq_rm 1 21)) (args := ([.ref (ald 0), .int load] : List Value).toArray) (y := yX4_get) (bytes := cX4_get) (cc := cX3_isLeftOut) (maxL := 2) (nL := 2) (n := 1) (index := 48) (ret := (some .int)) (ws := wsX4_get) (rm := cq_rm 0 0) (Ts := wsX3_isLeftOut) (own := RX3) (D := D) (Y := Y) (W0 := cl_row Y (ald 9) (ald 10) 10 ld.2.2.2.2.1) (wl := cl_lod Y ald ld) (v := some (.int (m_X4_get 10 ld.2.2.2.2.1 (m_X4_get 80 ld.2.2.2.1 load)))) (st0 := [.int (m_X4_get 80 ld.2.2.2.1 load), .ref (ald 9)]) (As := [.int (m_X4_get 80 ld.2.2.2.1 load)]) (rest := []) (C := RX4) (b := ald 9) ⟨hx, hb, hml, hown, hts⟩ (ct_X4_get l D Y (ald 9) (ald 10) 10 ld.2.2.2.2.1 (m_X4_get 80 ld.2.2.2.1 load) (by decide)) (cwV 1 hts gX3_isLeftOut_X4_get rfl rfl rfl (by decide +kernel) ⟨Nat.le_of_ble_eq_true rfl, Nat.le_of_ble_eq_true rfl⟩) hG hP hD [9, 10] rfl (by decide +kernel) 9 4 (qc := (RX4, TX4, 1)) (fs := [.ref (ald 10)]) rfl rfl rfl rfl hl.1 rfl (Nat.le_of_ble_eq_true rfl) dX3_isLeftOut_12 ⟨Nat.zero_le _, Nat.zero_le _⟩ ?_
  change W _ _ _ _ _ _ _ _ _ _ _ _ _ _ _ (F0 m 15 _ (.int (m_X4_get 10 ld.2.2.2.2.1 (m_X4_get 80 ld.2.2.2.1 load)) :: []))
  refine lv_iconst (v := 1) hx hb dX3_isLeftOut_15 (by decide) ?_
  refine lv_icmp_ne (tgt := 23) hx hb dX3_isLeftOut_16 (by decide) (fun c_1 => ?_) (fun c_1 => ?_)
  · refine lv_iconst (v := 0) hx hb dX3_isLeftOut_23 (by decide) ?_
    exact cq_rI hx hb hr hlocks rfl (by simp only [m_X3_isLeftOut, eq_false c_1, ↓reduceIte, if_true, if_false]) dX3_isLeftOut_24
  · refine lv_iconst (v := 1) hx hb dX3_isLeftOut_19 (by decide) ?_
    refine lv_goto (tgt := 24) hx hb dX3_isLeftOut_20 (by decide) ?_
    exact cq_rI hx hb hr hlocks rfl (by simp only [m_X3_isLeftOut, eq_true c_1, ↓reduceIte, if_true, if_false]) dX3_isLeftOut_24
theorem nb_X3_isLeftOut (ld : LodS) (load : Int32) : narrow .boolean (.int (m_X3_isLeftOut ld load)) = .int (m_X3_isLeftOut ld load) := by unfold m_X3_isLeftOut; (try dsimp only); (repeat' split) <;> rfl

def m_X5_replaces (st : SetS) (field : Int32) (source : Int32) (before : Int32) : Int32 := (let x_1 := m_X4_get 4 st.2.1 field; (if x_1 = 0 then 0 else (if x_1 = 2 then 1 else (if m_X4_get 5 st.1 source < m_X4_get 5 st.1 before then 0 else 1))))
set_option maxHeartbeats 4000000 in
set_option maxRecDepth 100000 in
theorem ct_X5_replaces (l : Launch) (D : va_G) (Y : cq_Y) (ast : Nat → Nat) (st : SetS) (field : Int32) (source : Int32) (before : Int32) : cq_MR l yX5_replaces wsX5_replaces (cq_rm 1 21) D Y (cl_set Y ast st) [.ref (ast 0), .int field, .int source, .int before] (some (.int (m_X5_replaces st field source before))) := by
  refine cq_body (cc := cX5_replaces) (maxL := 4) (ret := (some .boolean)) (by decide) rfl (Nat.le_of_ble_eq_true rfl) ?_
  intro p e s m below meth c hE hP hG hD ls hl
  obtain ⟨hx, hb, hr, hml, hts, hown, hnm, hlocks⟩ := hE
  have hown : s.vm.findClass RX5 = some m.cls := hown
  have hl : lv_has ls 4 [(0, .ref (ast 0)), (1, .int field), (2, .int source), (3, .int before)] := hl
  refine lv_aload_n hx hb dX5_replaces_0 rfl (lv_at hl 0 rfl) ?_
  refine va_get (D := D) (ci := 5) (v := .ref (ast 3)) (C := RX5) (T := TX5) (N := 3) hx hb hts (fun _ h => List.mem_cons_of_mem _ (List.mem_append_left _ (List.mem_append_right _ h))) hown hG.1 hP 0 rfl rfl 1 (by decide) (hts (.fieldLink RX5 23 "CatalogueLoader$Settings" "rules" "LCatalogueLoader$Row;") (List.mem_of_getElem? (i := 1) rfl)) (fun _ h9 => h9) rfl dX5_replaces_1 ?_
  refine lv_iload_n hx hb dX5_replaces_4 rfl (lv_at hl 1 rfl) ?_
  refine cq_RV (R := (cq_rm 1 21)) (args := ([.ref (ast 0), .int field, .int source, .int before] : List Value).toArray) (y := yX4_get) (bytes := cX4_get) (cc := cX5_replaces) (maxL := 2) (nL := 4) (n := 1) (index := 29) (ret := (some .int)) (ws := wsX4_get) (rm := cq_rm 0 0) (Ts := wsX5_replaces) (own := RX5) (D := D) (Y := Y) (W0 := cl_row Y (ast 3) (ast 4) 4 st.2.1) (wl := cl_set Y ast st) (v := some (.int (m_X4_get 4 st.2.1 field))) (st0 := [.int field, .ref (ast 3)]) (As := [.int field]) (rest := []) (C := RX4) (b := ast 3) ⟨hx, hb, hml, hown, hts⟩ (ct_X4_get l D Y (ast 3) (ast 4) 4 st.2.1 field (by decide)) (cwV 1 hts gX5_replaces_X4_get rfl rfl rfl (by decide +kernel) ⟨Nat.le_of_ble_eq_true rfl, Nat.le_of_ble_eq_true rfl⟩) hG hP hD [3, 4] rfl (by decide +kernel) 3 4 (qc := (RX4, TX4, 1)) (fs := [.ref (ast 4)]) rfl rfl rfl rfl hl.1 rfl (Nat.le_of_ble_eq_true rfl) dX5_replaces_5 ⟨Nat.zero_le _, Nat.zero_le _⟩ ?_
  change W _ _ _ _ _ _ _ _ _ _ _ _ _ _ _ (F0 m 8 _ (.int (m_X4_get 4 st.2.1 field) :: []))
  refine lv_topi (fun x_1 ex_1 => ?_)
  by_cases c_2 : x_1 = 0
  · refine lv_lookup (off := 28) (tgt := 36) hx hb dX5_replaces_8 (by decide) (by rw [c_2]; decide) (by decide) ?_
    refine lv_iconst (v := 0) hx hb dX5_replaces_36 (by decide) ?_
    exact cq_rI hx hb hr hlocks rfl (by subst ex_1; simp only [m_X5_replaces, eq_true c_2, ↓reduceIte, if_true, if_false]) dX5_replaces_37
  · by_cases c_3 : x_1 = 2
    · refine lv_lookup (off := 30) (tgt := 38) hx hb dX5_replaces_8 (by decide) (by rw [lv_osw c_2 (by decide)]; rw [c_3]; decide) (by decide) ?_
      refine lv_iconst (v := 1) hx hb dX5_replaces_38 (by decide) ?_
      exact cq_rI hx hb hr hlocks rfl (by subst ex_1; simp only [m_X5_replaces, eq_false c_2, eq_true c_3, ↓reduceIte, if_true, if_false]) dX5_replaces_39
    · refine lv_lookup (off := 32) (tgt := 40) hx hb dX5_replaces_8 (by decide) (by rw [lv_osw c_2 (by decide)]; rw [lv_osw c_3 (by decide)]; rfl) (by decide) ?_
      refine lv_aload_n hx hb dX5_replaces_40 rfl (lv_at hl 0 rfl) ?_
      refine va_get (D := D) (ci := 5) (v := .ref (ast 1)) (C := RX5) (T := TX5) (N := 3) hx hb hts (fun _ h => List.mem_cons_of_mem _ (List.mem_append_left _ (List.mem_append_right _ h))) hown hG.1 hP 0 rfl rfl 0 (by decide) (hts (.fieldLink RX5 14 "CatalogueLoader$Settings" "ranks" "LCatalogueLoader$Row;") (List.mem_of_getElem? (i := 2) rfl)) (fun _ h9 => h9) rfl dX5_replaces_41 ?_
      refine lv_iload_n hx hb dX5_replaces_44 rfl (lv_at hl 2 rfl) ?_
      refine cq_RV (R := (cq_rm 1 21)) (args := ([.ref (ast 0), .int field, .int source, .int before] : List Value).toArray) (y := yX4_get) (bytes := cX4_get) (cc := cX5_replaces) (maxL := 2) (nL := 4) (n := 1) (index := 29) (ret := (some .int)) (ws := wsX4_get) (rm := cq_rm 0 0) (Ts := wsX5_replaces) (own := RX5) (D := D) (Y := Y) (W0 := cl_row Y (ast 1) (ast 2) 5 st.1) (wl := cl_set Y ast st) (v := some (.int (m_X4_get 5 st.1 source))) (st0 := [.int source, .ref (ast 1)]) (As := [.int source]) (rest := []) (C := RX4) (b := ast 1) ⟨hx, hb, hml, hown, hts⟩ (ct_X4_get l D Y (ast 1) (ast 2) 5 st.1 source (by decide)) (cwV 1 hts gX5_replaces_X4_get rfl rfl rfl (by decide +kernel) ⟨Nat.le_of_ble_eq_true rfl, Nat.le_of_ble_eq_true rfl⟩) hG hP hD [1, 2] rfl (by decide +kernel) 1 4 (qc := (RX4, TX4, 1)) (fs := [.ref (ast 2)]) rfl rfl rfl rfl hl.1 rfl (Nat.le_of_ble_eq_true rfl) dX5_replaces_45 ⟨Nat.zero_le _, Nat.zero_le _⟩ ?_
      change W _ _ _ _ _ _ _ _ _ _ _ _ _ _ _ (F0 m 48 _ (.int (m_X4_get 5 st.1 source) :: []))
      refine lv_aload_n hx hb dX5_replaces_48 rfl (lv_at hl 0 rfl) ?_
      refine va_get (D := D) (ci := 5) (v := .ref (ast 1)) (C := RX5) (T := TX5) (N := 3) hx hb hts (fun _ h => List.mem_cons_of_mem _ (List.mem_append_left _ (List.mem_append_right _ h))) hown hG.1 hP 0 rfl rfl 0 (by decide) (hts (.fieldLink RX5 14 "CatalogueLoader$Settings" "ranks" "LCatalogueLoader$Row;") (List.mem_of_getElem? (i := 2) rfl)) (fun _ h9 => h9) rfl dX5_replaces_49 ?_
      refine lv_iload_n hx hb dX5_replaces_52 rfl (lv_at hl 3 rfl) ?_
      refine cq_RV (R := (cq_rm 1 21)) (args := ([.ref (ast 0), .int field, .int source, .int before] : List Value).toArray) (y := yX4_get) (bytes := cX4_get) (cc := cX5_replaces) (maxL := 2) (nL := 4) (n := 1) (index := 29) (ret := (some .int)) (ws := wsX4_get) (rm := cq_rm 0 0) (Ts := wsX5_replaces) (own := RX5) (D := D) (Y := Y) (W0 := cl_row Y (ast 1) (ast 2) 5 st.1) (wl := cl_set Y ast st) (v := some (.int (m_X4_get 5 st.1 before))) (st0 := [.int before, .ref (ast 1), .int (m_X4_get 5 st.1 source)]) (As := [.int before]) (rest := [.int (m_X4_get 5 st.1 source)]) (C := RX4) (b := ast 1) ⟨hx, hb, hml, hown, hts⟩ (ct_X4_get l D Y (ast 1) (ast 2) 5 st.1 before (by decide)) (cwV 1 hts gX5_replaces_X4_get rfl rfl rfl (by decide +kernel) ⟨Nat.le_of_ble_eq_true rfl, Nat.le_of_ble_eq_true rfl⟩) hG hP hD [1, 2] rfl (by decide +kernel) 1 4 (qc := (RX4, TX4, 1)) (fs := [.ref (ast 2)]) rfl rfl rfl rfl hl.1 rfl (Nat.le_of_ble_eq_true rfl) dX5_replaces_53 ⟨Nat.zero_le _, Nat.zero_le _⟩ ?_
      change W _ _ _ _ _ _ _ _ _ _ _ _ _ _ _ (F0 m 56 _ (.int (m_X4_get 5 st.1 before) :: [.int (m_X4_get 5 st.1 source)]))
      refine lv_icmp_lt (tgt := 63) hx hb dX5_replaces_56 (by decide) (fun c_4 => ?_) (fun c_4 => ?_)
      · refine lv_iconst (v := 0) hx hb dX5_replaces_63 (by decide) ?_
        exact cq_rI hx hb hr hlocks rfl (by subst ex_1; simp only [m_X5_replaces, eq_false c_2, eq_false c_3, eq_true c_4, ↓reduceIte, if_true, if_false]) dX5_replaces_64
      · refine lv_iconst (v := 1) hx hb dX5_replaces_59 (by decide) ?_
        refine lv_goto (tgt := 64) hx hb dX5_replaces_60 (by decide) ?_
        exact cq_rI hx hb hr hlocks rfl (by subst ex_1; simp only [m_X5_replaces, eq_false c_2, eq_false c_3, eq_false c_4, ↓reduceIte, if_true, if_false]) dX5_replaces_64
theorem nb_X5_replaces (st : SetS) (field : Int32) (source : Int32) (before : Int32) : narrow .boolean (.int (m_X5_replaces st field source before)) = .int (m_X5_replaces st field source before) := by unfold m_X5_replaces; (try dsimp only); (repeat' split) <;> rfl

def m_X0_has (ct : CatS) (record : Int32) : Int32 := (if m_X4_get 80 ct.1 record = 1 then 1 else 0)
set_option maxHeartbeats 4000000 in
set_option maxRecDepth 100000 in
theorem ct_X0_has (l : Launch) (D : va_G) (Y : cq_Y) (act : Nat → Nat) (ct : CatS) (record : Int32) : cq_MR l yX0_has wsX0_has (cq_rm 1 21) D Y (cl_cat Y act ct) [.ref (act 0), .int record] (some (.int (m_X0_has ct record))) := by
  refine cq_body (cc := cX0_has) (maxL := 2) (ret := (some .boolean)) (by decide) rfl (Nat.le_of_ble_eq_true rfl) ?_
  intro p e s m below meth c hE hP hG hD ls hl
  obtain ⟨hx, hb, hr, hml, hts, hown, hnm, hlocks⟩ := hE
  have hown : s.vm.findClass RX0 = some m.cls := hown
  have hl : lv_has ls 2 [(0, .ref (act 0)), (1, .int record)] := hl
  refine lv_aload_n hx hb dX0_has_0 rfl (lv_at hl 0 rfl) ?_
  refine va_get (D := D) (ci := 0) (v := .ref (act 1)) (C := RX0) (T := TX0) (N := 7) hx hb hts (fun _ h => List.mem_cons_of_mem _ (List.mem_append_left _ (List.mem_append_right _ h))) hown hG.1 hP 0 rfl rfl 0 (by decide) (hts (.fieldLink RX0 14 "CatalogueLoader$Catalogue" "there" "LCatalogueLoader$Row;") (List.mem_of_getElem? (i := 1) rfl)) (fun _ h9 => h9) rfl dX0_has_1 ?_
  refine lv_iload_n hx hb dX0_has_4 rfl (lv_at hl 1 rfl) ?_
  refine cq_RV (R := (cq_rm 1 21)) (args := ([.ref (act 0), .int record] : List Value).toArray) (y := yX4_get) (bytes := cX4_get) (cc := cX0_has) (maxL := 2) (nL := 2) (n := 1) (index := 49) (ret := (some .int)) (ws := wsX4_get) (rm := cq_rm 0 0) (Ts := wsX0_has) (own := RX0) (D := D) (Y := Y) (W0 := cl_row Y (act 1) (act 2) 80 ct.1) (wl := cl_cat Y act ct) (v := some (.int (m_X4_get 80 ct.1 record))) (st0 := [.int record, .ref (act 1)]) (As := [.int record]) (rest := []) (C := RX4) (b := act 1) ⟨hx, hb, hml, hown, hts⟩ (ct_X4_get l D Y (act 1) (act 2) 80 ct.1 record (by decide)) (cwV 1 hts gX0_has_X4_get rfl rfl rfl (by decide +kernel) ⟨Nat.le_of_ble_eq_true rfl, Nat.le_of_ble_eq_true rfl⟩) hG hP hD [1, 2] rfl (by decide +kernel) 1 4 (qc := (RX4, TX4, 1)) (fs := [.ref (act 2)]) rfl rfl rfl rfl hl.1 rfl (Nat.le_of_ble_eq_true rfl) dX0_has_5 ⟨Nat.zero_le _, Nat.zero_le _⟩ ?_
  change W _ _ _ _ _ _ _ _ _ _ _ _ _ _ _ (F0 m 8 _ (.int (m_X4_get 80 ct.1 record) :: []))
  refine lv_iconst (v := 1) hx hb dX0_has_8 (by decide) ?_
  refine lv_icmp_ne (tgt := 16) hx hb dX0_has_9 (by decide) (fun c_1 => ?_) (fun c_1 => ?_)
  · refine lv_iconst (v := 0) hx hb dX0_has_16 (by decide) ?_
    exact cq_rI hx hb hr hlocks rfl (by simp only [m_X0_has, eq_false c_1, ↓reduceIte, if_true, if_false]) dX0_has_17
  · refine lv_iconst (v := 1) hx hb dX0_has_12 (by decide) ?_
    refine lv_goto (tgt := 17) hx hb dX0_has_13 (by decide) ?_
    exact cq_rI hx hb hr hlocks rfl (by simp only [m_X0_has, eq_true c_1, ↓reduceIte, if_true, if_false]) dX0_has_17
theorem nb_X0_has (ct : CatS) (record : Int32) : narrow .boolean (.int (m_X0_has ct record)) = .int (m_X0_has ct record) := by unfold m_X0_has; (try dsimp only); (repeat' split) <;> rfl
end
section

def m_X0_count_lp4 (ct : CatS) : Nat → Nat → Int32 → Int32
  | 0, k4, x1_4 => x1_4
  | n4 + 1, k4, x1_4 => (if m_X0_has ct (nI k4) = 0 then m_X0_count_lp4 ct n4 (k4 + 1) x1_4 else m_X0_count_lp4 ct n4 (k4 + 1) (x1_4 + 1))
def m_X0_count (ct : CatS) : Int32 := (let fin_1 := m_X0_count_lp4 ct 80 0 0; fin_1)
set_option maxHeartbeats 4000000 in
set_option maxRecDepth 100000 in
theorem ct_X0_count (l : Launch) (D : va_G) (Y : cq_Y) (act : Nat → Nat) (ct : CatS) : cq_MR l yX0_count wsX0_count (cq_rm 2 42) D Y (cl_cat Y act ct) [.ref (act 0)] (some (.int (m_X0_count ct))) := by
  refine cq_body (cc := cX0_count) (maxL := 3) (ret := (some .int)) (by decide) rfl (Nat.le_of_ble_eq_true rfl) ?_
  intro p e s m below meth c hE hP hG hD ls hl
  obtain ⟨hx, hb, hr, hml, hts, hown, hnm, hlocks⟩ := hE
  have hown : s.vm.findClass RX0 = some m.cls := hown
  have hl : lv_has ls 3 [(0, .ref (act 0))] := hl
  refine lv_iconst (v := 0) hx hb dX0_count_0 (by decide) ?_
  refine lv_istore_n (lv' := [(1, .int 0), (0, .ref (act 0))]) hx hb dX0_count_1 rfl hl (by decide) rfl (fun ls hl => ?_)
  refine lv_iconst (v := 0) hx hb dX0_count_2 (by decide) ?_
  refine lv_istore_n (lv' := [(2, .int 0), (1, .int 0), (0, .ref (act 0))]) hx hb dX0_count_3 rfl hl (by decide) rfl (fun ls hl => ?_)
  obtain ⟨fin_1, efin_1⟩ : ∃ z, z = m_X0_count_lp4 ct 80 0 0 := ⟨_, rfl⟩
  have lp4 : ∀ (n4 k4 : Nat) (x1_4 : Int32) (ls : Array Slot), k4 + n4 = 80 → m_X0_count_lp4 ct n4 k4 x1_4 = fin_1 → lv_has ls 3 [(2, .int (nI k4)), (1, .int x1_4), (0, .ref (act 0))] → W p l e (cq_rm 2 42) s m ([.ref (act 0)] : List Value).toArray below meth c s.heap [] 0 0 (MQ below (cq_R (some (.int (m_X0_count ct)))) ([.ref (act 0)] : List Value).toArray s 0 0 (fun _ => False)) (F0 m 4 ls []) := by
    intro n4; induction n4 with
    | zero =>
      intro k4 x1_4 ls hkn hres4 hl
      have hz : 80 ≤ nI k4 := cq_z (N := 80) rfl (by omega) (by omega)
      have e9 : fin_1 = x1_4 := hres4.symm
      subst e9
      refine lv_iload_n hx hb dX0_count_4 rfl (lv_at hl 0 rfl) ?_
      refine lv_bipush (v := 80) hx hb dX0_count_5 (by decide) ?_
      refine lv_icmp_ge (tgt := 27) hx hb dX0_count_7 (by decide) (fun c_2 => ?_) (fun c_2 => ?_)
      · refine lv_iload_n hx hb dX0_count_27 rfl (lv_at hl 1 rfl) ?_
        exact cq_rI hx hb hr hlocks (vp_nar_int _) (by subst efin_1; simp only [m_X0_count, ↓reduceIte, if_true, if_false]) dX0_count_28
      · exact absurd hz c_2
    | succ n4 ih4 =>
      intro k4 x1_4 ls hkn hres4 hl
      have hz : ¬ (80 ≤ nI k4) := cq_s (N := 80) rfl (by omega) (by omega)
      refine lv_iload_n hx hb dX0_count_4 rfl (lv_at hl 0 rfl) ?_
      refine lv_bipush (v := 80) hx hb dX0_count_5 (by decide) ?_
      refine lv_icmp_ge (tgt := 27) hx hb dX0_count_7 (by decide) (fun c_3 => ?_) (fun c_3 => ?_)
      · exact absurd c_3 hz
      · refine lv_aload_n hx hb dX0_count_10 rfl (lv_at hl 2 rfl) ?_
        refine lv_iload_n hx hb dX0_count_11 rfl (lv_at hl 0 rfl) ?_
        refine cq_RV (R := (cq_rm 2 42)) (args := ([.ref (act 0)] : List Value).toArray) (y := yX0_has) (bytes := cX0_has) (cc := cX0_count) (maxL := 2) (nL := 3) (n := 1) (index := 53) (ret := (some .boolean)) (ws := wsX0_has) (rm := cq_rm 1 21) (Ts := wsX0_count) (own := RX0) (D := D) (Y := Y) (W0 := cl_cat Y act ct) (wl := cl_cat Y act ct) (v := some (.int (m_X0_has ct (nI k4)))) (st0 := [.int (nI k4), .ref (act 0)]) (As := [.int (nI k4)]) (rest := []) (C := RX0) (b := act 0) ⟨hx, hb, hml, hown, hts⟩ (ct_X0_has l D Y act ct (nI k4)) (cwV 1 hts gX0_count_X0_has rfl rfl rfl (by decide +kernel) ⟨Nat.le_of_ble_eq_true rfl, Nat.le_of_ble_eq_true rfl⟩) hG hP hD [0, 1, 2, 3, 4, 5, 6, 7, 8, 9, 10, 11, 12, 13, 14] rfl (by decide +kernel) 0 0 (qc := (RX0, TX0, 7)) (fs := [.ref (act 1), .ref (act 3), .ref (act 5), .ref (act 7), .ref (act 9), .ref (act 11), .ref (act 13)]) rfl rfl rfl rfl hl.1 rfl (Nat.le_of_ble_eq_true rfl) dX0_count_12 ⟨Nat.zero_le _, Nat.zero_le _⟩ ?_
        change W _ _ _ _ _ _ _ _ _ _ _ _ _ _ _ (F0 m 15 _ (.int (m_X0_has ct (nI k4)) :: []))
        refine lv_if_eq (tgt := 21) hx hb dX0_count_15 (by decide) (fun c_4 => ?_) (fun c_4 => ?_)
        · refine lv_iinc (v := nI (k4 + 1)) (lv' := [(2, .int (nI (k4 + 1))), (1, .int x1_4), (0, .ref (act 0))]) hx hb dX0_count_21 hl (k := 0) rfl (nI_1 k4) (by decide) rfl (fun ls hl => ?_)
          refine lv_goto (tgt := 4) hx hb dX0_count_24 (by decide) ?_
          exact ih4 (k4 + 1) x1_4 _ (by omega) (Eq.trans (by simp only [m_X0_count_lp4, eq_true c_4, ↓reduceIte, if_true, if_false]) hres4) (lv_sub hl [0, 1, 2] rfl)
        · refine lv_iinc (v := x1_4 + 1) (lv' := [(1, .int (x1_4 + 1)), (2, .int (nI k4)), (0, .ref (act 0))]) hx hb dX0_count_18 hl (k := 1) rfl rfl (by decide) rfl (fun ls hl => ?_)
          refine lv_iinc (v := nI (k4 + 1)) (lv' := [(2, .int (nI (k4 + 1))), (1, .int (x1_4 + 1)), (0, .ref (act 0))]) hx hb dX0_count_21 hl (k := 1) rfl (nI_1 k4) (by decide) rfl (fun ls hl => ?_)
          refine lv_goto (tgt := 4) hx hb dX0_count_24 (by decide) ?_
          exact ih4 (k4 + 1) (x1_4 + 1) _ (by omega) (Eq.trans (by simp only [m_X0_count_lp4, eq_false c_4, ↓reduceIte, if_true, if_false]) hres4) (lv_sub hl [0, 1, 2] rfl)
  exact lp4 80 0 0 _ (Nat.zero_add _) efin_1.symm (lv_sub hl [0, 1, 2] rfl)

def m_X0_find_lp12 (ct : CatS) (key : Int32) (value : Int32) : Nat → Nat → Int32 → Int32
  | 0, k12, x3_12 => x3_12
  | n12 + 1, k12, x3_12 => (if m_X4_get 80 ct.1 (nI k12) = 1 then (if m_X1_get 80 3 240 ct.2.1 (nI k12) key = value then (if x3_12 = (-1) then m_X0_find_lp12 ct key value n12 (k12 + 1) (nI k12) else (-2)) else m_X0_find_lp12 ct key value n12 (k12 + 1) x3_12) else m_X0_find_lp12 ct key value n12 (k12 + 1) x3_12)
def m_X0_find (ct : CatS) (key : Int32) (value : Int32) : Int32 := (if value = (-1) then (-1) else m_X0_find_lp12 ct key value 80 0 (-1))
set_option maxHeartbeats 4000000 in
set_option maxRecDepth 100000 in
theorem ct_X0_find (l : Launch) (D : va_G) (Y : cq_Y) (act : Nat → Nat) (ct : CatS) (key : Int32) (value : Int32) : cq_MR l yX0_find wsX0_find (cq_rm 1 23) D Y (cl_cat Y act ct) [.ref (act 0), .int key, .int value] (some (.int (m_X0_find ct key value))) := by
  refine cq_body (cc := cX0_find) (maxL := 5) (ret := (some .int)) (by decide) rfl (Nat.le_of_ble_eq_true rfl) ?_
  intro p e s m below meth c hE hP hG hD ls hl
  obtain ⟨hx, hb, hr, hml, hts, hown, hnm, hlocks⟩ := hE
  have hown : s.vm.findClass RX0 = some m.cls := hown
  have hl : lv_has ls 5 [(0, .ref (act 0)), (1, .int key), (2, .int value)] := hl
  refine lv_iload_n hx hb dX0_find_0 rfl (lv_at hl 2 rfl) ?_
  refine lv_iconst (v := (-1)) hx hb dX0_find_1 (by decide) ?_
  refine lv_icmp_ne (tgt := 7) hx hb dX0_find_2 (by decide) (fun c_1 => ?_) (fun c_1 => ?_)
  · refine lv_iconst (v := (-1)) hx hb dX0_find_7 (by decide) ?_
    refine lv_istore_n (lv' := [(3, .int (-1)), (0, .ref (act 0)), (1, .int key), (2, .int value)]) hx hb dX0_find_8 rfl hl (by decide) rfl (fun ls hl => ?_)
    refine lv_iconst (v := 0) hx hb dX0_find_9 (by decide) ?_
    refine lv_istore (lv' := [(4, .int 0), (3, .int (-1)), (0, .ref (act 0)), (1, .int key), (2, .int value)]) hx hb dX0_find_10 hl (by decide) rfl (fun ls hl => ?_)
    have lp12 : ∀ (n12 k12 : Nat) (x3_12 : Int32) (ls : Array Slot), k12 + n12 = 80 → m_X0_find_lp12 ct key value n12 k12 x3_12 = m_X0_find ct key value → lv_has ls 5 [(4, .int (nI k12)), (3, .int x3_12), (0, .ref (act 0)), (1, .int key), (2, .int value)] → W p l e (cq_rm 1 23) s m ([.ref (act 0), .int key, .int value] : List Value).toArray below meth c s.heap [] 0 0 (MQ below (cq_R (some (.int (m_X0_find ct key value)))) ([.ref (act 0), .int key, .int value] : List Value).toArray s 0 0 (fun _ => False)) (F0 m 12 ls []) := by
      intro n12; induction n12 with
      | zero =>
        intro k12 x3_12 ls hkn hres12 hl
        have hz : 80 ≤ nI k12 := cq_z (N := 80) rfl (by omega) (by omega)
        refine lv_iload hx hb dX0_find_12 (lv_at hl 0 rfl) ?_
        refine lv_bipush (v := 80) hx hb dX0_find_14 (by decide) ?_
        refine lv_icmp_ge (tgt := 63) hx hb dX0_find_16 (by decide) (fun c_3 => ?_) (fun c_3 => ?_)
        · refine lv_iload_n hx hb dX0_find_63 rfl (lv_at hl 1 rfl) ?_
          exact cq_rI hx hb hr hlocks (vp_nar_int _) (by rw [← hres12]; simp only [m_X0_find_lp12, eq_false c_1, ↓reduceIte, if_true, if_false]) dX0_find_64
        · exact absurd hz c_3
      | succ n12 ih12 =>
        intro k12 x3_12 ls hkn hres12 hl
        have hz : ¬ (80 ≤ nI k12) := cq_s (N := 80) rfl (by omega) (by omega)
        refine lv_iload hx hb dX0_find_12 (lv_at hl 0 rfl) ?_
        refine lv_bipush (v := 80) hx hb dX0_find_14 (by decide) ?_
        refine lv_icmp_ge (tgt := 63) hx hb dX0_find_16 (by decide) (fun c_4 => ?_) (fun c_4 => ?_)
        · exact absurd c_4 hz
        · refine lv_aload_n hx hb dX0_find_19 rfl (lv_at hl 2 rfl) ?_
          refine va_get (D := D) (ci := 0) (v := .ref (act 1)) (C := RX0) (T := TX0) (N := 7) hx hb hts (fun _ h => List.mem_cons_of_mem _ (List.mem_append_left _ (List.mem_append_left _ (List.mem_append_right _ h)))) hown hG.1 hP 0 rfl rfl 0 (by decide) (hts (.fieldLink RX0 14 "CatalogueLoader$Catalogue" "there" "LCatalogueLoader$Row;") (List.mem_of_getElem? (i := 1) rfl)) (fun _ h9 => h9) rfl dX0_find_20 ?_
          refine lv_iload hx hb dX0_find_23 (lv_at hl 0 rfl) ?_
          refine cq_RV (R := (cq_rm 1 23)) (args := ([.ref (act 0), .int key, .int value] : List Value).toArray) (y := yX4_get) (bytes := cX4_get) (cc := cX0_find) (maxL := 2) (nL := 5) (n := 1) (index := 49) (ret := (some .int)) (ws := wsX4_get) (rm := cq_rm 0 0) (Ts := wsX0_find) (own := RX0) (D := D) (Y := Y) (W0 := cl_row Y (act 1) (act 2) 80 ct.1) (wl := cl_cat Y act ct) (v := some (.int (m_X4_get 80 ct.1 (nI k12)))) (st0 := [.int (nI k12), .ref (act 1)]) (As := [.int (nI k12)]) (rest := []) (C := RX4) (b := act 1) ⟨hx, hb, hml, hown, hts⟩ (ct_X4_get l D Y (act 1) (act 2) 80 ct.1 (nI k12) (by decide)) (cwV 1 hts gX0_find_X4_get rfl rfl rfl (by decide +kernel) ⟨Nat.le_of_ble_eq_true rfl, Nat.le_of_ble_eq_true rfl⟩) hG hP hD [1, 2] rfl (by decide +kernel) 1 4 (qc := (RX4, TX4, 1)) (fs := [.ref (act 2)]) rfl rfl rfl rfl hl.1 rfl (Nat.le_of_ble_eq_true rfl) dX0_find_25 ⟨Nat.zero_le _, Nat.zero_le _⟩ ?_
          change W _ _ _ _ _ _ _ _ _ _ _ _ _ _ _ (F0 m 28 _ (.int (m_X4_get 80 ct.1 (nI k12)) :: []))
          refine lv_iconst (v := 1) hx hb dX0_find_28 (by decide) ?_
          refine lv_icmp_ne (tgt := 57) hx hb dX0_find_29 (by decide) (fun c_5 => ?_) (fun c_5 => ?_)
          · refine lv_iinc (v := nI (k12 + 1)) (lv' := [(4, .int (nI (k12 + 1))), (3, .int x3_12), (0, .ref (act 0)), (1, .int key), (2, .int value)]) hx hb dX0_find_57 hl (k := 0) rfl (nI_1 k12) (by decide) rfl (fun ls hl => ?_)
            refine lv_goto (tgt := 12) hx hb dX0_find_60 (by decide) ?_
            exact ih12 (k12 + 1) x3_12 _ (by omega) (Eq.trans (by simp only [m_X0_find_lp12, eq_false c_1, eq_false c_5, ↓reduceIte, if_true, if_false]) hres12) (lv_sub hl [0, 1, 2, 3, 4] rfl)
          · refine lv_aload_n hx hb dX0_find_32 rfl (lv_at hl 2 rfl) ?_
            refine va_get (D := D) (ci := 0) (v := .ref (act 3)) (C := RX0) (T := TX0) (N := 7) hx hb hts (fun _ h => List.mem_cons_of_mem _ (List.mem_append_left _ (List.mem_append_left _ (List.mem_append_right _ h)))) hown hG.1 hP 0 rfl rfl 1 (by decide) (hts (.fieldLink RX0 25 "CatalogueLoader$Catalogue" "keys" "LCatalogueLoader$Grid;") (List.mem_of_getElem? (i := 2) rfl)) (fun _ h9 => h9) rfl dX0_find_33 ?_
            refine lv_iload hx hb dX0_find_36 (lv_at hl 0 rfl) ?_
            refine lv_iload_n hx hb dX0_find_38 rfl (lv_at hl 3 rfl) ?_
            refine cq_RV (R := (cq_rm 1 23)) (args := ([.ref (act 0), .int key, .int value] : List Value).toArray) (y := yX1_get) (bytes := cX1_get) (cc := cX0_find) (maxL := 4) (nL := 5) (n := 2) (index := 83) (ret := (some .int)) (ws := wsX1_get) (rm := cq_rm 0 0) (Ts := wsX0_find) (own := RX0) (D := D) (Y := Y) (W0 := cl_grd Y (act 3) (act 4) 80 3 240 ct.2.1) (wl := cl_cat Y act ct) (v := some (.int (m_X1_get 80 3 240 ct.2.1 (nI k12) key))) (st0 := [.int key, .int (nI k12), .ref (act 3)]) (As := [.int (nI k12), .int key]) (rest := []) (C := RX1) (b := act 3) ⟨hx, hb, hml, hown, hts⟩ (ct_X1_get l D Y (act 3) (act 4) 80 3 240 ct.2.1 (nI k12) key (by decide)) (cwV 2 hts gX0_find_X1_get rfl rfl rfl (by decide +kernel) ⟨Nat.le_of_ble_eq_true rfl, Nat.le_of_ble_eq_true rfl⟩) hG hP hD [3, 4] rfl (by decide +kernel) 3 1 (qc := (RX1, TX1, 3)) (fs := [.int 80, .int 3, .ref (act 4)]) rfl rfl rfl rfl hl.1 rfl (Nat.le_of_ble_eq_true rfl) dX0_find_39 ⟨Nat.zero_le _, Nat.zero_le _⟩ ?_
            change W _ _ _ _ _ _ _ _ _ _ _ _ _ _ _ (F0 m 42 _ (.int (m_X1_get 80 3 240 ct.2.1 (nI k12) key) :: []))
            refine lv_iload_n hx hb dX0_find_42 rfl (lv_at hl 4 rfl) ?_
            refine lv_icmp_ne (tgt := 57) hx hb dX0_find_43 (by decide) (fun c_6 => ?_) (fun c_6 => ?_)
            · refine lv_iinc (v := nI (k12 + 1)) (lv' := [(4, .int (nI (k12 + 1))), (3, .int x3_12), (0, .ref (act 0)), (1, .int key), (2, .int value)]) hx hb dX0_find_57 hl (k := 0) rfl (nI_1 k12) (by decide) rfl (fun ls hl => ?_)
              refine lv_goto (tgt := 12) hx hb dX0_find_60 (by decide) ?_
              exact ih12 (k12 + 1) x3_12 _ (by omega) (Eq.trans (by simp only [m_X0_find_lp12, eq_false c_1, eq_true c_5, eq_false c_6, ↓reduceIte, if_true, if_false]) hres12) (lv_sub hl [0, 1, 2, 3, 4] rfl)
            · refine lv_iload_n hx hb dX0_find_46 rfl (lv_at hl 1 rfl) ?_
              refine lv_iconst (v := (-1)) hx hb dX0_find_47 (by decide) ?_
              refine lv_icmp_eq (tgt := 54) hx hb dX0_find_48 (by decide) (fun c_7 => ?_) (fun c_7 => ?_)
              · refine lv_iload hx hb dX0_find_54 (lv_at hl 0 rfl) ?_
                refine lv_istore_n (lv' := [(3, .int (nI k12)), (4, .int (nI k12)), (0, .ref (act 0)), (1, .int key), (2, .int value)]) hx hb dX0_find_56 rfl hl (by decide) rfl (fun ls hl => ?_)
                refine lv_iinc (v := nI (k12 + 1)) (lv' := [(4, .int (nI (k12 + 1))), (3, .int (nI k12)), (0, .ref (act 0)), (1, .int key), (2, .int value)]) hx hb dX0_find_57 hl (k := 1) rfl (nI_1 k12) (by decide) rfl (fun ls hl => ?_)
                refine lv_goto (tgt := 12) hx hb dX0_find_60 (by decide) ?_
                exact ih12 (k12 + 1) (nI k12) _ (by omega) (Eq.trans (by simp only [m_X0_find_lp12, eq_false c_1, eq_true c_5, eq_true c_6, eq_true c_7, ↓reduceIte, if_true, if_false]) hres12) (lv_sub hl [0, 1, 2, 3, 4] rfl)
              · refine lv_bipush (v := (-2)) hx hb dX0_find_51 (by decide) ?_
                exact cq_rI hx hb hr hlocks (vp_nar_int _) (by rw [← hres12]; simp only [m_X0_find_lp12, eq_false c_1, eq_true c_5, eq_true c_6, eq_false c_7, ↓reduceIte, if_true, if_false]) dX0_find_53
    exact lp12 80 0 (-1) _ (Nat.zero_add _) (by simp only [m_X0_find, eq_false c_1, ↓reduceIte, if_true, if_false]) (lv_sub hl [0, 1, 2, 3, 4] rfl)
  · refine lv_iconst (v := (-1)) hx hb dX0_find_5 (by decide) ?_
    exact cq_rI hx hb hr hlocks (vp_nar_int _) (by simp only [m_X0_find, eq_true c_1, ↓reduceIte, if_true, if_false]) dX0_find_6

def m_X0_target_lp3 (ct : CatS) (st : SetS) (ld : LodS) (load : Int32) : Nat → Nat → Int32
  | 0, k3 => load
  | n3 + 1, k3 => (let x_4 := m_X4_get 3 st.2.2 (nI k3); (let x_5 := m_X0_find ct x_4 (m_X1_get 81 3 243 ld.1 load x_4); (if x_5 = (-1) then m_X0_target_lp3 ct st ld load n3 (k3 + 1)  else x_5)))
def m_X0_target (ct : CatS) (st : SetS) (ld : LodS) (load : Int32) : Int32 := m_X0_target_lp3 ct st ld load 3 0 
set_option maxHeartbeats 4000000 in
set_option maxRecDepth 100000 in
theorem ct_X0_target (l : Launch) (D : va_G) (Y : cq_Y) (act : Nat → Nat) (ct : CatS) (ast : Nat → Nat) (st : SetS) (ald : Nat → Nat) (ld : LodS) (load : Int32) : cq_MR l yX0_target wsX0_target (cq_rm 2 47) D Y (cl_cat Y act ct ++ (cl_set Y ast st ++ (cl_lod Y ald ld))) [.ref (act 0), .ref (ast 0), .ref (ald 0), .int load] (some (.int (m_X0_target ct st ld load))) := by
  refine cq_body (cc := cX0_target) (maxL := 7) (ret := (some .int)) (by decide) rfl (Nat.le_of_ble_eq_true rfl) ?_
  intro p e s m below meth c hE hP hG hD ls hl
  obtain ⟨hx, hb, hr, hml, hts, hown, hnm, hlocks⟩ := hE
  have hown : s.vm.findClass RX0 = some m.cls := hown
  have hl : lv_has ls 7 [(0, .ref (act 0)), (1, .ref (ast 0)), (2, .ref (ald 0)), (3, .int load)] := hl
  refine lv_iconst (v := 0) hx hb dX0_target_0 (by decide) ?_
  refine lv_istore (lv' := [(4, .int 0), (0, .ref (act 0)), (1, .ref (ast 0)), (2, .ref (ald 0)), (3, .int load)]) hx hb dX0_target_1 hl (by decide) rfl (fun ls hl => ?_)
  have lp3 : ∀ (n3 k3 : Nat) (ls : Array Slot), k3 + n3 = 3 → m_X0_target_lp3 ct st ld load n3 k3  = m_X0_target ct st ld load → lv_has ls 7 [(4, .int (nI k3)), (0, .ref (act 0)), (1, .ref (ast 0)), (2, .ref (ald 0)), (3, .int load)] → W p l e (cq_rm 2 47) s m ([.ref (act 0), .ref (ast 0), .ref (ald 0), .int load] : List Value).toArray below meth c s.heap [] 0 0 (MQ below (cq_R (some (.int (m_X0_target ct st ld load)))) ([.ref (act 0), .ref (ast 0), .ref (ald 0), .int load] : List Value).toArray s 0 0 (fun _ => False)) (F0 m 3 ls []) := by
    intro n3; induction n3 with
    | zero =>
      intro k3  ls hkn hres3 hl
      have hz : 3 ≤ nI k3 := cq_z (N := 3) rfl (by omega) (by omega)
      refine lv_iload hx hb dX0_target_3 (lv_at hl 0 rfl) ?_
      refine lv_iconst (v := 3) hx hb dX0_target_5 (by decide) ?_
      refine lv_icmp_ge (tgt := 53) hx hb dX0_target_6 (by decide) (fun c_2 => ?_) (fun c_2 => ?_)
      · refine lv_iload_n hx hb dX0_target_53 rfl (lv_at hl 4 rfl) ?_
        exact cq_rI hx hb hr hlocks (vp_nar_int _) (by rw [← hres3]; simp only [m_X0_target_lp3, ↓reduceIte, if_true, if_false]) dX0_target_54
      · exact absurd hz c_2
    | succ n3 ih3 =>
      intro k3  ls hkn hres3 hl
      have hz : ¬ (3 ≤ nI k3) := cq_s (N := 3) rfl (by omega) (by omega)
      refine lv_iload hx hb dX0_target_3 (lv_at hl 0 rfl) ?_
      refine lv_iconst (v := 3) hx hb dX0_target_5 (by decide) ?_
      refine lv_icmp_ge (tgt := 53) hx hb dX0_target_6 (by decide) (fun c_3 => ?_) (fun c_3 => ?_)
      · exact absurd c_3 hz
      · refine lv_aload_n hx hb dX0_target_9 rfl (lv_at hl 2 rfl) ?_
        refine va_getN (D := D) (ci := 5) (v := .ref (ast 5)) (C := RX5) (T := TX5) (N := 3) hx hb hts (fun _ h => List.mem_cons_of_mem _ (List.mem_append_left _ (List.mem_append_left _ (List.mem_append_left _ (List.mem_append_left _ (List.mem_append_right _ h)))))) hown hG.1 hP 15 rfl rfl 2 (by decide) (hG.nest 3 rfl) (fun _ h9 => h9) rfl dX0_target_10 ?_
        refine lv_iload hx hb dX0_target_13 (lv_at hl 0 rfl) ?_
        refine cq_RV (R := (cq_rm 2 47)) (args := ([.ref (act 0), .ref (ast 0), .ref (ald 0), .int load] : List Value).toArray) (y := yX4_get) (bytes := cX4_get) (cc := cX0_target) (maxL := 2) (nL := 7) (n := 1) (index := 49) (ret := (some .int)) (ws := wsX4_get) (rm := cq_rm 0 0) (Ts := wsX0_target) (own := RX0) (D := D) (Y := Y) (W0 := cl_row Y (ast 5) (ast 6) 3 st.2.2) (wl := cl_cat Y act ct ++ (cl_set Y ast st ++ (cl_lod Y ald ld))) (v := some (.int (m_X4_get 3 st.2.2 (nI k3)))) (st0 := [.int (nI k3), .ref (ast 5)]) (As := [.int (nI k3)]) (rest := []) (C := RX4) (b := ast 5) ⟨hx, hb, hml, hown, hts⟩ (ct_X4_get l D Y (ast 5) (ast 6) 3 st.2.2 (nI k3) (by decide)) (cwV 1 hts gX0_target_X4_get rfl rfl rfl (by decide +kernel) ⟨Nat.le_of_ble_eq_true rfl, Nat.le_of_ble_eq_true rfl⟩) hG hP hD [20, 21] rfl (by decide +kernel) 20 4 (qc := (RX4, TX4, 1)) (fs := [.ref (ast 6)]) rfl rfl rfl rfl hl.1 rfl (Nat.le_of_ble_eq_true rfl) dX0_target_15 ⟨Nat.zero_le _, Nat.zero_le _⟩ ?_
        change W _ _ _ _ _ _ _ _ _ _ _ _ _ _ _ (F0 m 18 _ (.int (m_X4_get 3 st.2.2 (nI k3)) :: []))
        refine lv_topi (fun x_4 ex_4 => ?_)
        refine lv_istore (lv' := [(5, .int x_4), (4, .int (nI k3)), (0, .ref (act 0)), (1, .ref (ast 0)), (2, .ref (ald 0)), (3, .int load)]) hx hb dX0_target_18 hl (by decide) rfl (fun ls hl => ?_)
        refine lv_aload_n hx hb dX0_target_20 rfl (lv_at hl 2 rfl) ?_
        refine lv_iload hx hb dX0_target_21 (lv_at hl 0 rfl) ?_
        refine lv_aload_n hx hb dX0_target_23 rfl (lv_at hl 4 rfl) ?_
        refine va_getN (D := D) (ci := 3) (v := .ref (ald 1)) (C := RX3) (T := TX3) (N := 7) hx hb hts (fun _ h => List.mem_cons_of_mem _ (List.mem_append_left _ (List.mem_append_left _ (List.mem_append_left _ (List.mem_append_right _ h))))) hown hG.1 hP 22 rfl rfl 0 (by decide) (hG.nest 5 rfl) (fun _ h9 => h9) rfl dX0_target_24 ?_
        refine lv_iload_n hx hb dX0_target_27 rfl (lv_at hl 5 rfl) ?_
        refine lv_iload hx hb dX0_target_28 (lv_at hl 0 rfl) ?_
        refine cq_RV (R := (cq_rm 2 47)) (args := ([.ref (act 0), .ref (ast 0), .ref (ald 0), .int load] : List Value).toArray) (y := yX1_get) (bytes := cX1_get) (cc := cX0_target) (maxL := 4) (nL := 7) (n := 2) (index := 83) (ret := (some .int)) (ws := wsX1_get) (rm := cq_rm 0 0) (Ts := wsX0_target) (own := RX0) (D := D) (Y := Y) (W0 := cl_grd Y (ald 1) (ald 2) 81 3 243 ld.1) (wl := cl_cat Y act ct ++ (cl_set Y ast st ++ (cl_lod Y ald ld))) (v := some (.int (m_X1_get 81 3 243 ld.1 load x_4))) (st0 := [.int x_4, .int load, .ref (ald 1), .int x_4, .ref (act 0)]) (As := [.int load, .int x_4]) (rest := [.int x_4, .ref (act 0)]) (C := RX1) (b := ald 1) ⟨hx, hb, hml, hown, hts⟩ (ct_X1_get l D Y (ald 1) (ald 2) 81 3 243 ld.1 load x_4 (by decide)) (cwV 2 hts gX0_target_X1_get rfl rfl rfl (by decide +kernel) ⟨Nat.le_of_ble_eq_true rfl, Nat.le_of_ble_eq_true rfl⟩) hG hP hD [23, 24] rfl (by decide +kernel) 23 1 (qc := (RX1, TX1, 3)) (fs := [.int 81, .int 3, .ref (ald 2)]) rfl rfl rfl rfl hl.1 rfl (Nat.le_of_ble_eq_true rfl) dX0_target_30 ⟨Nat.zero_le _, Nat.zero_le _⟩ ?_
        change W _ _ _ _ _ _ _ _ _ _ _ _ _ _ _ (F0 m 33 _ (.int (m_X1_get 81 3 243 ld.1 load x_4) :: [.int x_4, .ref (act 0)]))
        refine cq_RV (R := (cq_rm 2 47)) (args := ([.ref (act 0), .ref (ast 0), .ref (ald 0), .int load] : List Value).toArray) (y := yX0_find) (bytes := cX0_find) (cc := cX0_target) (maxL := 5) (nL := 7) (n := 2) (index := 86) (ret := (some .int)) (ws := wsX0_find) (rm := cq_rm 1 23) (Ts := wsX0_target) (own := RX0) (D := D) (Y := Y) (W0 := cl_cat Y act ct) (wl := cl_cat Y act ct ++ (cl_set Y ast st ++ (cl_lod Y ald ld))) (v := some (.int (m_X0_find ct x_4 (m_X1_get 81 3 243 ld.1 load x_4)))) (st0 := [.int (m_X1_get 81 3 243 ld.1 load x_4), .int x_4, .ref (act 0)]) (As := [.int x_4, .int (m_X1_get 81 3 243 ld.1 load x_4)]) (rest := []) (C := RX0) (b := act 0) ⟨hx, hb, hml, hown, hts⟩ (ct_X0_find l D Y act ct x_4 (m_X1_get 81 3 243 ld.1 load x_4)) (cwV 2 hts gX0_target_X0_find rfl rfl rfl (by decide +kernel) ⟨Nat.le_of_ble_eq_true rfl, Nat.le_of_ble_eq_true rfl⟩) hG hP hD [0, 1, 2, 3, 4, 5, 6, 7, 8, 9, 10, 11, 12, 13, 14] rfl (by decide +kernel) 0 0 (qc := (RX0, TX0, 7)) (fs := [.ref (act 1), .ref (act 3), .ref (act 5), .ref (act 7), .ref (act 9), .ref (act 11), .ref (act 13)]) rfl rfl rfl rfl hl.1 rfl (Nat.le_of_ble_eq_true rfl) dX0_target_33 ⟨Nat.zero_le _, Nat.zero_le _⟩ ?_
        change W _ _ _ _ _ _ _ _ _ _ _ _ _ _ _ (F0 m 36 _ (.int (m_X0_find ct x_4 (m_X1_get 81 3 243 ld.1 load x_4)) :: []))
        refine lv_topi (fun x_5 ex_5 => ?_)
        refine lv_istore (lv' := [(6, .int x_5), (5, .int x_4), (4, .int (nI k3)), (0, .ref (act 0)), (1, .ref (ast 0)), (2, .ref (ald 0)), (3, .int load)]) hx hb dX0_target_36 hl (by decide) rfl (fun ls hl => ?_)
        refine lv_iload hx hb dX0_target_38 (lv_at hl 0 rfl) ?_
        refine lv_iconst (v := (-1)) hx hb dX0_target_40 (by decide) ?_
        refine lv_icmp_eq (tgt := 47) hx hb dX0_target_41 (by decide) (fun c_6 => ?_) (fun c_6 => ?_)
        · refine lv_iinc (v := nI (k3 + 1)) (lv' := [(4, .int (nI (k3 + 1))), (6, .int x_5), (5, .int x_4), (0, .ref (act 0)), (1, .ref (ast 0)), (2, .ref (ald 0)), (3, .int load)]) hx hb dX0_target_47 hl (k := 2) rfl (nI_1 k3) (by decide) rfl (fun ls hl => ?_)
          refine lv_goto (tgt := 3) hx hb dX0_target_50 (by decide) ?_
          exact ih3 (k3 + 1)  _ (by omega) (Eq.trans (by subst ex_5; subst ex_4; simp only [m_X0_target_lp3, eq_true c_6, ↓reduceIte, if_true, if_false]) hres3) (lv_sub hl [0, 3, 4, 5, 6] rfl)
        · refine lv_iload hx hb dX0_target_44 (lv_at hl 0 rfl) ?_
          exact cq_rI hx hb hr hlocks (vp_nar_int _) (by rw [← hres3]; subst ex_5; subst ex_4; simp only [m_X0_target_lp3, eq_false c_6, ↓reduceIte, if_true, if_false]) dX0_target_46
  exact lp3 3 0  _ (Nat.zero_add _) (by simp only [m_X0_target, ↓reduceIte, if_true, if_false]) (lv_sub hl [0, 1, 2, 3, 4] rfl)

def m_X0_layKeys_lp3 (ct : CatS) (ld : LodS) (load : Int32) (record : Int32) : Nat → Nat → CatS → CatS
  | 0, k3, s0_3 => s0_3
  | n3 + 1, k3, s0_3 => (if m_X1_get 80 3 240 s0_3.2.1 record (nI k3) = (-1) then m_X0_layKeys_lp3 ct ld load record n3 (k3 + 1) (s0_3.1, m_X1_set 80 3 240 s0_3.2.1 record (nI k3) (m_X1_get 81 3 243 ld.1 load (nI k3)), s0_3.2.2.1, s0_3.2.2.2.1, s0_3.2.2.2.2.1, s0_3.2.2.2.2.2.1, s0_3.2.2.2.2.2.2) else m_X0_layKeys_lp3 ct ld load record n3 (k3 + 1) s0_3)
def m_X0_layKeys (ct : CatS) (ld : LodS) (load : Int32) (record : Int32) : CatS := (let fin_1 := m_X0_layKeys_lp3 ct ld load record 3 0 ct; fin_1)
set_option maxHeartbeats 4000000 in
set_option maxRecDepth 100000 in
theorem ct_X0_layKeys (l : Launch) (D : va_G) (Y : cq_Y) (act : Nat → Nat) (ct : CatS) (ald : Nat → Nat) (ld : LodS) (load : Int32) (record : Int32) : cq_MW l yX0_layKeys wsX0_layKeys (cq_rm 1 24) D Y (cl_cat Y act ct ++ (cl_lod Y ald ld)) [.ref (act 0), .ref (ald 0), .int load, .int record] (none) (cl_cat Y act (m_X0_layKeys ct ld load record) ++ (cl_lod Y ald ld)) := by
  refine cq_body (cc := cX0_layKeys) (maxL := 5) (ret := none) (by decide) rfl (Nat.le_of_ble_eq_true rfl) ?_
  intro p e s m below meth c hE hP hG hD ls hl
  obtain ⟨hx, hb, hr, hml, hts, hown, hnm, hlocks⟩ := hE
  have hown : s.vm.findClass RX0 = some m.cls := hown
  have hS : va_S (cq_in (cl_cat Y act ct ++ (cl_lod Y ald ld))) s.heap s.heap [] := va_S.rf
  have hl : lv_has ls 5 [(0, .ref (act 0)), (1, .ref (ald 0)), (2, .int load), (3, .int record)] := hl
  refine lv_iconst (v := 0) hx hb dX0_layKeys_0 (by decide) ?_
  refine lv_istore (lv' := [(4, .int 0), (0, .ref (act 0)), (1, .ref (ald 0)), (2, .int load), (3, .int record)]) hx hb dX0_layKeys_1 hl (by decide) rfl (fun ls hl => ?_)
  obtain ⟨fin_1, efin_1⟩ : ∃ z, z = m_X0_layKeys_lp3 ct ld load record 3 0 ct := ⟨_, rfl⟩
  have lp3 : ∀ (n3 k3 : Nat) (s0_3 : CatS) (H : Heap) (locs : List Loc) (ls : Array Slot), k3 + n3 = 3 → m_X0_layKeys_lp3 ct ld load record n3 k3 s0_3 = fin_1 → va_P D vwCl (cl_cat Y act s0_3 ++ (cl_lod Y ald ld)) H → va_D (cq_in (cl_cat Y act ct ++ (cl_lod Y ald ld))) (cl_cat Y act s0_3 ++ (cl_lod Y ald ld)) → va_S (cq_in (cl_cat Y act ct ++ (cl_lod Y ald ld))) s.heap H locs → lv_has ls 5 [(4, .int (nI k3)), (0, .ref (act 0)), (1, .ref (ald 0)), (2, .int load), (3, .int record)] → W p l e (cq_rm 1 24) s m ([.ref (act 0), .ref (ald 0), .int load, .int record] : List Value).toArray below meth c H locs 0 0 (MQ below (cq_W D (none) (cl_cat Y act ct ++ (cl_lod Y ald ld)) (cl_cat Y act (m_X0_layKeys ct ld load record) ++ (cl_lod Y ald ld))) ([.ref (act 0), .ref (ald 0), .int load, .int record] : List Value).toArray s 0 0 (cq_in (cl_cat Y act ct ++ (cl_lod Y ald ld)))) (F0 m 3 ls []) := by
    intro n3; induction n3 with
    | zero =>
      intro k3 s0_3 H locs ls hkn hres3 hP hD hS hl
      have hz : 3 ≤ nI k3 := cq_z (N := 3) rfl (by omega) (by omega)
      have e9 : fin_1 = s0_3 := hres3.symm
      subst e9
      refine lv_iload hx hb dX0_layKeys_3 (lv_at hl 0 rfl) ?_
      refine lv_iconst (v := 3) hx hb dX0_layKeys_5 (by decide) ?_
      refine lv_icmp_ge (tgt := 49) hx hb dX0_layKeys_6 (by decide) (fun c_2 => ?_) (fun c_2 => ?_)
      · exact cq_wV (wl := cl_cat Y act fin_1 ++ (cl_lod Y ald ld)) hx hb hr hlocks hP hS rfl (by subst efin_1; simp only [m_X0_layKeys, ↓reduceIte, if_true, if_false]) dX0_layKeys_49
      · exact absurd hz c_2
    | succ n3 ih3 =>
      intro k3 s0_3 H locs ls hkn hres3 hP hD hS hl
      have hz : ¬ (3 ≤ nI k3) := cq_s (N := 3) rfl (by omega) (by omega)
      refine lv_iload hx hb dX0_layKeys_3 (lv_at hl 0 rfl) ?_
      refine lv_iconst (v := 3) hx hb dX0_layKeys_5 (by decide) ?_
      refine lv_icmp_ge (tgt := 49) hx hb dX0_layKeys_6 (by decide) (fun c_3 => ?_) (fun c_3 => ?_)
      · exact absurd c_3 hz
      · refine lv_aload_n hx hb dX0_layKeys_9 rfl (lv_at hl 1 rfl) ?_
        refine va_get (D := D) (ci := 0) (v := .ref (act 3)) (C := RX0) (T := TX0) (N := 7) hx hb hts (fun _ h => List.mem_cons_of_mem _ (List.mem_append_left _ (List.mem_append_left _ (List.mem_append_right _ h)))) hown hG.1 hP 0 rfl rfl 1 (by decide) (hts (.fieldLink RX0 25 "CatalogueLoader$Catalogue" "keys" "LCatalogueLoader$Grid;") (List.mem_of_getElem? (i := 1) rfl)) (fun _ h9 => h9) rfl dX0_layKeys_10 ?_
        refine lv_iload_n hx hb dX0_layKeys_13 rfl (lv_at hl 4 rfl) ?_
        refine lv_iload hx hb dX0_layKeys_14 (lv_at hl 0 rfl) ?_
        refine cq_RV (R := (cq_rm 1 24)) (args := ([.ref (act 0), .ref (ald 0), .int load, .int record] : List Value).toArray) (y := yX1_get) (bytes := cX1_get) (cc := cX0_layKeys) (maxL := 4) (nL := 5) (n := 2) (index := 83) (ret := (some .int)) (ws := wsX1_get) (rm := cq_rm 0 0) (Ts := wsX0_layKeys) (own := RX0) (D := D) (Y := Y) (W0 := cl_grd Y (act 3) (act 4) 80 3 240 s0_3.2.1) (wl := cl_cat Y act s0_3 ++ (cl_lod Y ald ld)) (v := some (.int (m_X1_get 80 3 240 s0_3.2.1 record (nI k3)))) (st0 := [.int (nI k3), .int record, .ref (act 3)]) (As := [.int record, .int (nI k3)]) (rest := []) (C := RX1) (b := act 3) ⟨hx, hb, hml, hown, hts⟩ (ct_X1_get l D Y (act 3) (act 4) 80 3 240 s0_3.2.1 record (nI k3) (by decide)) (cwV 2 hts gX0_layKeys_X1_get rfl rfl rfl (by decide +kernel) ⟨Nat.le_of_ble_eq_true rfl, Nat.le_of_ble_eq_true rfl⟩) hG hP hD [3, 4] rfl (by decide +kernel) 3 1 (qc := (RX1, TX1, 3)) (fs := [.int 80, .int 3, .ref (act 4)]) rfl rfl rfl rfl hl.1 rfl (Nat.le_of_ble_eq_true rfl) dX0_layKeys_16 ⟨Nat.zero_le _, Nat.zero_le _⟩ ?_
        change W _ _ _ _ _ _ _ _ _ _ _ _ _ _ _ (F0 m 19 _ (.int (m_X1_get 80 3 240 s0_3.2.1 record (nI k3)) :: []))
        refine lv_iconst (v := (-1)) hx hb dX0_layKeys_19 (by decide) ?_
        refine lv_icmp_ne (tgt := 43) hx hb dX0_layKeys_20 (by decide) (fun c_4 => ?_) (fun c_4 => ?_)
        · refine lv_iinc (v := nI (k3 + 1)) (lv' := [(4, .int (nI (k3 + 1))), (0, .ref (act 0)), (1, .ref (ald 0)), (2, .int load), (3, .int record)]) hx hb dX0_layKeys_43 hl (k := 0) rfl (nI_1 k3) (by decide) rfl (fun ls hl => ?_)
          refine lv_goto (tgt := 3) hx hb dX0_layKeys_46 (by decide) ?_
          exact ih3 (k3 + 1) s0_3 _ _ _ (by omega) (Eq.trans (by simp only [m_X0_layKeys_lp3, eq_false c_4, ↓reduceIte, if_true, if_false]) hres3) hP hD hS (lv_sub hl [0, 1, 2, 3, 4] rfl)
        · refine lv_aload_n hx hb dX0_layKeys_23 rfl (lv_at hl 1 rfl) ?_
          refine va_get (D := D) (ci := 0) (v := .ref (act 3)) (C := RX0) (T := TX0) (N := 7) hx hb hts (fun _ h => List.mem_cons_of_mem _ (List.mem_append_left _ (List.mem_append_left _ (List.mem_append_right _ h)))) hown hG.1 hP 0 rfl rfl 1 (by decide) (hts (.fieldLink RX0 25 "CatalogueLoader$Catalogue" "keys" "LCatalogueLoader$Grid;") (List.mem_of_getElem? (i := 1) rfl)) (fun _ h9 => h9) rfl dX0_layKeys_24 ?_
          refine lv_iload_n hx hb dX0_layKeys_27 rfl (lv_at hl 4 rfl) ?_
          refine lv_iload hx hb dX0_layKeys_28 (lv_at hl 0 rfl) ?_
          refine lv_aload_n hx hb dX0_layKeys_30 rfl (lv_at hl 2 rfl) ?_
          refine va_getN (D := D) (ci := 3) (v := .ref (ald 1)) (C := RX3) (T := TX3) (N := 7) hx hb hts (fun _ h => List.mem_cons_of_mem _ (List.mem_append_left _ (List.mem_append_right _ h))) hown hG.1 hP 15 rfl rfl 0 (by decide) (hG.nest 5 rfl) (fun _ h9 => h9) rfl dX0_layKeys_31 ?_
          refine lv_iload_n hx hb dX0_layKeys_34 rfl (lv_at hl 3 rfl) ?_
          refine lv_iload hx hb dX0_layKeys_35 (lv_at hl 0 rfl) ?_
          refine cq_RV (R := (cq_rm 1 24)) (args := ([.ref (act 0), .ref (ald 0), .int load, .int record] : List Value).toArray) (y := yX1_get) (bytes := cX1_get) (cc := cX0_layKeys) (maxL := 4) (nL := 5) (n := 2) (index := 83) (ret := (some .int)) (ws := wsX1_get) (rm := cq_rm 0 0) (Ts := wsX0_layKeys) (own := RX0) (D := D) (Y := Y) (W0 := cl_grd Y (ald 1) (ald 2) 81 3 243 ld.1) (wl := cl_cat Y act s0_3 ++ (cl_lod Y ald ld)) (v := some (.int (m_X1_get 81 3 243 ld.1 load (nI k3)))) (st0 := [.int (nI k3), .int load, .ref (ald 1), .int (nI k3), .int record, .ref (act 3)]) (As := [.int load, .int (nI k3)]) (rest := [.int (nI k3), .int record, .ref (act 3)]) (C := RX1) (b := ald 1) ⟨hx, hb, hml, hown, hts⟩ (ct_X1_get l D Y (ald 1) (ald 2) 81 3 243 ld.1 load (nI k3) (by decide)) (cwV 2 hts gX0_layKeys_X1_get rfl rfl rfl (by decide +kernel) ⟨Nat.le_of_ble_eq_true rfl, Nat.le_of_ble_eq_true rfl⟩) hG hP hD [16, 17] rfl (by decide +kernel) 16 1 (qc := (RX1, TX1, 3)) (fs := [.int 81, .int 3, .ref (ald 2)]) rfl rfl rfl rfl hl.1 rfl (Nat.le_of_ble_eq_true rfl) dX0_layKeys_37 ⟨Nat.zero_le _, Nat.zero_le _⟩ ?_
          change W _ _ _ _ _ _ _ _ _ _ _ _ _ _ _ (F0 m 40 _ (.int (m_X1_get 81 3 243 ld.1 load (nI k3)) :: [.int (nI k3), .int record, .ref (act 3)]))
          refine cq_WV (R := (cq_rm 1 24)) (args := ([.ref (act 0), .ref (ald 0), .int load, .int record] : List Value).toArray) (y := yX1_set) (bytes := cX1_set) (cc := cX0_layKeys) (maxL := 5) (nL := 5) (n := 3) (index := 89) (ret := none) (ws := wsX1_set) (rm := cq_rm 0 0) (Ts := wsX0_layKeys) (own := RX0) (D := D) (Y := Y) (W0 := cl_grd Y (act 3) (act 4) 80 3 240 s0_3.2.1) (wl := cl_cat Y act s0_3 ++ (cl_lod Y ald ld)) (v := none) (st0 := [.int (m_X1_get 81 3 243 ld.1 load (nI k3)), .int (nI k3), .int record, .ref (act 3)]) (As := [.int record, .int (nI k3), .int (m_X1_get 81 3 243 ld.1 load (nI k3))]) (rest := []) (W1 := cl_grd Y (act 3) (act 4) 80 3 240 (m_X1_set 80 3 240 s0_3.2.1 record (nI k3) (m_X1_get 81 3 243 ld.1 load (nI k3)))) (C := RX1) (b := act 3) (cl_cat Y act (s0_3.1, m_X1_set 80 3 240 s0_3.2.1 record (nI k3) (m_X1_get 81 3 243 ld.1 load (nI k3)), s0_3.2.2.1, s0_3.2.2.2.1, s0_3.2.2.2.2.1, s0_3.2.2.2.2.2.1, s0_3.2.2.2.2.2.2) ++ (cl_lod Y ald ld)) [0, 1, 2, 5, 6, 7, 8, 9, 10, 11, 12, 13, 14, 15, 16, 17, 18, 19, 20, 21, 22, 23, 24, 25] ⟨hx, hb, hml, hown, hts⟩ (ct_X1_set l D Y (act 3) (act 4) 80 3 240 s0_3.2.1 record (nI k3) (m_X1_get 81 3 243 ld.1 load (nI k3)) (by decide)) (cwV 3 hts gX0_layKeys_X1_set rfl rfl rfl (by decide +kernel) ⟨Nat.le_of_ble_eq_true rfl, Nat.le_of_ble_eq_true rfl⟩) hG hP hD hS [3, 4] rfl (by decide +kernel) ⟨rfl, ⟨[(act 0, .inr (0, [.ref (act 1), .ref (act 3), .ref (act 5), .ref (act 7), .ref (act 9), .ref (act 11), .ref (act 13)])), (act 1, .inr (4, [.ref (act 2)])), (act 2, .inl (Y.1, 80, .inl s0_3.1)), (act 5, .inr (1, [.int 80, .int 4, .ref (act 6)])), (act 6, .inl (Y.1, 320, .inl s0_3.2.2.1)), (act 7, .inr (1, [.int 80, .int 4, .ref (act 8)])), (act 8, .inl (Y.1, 320, .inl s0_3.2.2.2.1)), (act 9, .inr (1, [.int 80, .int 4, .ref (act 10)])), (act 10, .inl (Y.1, 320, .inl s0_3.2.2.2.2.1)), (act 11, .inr (4, [.ref (act 12)])), (act 12, .inl (Y.1, 80, .inl s0_3.2.2.2.2.2.1)), (act 13, .inr (4, [.ref (act 14)])), (act 14, .inl (Y.1, 80, .inl s0_3.2.2.2.2.2.2)), (ald 0, .inr (3, [.ref (ald 1), .ref (ald 3), .ref (ald 5), .ref (ald 7), .ref (ald 9), .int ld.2.2.2.2.2.1, .int ld.2.2.2.2.2.2])), (ald 1, .inr (1, [.int 81, .int 3, .ref (ald 2)])), (ald 2, .inl (Y.1, 243, .inl ld.1)), (ald 3, .inr (1, [.int 81, .int 4, .ref (ald 4)])), (ald 4, .inl (Y.1, 324, .inl ld.2.1)), (ald 5, .inr (4, [.ref (ald 6)])), (ald 6, .inl (Y.1, 80, .inl ld.2.2.1)), (ald 7, .inr (4, [.ref (ald 8)])), (ald 8, .inl (Y.1, 80, .inl ld.2.2.2.1)), (ald 9, .inr (4, [.ref (ald 10)])), (ald 10, .inl (Y.1, 10, .inl ld.2.2.2.2.1))], rfl, rfl⟩, 26, rfl, by decide +kernel⟩ ⟨[act 3, act 4], rfl, rfl⟩ 3 1 (qc := (RX1, TX1, 3)) (fs := [.int 80, .int 3, .ref (act 4)]) rfl rfl rfl rfl hl.1 rfl (Nat.le_of_ble_eq_true rfl) dX0_layKeys_40 ⟨Nat.zero_le _, Nat.zero_le _⟩ (fun H locs hP hD hS => ?_)
          change W _ _ _ _ _ _ _ _ _ _ _ _ _ _ _ (F0 m 43 _ [])
          refine lv_iinc (v := nI (k3 + 1)) (lv' := [(4, .int (nI (k3 + 1))), (0, .ref (act 0)), (1, .ref (ald 0)), (2, .int load), (3, .int record)]) hx hb dX0_layKeys_43 hl (k := 0) rfl (nI_1 k3) (by decide) rfl (fun ls hl => ?_)
          refine lv_goto (tgt := 3) hx hb dX0_layKeys_46 (by decide) ?_
          exact ih3 (k3 + 1) (s0_3.1, m_X1_set 80 3 240 s0_3.2.1 record (nI k3) (m_X1_get 81 3 243 ld.1 load (nI k3)), s0_3.2.2.1, s0_3.2.2.2.1, s0_3.2.2.2.2.1, s0_3.2.2.2.2.2.1, s0_3.2.2.2.2.2.2) _ _ _ (by omega) (Eq.trans (by simp only [m_X0_layKeys_lp3, eq_true c_4, ↓reduceIte, if_true, if_false]) hres3) hP hD hS (lv_sub hl [0, 1, 2, 3, 4] rfl)
  exact lp3 3 0 ct _ _ _ (Nat.zero_add _) efin_1.symm hP hD hS (lv_sub hl [0, 1, 2, 3, 4] rfl)

def m_X0_values_lp33 (ct : CatS) (record : Int32) (fin_1 : Int32) : Nat → Nat → Int32 → Int32
  | 0, k33, x2_33 => x2_33
  | n33 + 1, k33, x2_33 => (let x_6 := x2_33 + (jmax 0 (m_X1_get 80 4 320 ct.2.2.1 record (nI k33))); m_X0_values_lp33 ct record fin_1 n33 (k33 + 1) x_6)
def m_X0_values_lp4 (ct : CatS) (record : Int32) : Nat → Nat → Int32 → Int32
  | 0, k4, x2_4 => x2_4
  | n4 + 1, k4, x2_4 => (let x_8 := x2_4 + (jmax 0 (m_X1_get 80 3 240 ct.2.1 record (nI k4))); m_X0_values_lp4 ct record n4 (k4 + 1) x_8)
def m_X0_values (ct : CatS) (record : Int32) : Int32 := (let fin_1 := m_X0_values_lp4 ct record 3 0 0; (let fin_3 := m_X0_values_lp33 ct record fin_1 4 0 fin_1; fin_3))
set_option maxHeartbeats 4000000 in
set_option maxRecDepth 100000 in
theorem ct_X0_values (l : Launch) (D : va_G) (Y : cq_Y) (act : Nat → Nat) (ct : CatS) (record : Int32) : cq_MR l yX0_values wsX0_values (cq_rm 1 23) D Y (cl_cat Y act ct) [.ref (act 0), .int record] (some (.int (m_X0_values ct record))) := by
  refine cq_body (cc := cX0_values) (maxL := 4) (ret := (some .int)) (by decide) rfl (Nat.le_of_ble_eq_true rfl) ?_
  intro p e s m below meth c hE hP hG hD ls hl
  obtain ⟨hx, hb, hr, hml, hts, hown, hnm, hlocks⟩ := hE
  have hown : s.vm.findClass RX0 = some m.cls := hown
  have hl : lv_has ls 4 [(0, .ref (act 0)), (1, .int record)] := hl
  refine lv_iconst (v := 0) hx hb dX0_values_0 (by decide) ?_
  refine lv_istore_n (lv' := [(2, .int 0), (0, .ref (act 0)), (1, .int record)]) hx hb dX0_values_1 rfl hl (by decide) rfl (fun ls hl => ?_)
  refine lv_iconst (v := 0) hx hb dX0_values_2 (by decide) ?_
  refine lv_istore_n (lv' := [(3, .int 0), (2, .int 0), (0, .ref (act 0)), (1, .int record)]) hx hb dX0_values_3 rfl hl (by decide) rfl (fun ls hl => ?_)
  obtain ⟨fin_1, efin_1⟩ : ∃ z, z = m_X0_values_lp4 ct record 3 0 0 := ⟨_, rfl⟩
  have lp4 : ∀ (n4 k4 : Nat) (x2_4 : Int32) (ls : Array Slot), k4 + n4 = 3 → m_X0_values_lp4 ct record n4 k4 x2_4 = fin_1 → lv_has ls 4 [(3, .int (nI k4)), (2, .int x2_4), (0, .ref (act 0)), (1, .int record)] → W p l e (cq_rm 1 23) s m ([.ref (act 0), .int record] : List Value).toArray below meth c s.heap [] 0 0 (MQ below (cq_R (some (.int (m_X0_values ct record)))) ([.ref (act 0), .int record] : List Value).toArray s 0 0 (fun _ => False)) (F0 m 4 ls []) := by
    intro n4; induction n4 with
    | zero =>
      intro k4 x2_4 ls hkn hres4 hl
      have hz : 3 ≤ nI k4 := cq_z (N := 3) rfl (by omega) (by omega)
      have e9 : fin_1 = x2_4 := hres4.symm
      subst e9
      refine lv_iload_n hx hb dX0_values_4 rfl (lv_at hl 0 rfl) ?_
      refine lv_iconst (v := 3) hx hb dX0_values_5 (by decide) ?_
      refine lv_icmp_ge (tgt := 31) hx hb dX0_values_6 (by decide) (fun c_2 => ?_) (fun c_2 => ?_)
      · refine lv_iconst (v := 0) hx hb dX0_values_31 (by decide) ?_
        refine lv_istore_n (lv' := [(3, .int 0), (2, .int fin_1), (0, .ref (act 0)), (1, .int record)]) hx hb dX0_values_32 rfl hl (by decide) rfl (fun ls hl => ?_)
        obtain ⟨fin_3, efin_3⟩ : ∃ z, z = m_X0_values_lp33 ct record fin_1 4 0 fin_1 := ⟨_, rfl⟩
        have lp33 : ∀ (n33 k33 : Nat) (x2_33 : Int32) (ls : Array Slot), k33 + n33 = 4 → m_X0_values_lp33 ct record fin_1 n33 k33 x2_33 = fin_3 → lv_has ls 4 [(3, .int (nI k33)), (2, .int x2_33), (0, .ref (act 0)), (1, .int record)] → W p l e (cq_rm 1 23) s m ([.ref (act 0), .int record] : List Value).toArray below meth c s.heap [] 0 0 (MQ below (cq_R (some (.int (m_X0_values ct record)))) ([.ref (act 0), .int record] : List Value).toArray s 0 0 (fun _ => False)) (F0 m 33 ls []) := by
          intro n33; induction n33 with
          | zero =>
            intro k33 x2_33 ls hkn hres33 hl
            have hz : 4 ≤ nI k33 := cq_z (N := 4) rfl (by omega) (by omega)
            have e9 : fin_3 = x2_33 := hres33.symm
            subst e9
            refine lv_iload_n hx hb dX0_values_33 rfl (lv_at hl 0 rfl) ?_
            refine lv_iconst (v := 4) hx hb dX0_values_34 (by decide) ?_
            refine lv_icmp_ge (tgt := 60) hx hb dX0_values_35 (by decide) (fun c_4 => ?_) (fun c_4 => ?_)
            · refine lv_iload_n hx hb dX0_values_60 rfl (lv_at hl 1 rfl) ?_
              exact cq_rI hx hb hr hlocks (vp_nar_int _) (by subst efin_3; subst efin_1; simp only [m_X0_values, ↓reduceIte, if_true, if_false]) dX0_values_61
            · exact absurd hz c_4
          | succ n33 ih33 =>
            intro k33 x2_33 ls hkn hres33 hl
            have hz : ¬ (4 ≤ nI k33) := cq_s (N := 4) rfl (by omega) (by omega)
            refine lv_iload_n hx hb dX0_values_33 rfl (lv_at hl 0 rfl) ?_
            refine lv_iconst (v := 4) hx hb dX0_values_34 (by decide) ?_
            refine lv_icmp_ge (tgt := 60) hx hb dX0_values_35 (by decide) (fun c_5 => ?_) (fun c_5 => ?_)
            · exact absurd c_5 hz
            · refine lv_iload_n hx hb dX0_values_38 rfl (lv_at hl 1 rfl) ?_
              refine lv_iconst (v := 0) hx hb dX0_values_39 (by decide) ?_
              refine lv_aload_n hx hb dX0_values_40 rfl (lv_at hl 2 rfl) ?_
              refine va_get (D := D) (ci := 0) (v := .ref (act 5)) (C := RX0) (T := TX0) (N := 7) hx hb hts (fun _ h => List.mem_cons_of_mem _ (List.mem_append_left _ (List.mem_append_right _ h))) hown hG.1 hP 0 rfl rfl 2 (by decide) (hts (.fieldLink RX0 29 "CatalogueLoader$Catalogue" "fields" "LCatalogueLoader$Grid;") (List.mem_of_getElem? (i := 6) rfl)) (fun _ h9 => h9) rfl dX0_values_41 ?_
              refine lv_iload_n hx hb dX0_values_44 rfl (lv_at hl 3 rfl) ?_
              refine lv_iload_n hx hb dX0_values_45 rfl (lv_at hl 0 rfl) ?_
              refine cq_RV (R := (cq_rm 1 23)) (args := ([.ref (act 0), .int record] : List Value).toArray) (y := yX1_get) (bytes := cX1_get) (cc := cX0_values) (maxL := 4) (nL := 4) (n := 2) (index := 83) (ret := (some .int)) (ws := wsX1_get) (rm := cq_rm 0 0) (Ts := wsX0_values) (own := RX0) (D := D) (Y := Y) (W0 := cl_grd Y (act 5) (act 6) 80 4 320 ct.2.2.1) (wl := cl_cat Y act ct) (v := some (.int (m_X1_get 80 4 320 ct.2.2.1 record (nI k33)))) (st0 := [.int (nI k33), .int record, .ref (act 5), .int 0, .int x2_33]) (As := [.int record, .int (nI k33)]) (rest := [.int 0, .int x2_33]) (C := RX1) (b := act 5) ⟨hx, hb, hml, hown, hts⟩ (ct_X1_get l D Y (act 5) (act 6) 80 4 320 ct.2.2.1 record (nI k33) (by decide)) (cwV 2 hts gX0_values_X1_get rfl rfl rfl (by decide +kernel) ⟨Nat.le_of_ble_eq_true rfl, Nat.le_of_ble_eq_true rfl⟩) hG hP hD [5, 6] rfl (by decide +kernel) 5 1 (qc := (RX1, TX1, 3)) (fs := [.int 80, .int 4, .ref (act 6)]) rfl rfl rfl rfl hl.1 rfl (Nat.le_of_ble_eq_true rfl) dX0_values_46 ⟨Nat.zero_le _, Nat.zero_le _⟩ ?_
              change W _ _ _ _ _ _ _ _ _ _ _ _ _ _ _ (F0 m 49 _ (.int (m_X1_get 80 4 320 ct.2.2.1 record (nI k33)) :: [.int 0, .int x2_33]))
              refine va_mmax (R := (cq_rm 1 23)) hx hb (by rw [hml]; exact hl.1.symm) hown (hts (.methodLink RX0 104 Lib.Math.max.name) (List.mem_of_getElem? (i := 2) rfl)) (hts _ (List.mem_of_getElem? (i := 3) rfl)) (hts _ (List.mem_of_getElem? (i := 4) rfl)) (hts _ (List.mem_of_getElem? (i := 5) rfl)) (Nat.le_of_ble_eq_true rfl) (Nat.le_of_ble_eq_true rfl) (Nat.zero_le _) (Nat.zero_le _) dX0_values_49 ?_
              change W _ _ _ _ _ _ _ _ _ _ _ _ _ _ _ (F0 m 52 _ (.int (jmax 0 (m_X1_get 80 4 320 ct.2.2.1 record (nI k33))) :: _))
              refine lv_iadd hx hb dX0_values_52 ?_
              refine lv_topi (fun x_6 ex_6 => ?_)
              refine lv_istore_n (lv' := [(2, .int x_6), (3, .int (nI k33)), (0, .ref (act 0)), (1, .int record)]) hx hb dX0_values_53 rfl hl (by decide) rfl (fun ls hl => ?_)
              refine lv_iinc (v := nI (k33 + 1)) (lv' := [(3, .int (nI (k33 + 1))), (2, .int x_6), (0, .ref (act 0)), (1, .int record)]) hx hb dX0_values_54 hl (k := 1) rfl (nI_1 k33) (by decide) rfl (fun ls hl => ?_)
              refine lv_goto (tgt := 33) hx hb dX0_values_57 (by decide) ?_
              exact ih33 (k33 + 1) x_6 _ (by omega) (Eq.trans (by subst ex_6; subst efin_1; simp only [m_X0_values_lp33, ↓reduceIte, if_true, if_false]) hres33) (lv_sub hl [0, 1, 2, 3] rfl)
        exact lp33 4 0 fin_1 _ (Nat.zero_add _) efin_3.symm (lv_sub hl [0, 1, 2, 3] rfl)
      · exact absurd hz c_2
    | succ n4 ih4 =>
      intro k4 x2_4 ls hkn hres4 hl
      have hz : ¬ (3 ≤ nI k4) := cq_s (N := 3) rfl (by omega) (by omega)
      refine lv_iload_n hx hb dX0_values_4 rfl (lv_at hl 0 rfl) ?_
      refine lv_iconst (v := 3) hx hb dX0_values_5 (by decide) ?_
      refine lv_icmp_ge (tgt := 31) hx hb dX0_values_6 (by decide) (fun c_7 => ?_) (fun c_7 => ?_)
      · exact absurd c_7 hz
      · refine lv_iload_n hx hb dX0_values_9 rfl (lv_at hl 1 rfl) ?_
        refine lv_iconst (v := 0) hx hb dX0_values_10 (by decide) ?_
        refine lv_aload_n hx hb dX0_values_11 rfl (lv_at hl 2 rfl) ?_
        refine va_get (D := D) (ci := 0) (v := .ref (act 3)) (C := RX0) (T := TX0) (N := 7) hx hb hts (fun _ h => List.mem_cons_of_mem _ (List.mem_append_left _ (List.mem_append_right _ h))) hown hG.1 hP 0 rfl rfl 1 (by decide) (hts (.fieldLink RX0 25 "CatalogueLoader$Catalogue" "keys" "LCatalogueLoader$Grid;") (List.mem_of_getElem? (i := 1) rfl)) (fun _ h9 => h9) rfl dX0_values_12 ?_
        refine lv_iload_n hx hb dX0_values_15 rfl (lv_at hl 3 rfl) ?_
        refine lv_iload_n hx hb dX0_values_16 rfl (lv_at hl 0 rfl) ?_
        refine cq_RV (R := (cq_rm 1 23)) (args := ([.ref (act 0), .int record] : List Value).toArray) (y := yX1_get) (bytes := cX1_get) (cc := cX0_values) (maxL := 4) (nL := 4) (n := 2) (index := 83) (ret := (some .int)) (ws := wsX1_get) (rm := cq_rm 0 0) (Ts := wsX0_values) (own := RX0) (D := D) (Y := Y) (W0 := cl_grd Y (act 3) (act 4) 80 3 240 ct.2.1) (wl := cl_cat Y act ct) (v := some (.int (m_X1_get 80 3 240 ct.2.1 record (nI k4)))) (st0 := [.int (nI k4), .int record, .ref (act 3), .int 0, .int x2_4]) (As := [.int record, .int (nI k4)]) (rest := [.int 0, .int x2_4]) (C := RX1) (b := act 3) ⟨hx, hb, hml, hown, hts⟩ (ct_X1_get l D Y (act 3) (act 4) 80 3 240 ct.2.1 record (nI k4) (by decide)) (cwV 2 hts gX0_values_X1_get rfl rfl rfl (by decide +kernel) ⟨Nat.le_of_ble_eq_true rfl, Nat.le_of_ble_eq_true rfl⟩) hG hP hD [3, 4] rfl (by decide +kernel) 3 1 (qc := (RX1, TX1, 3)) (fs := [.int 80, .int 3, .ref (act 4)]) rfl rfl rfl rfl hl.1 rfl (Nat.le_of_ble_eq_true rfl) dX0_values_17 ⟨Nat.zero_le _, Nat.zero_le _⟩ ?_
        change W _ _ _ _ _ _ _ _ _ _ _ _ _ _ _ (F0 m 20 _ (.int (m_X1_get 80 3 240 ct.2.1 record (nI k4)) :: [.int 0, .int x2_4]))
        refine va_mmax (R := (cq_rm 1 23)) hx hb (by rw [hml]; exact hl.1.symm) hown (hts (.methodLink RX0 104 Lib.Math.max.name) (List.mem_of_getElem? (i := 2) rfl)) (hts _ (List.mem_of_getElem? (i := 3) rfl)) (hts _ (List.mem_of_getElem? (i := 4) rfl)) (hts _ (List.mem_of_getElem? (i := 5) rfl)) (Nat.le_of_ble_eq_true rfl) (Nat.le_of_ble_eq_true rfl) (Nat.zero_le _) (Nat.zero_le _) dX0_values_20 ?_
        change W _ _ _ _ _ _ _ _ _ _ _ _ _ _ _ (F0 m 23 _ (.int (jmax 0 (m_X1_get 80 3 240 ct.2.1 record (nI k4))) :: _))
        refine lv_iadd hx hb dX0_values_23 ?_
        refine lv_topi (fun x_8 ex_8 => ?_)
        refine lv_istore_n (lv' := [(2, .int x_8), (3, .int (nI k4)), (0, .ref (act 0)), (1, .int record)]) hx hb dX0_values_24 rfl hl (by decide) rfl (fun ls hl => ?_)
        refine lv_iinc (v := nI (k4 + 1)) (lv' := [(3, .int (nI (k4 + 1))), (2, .int x_8), (0, .ref (act 0)), (1, .int record)]) hx hb dX0_values_25 hl (k := 1) rfl (nI_1 k4) (by decide) rfl (fun ls hl => ?_)
        refine lv_goto (tgt := 4) hx hb dX0_values_28 (by decide) ?_
        exact ih4 (k4 + 1) x_8 _ (by omega) (Eq.trans (by subst ex_8; simp only [m_X0_values_lp4, ↓reduceIte, if_true, if_false]) hres4) (lv_sub hl [0, 1, 2, 3] rfl)
  exact lp4 3 0 0 _ (Nat.zero_add _) efin_1.symm (lv_sub hl [0, 1, 2, 3] rfl)

def m_X0_sum_lp4 (ct : CatS) : Nat → Nat → Int32 → Int32
  | 0, k4, x1_4 => x1_4
  | n4 + 1, k4, x1_4 => (if m_X0_has ct (nI k4) = 0 then m_X0_sum_lp4 ct n4 (k4 + 1) x1_4 else (let x_5 := x1_4 + (((1 + (nI k4)) * (m_X0_values ct (nI k4))) + (m_X4_get 80 ct.2.2.2.2.2.1 (nI k4))); m_X0_sum_lp4 ct n4 (k4 + 1) x_5))
def m_X0_sum (ct : CatS) : Int32 := (let fin_1 := m_X0_sum_lp4 ct 80 0 0; fin_1)
set_option maxHeartbeats 4000000 in
set_option maxRecDepth 100000 in
theorem ct_X0_sum (l : Launch) (D : va_G) (Y : cq_Y) (act : Nat → Nat) (ct : CatS) : cq_MR l yX0_sum wsX0_sum (cq_rm 2 46) D Y (cl_cat Y act ct) [.ref (act 0)] (some (.int (m_X0_sum ct))) := by
  refine cq_body (cc := cX0_sum) (maxL := 3) (ret := (some .int)) (by decide) rfl (Nat.le_of_ble_eq_true rfl) ?_
  intro p e s m below meth c hE hP hG hD ls hl
  obtain ⟨hx, hb, hr, hml, hts, hown, hnm, hlocks⟩ := hE
  have hown : s.vm.findClass RX0 = some m.cls := hown
  have hl : lv_has ls 3 [(0, .ref (act 0))] := hl
  refine lv_iconst (v := 0) hx hb dX0_sum_0 (by decide) ?_
  refine lv_istore_n (lv' := [(1, .int 0), (0, .ref (act 0))]) hx hb dX0_sum_1 rfl hl (by decide) rfl (fun ls hl => ?_)
  refine lv_iconst (v := 0) hx hb dX0_sum_2 (by decide) ?_
  refine lv_istore_n (lv' := [(2, .int 0), (1, .int 0), (0, .ref (act 0))]) hx hb dX0_sum_3 rfl hl (by decide) rfl (fun ls hl => ?_)
  obtain ⟨fin_1, efin_1⟩ : ∃ z, z = m_X0_sum_lp4 ct 80 0 0 := ⟨_, rfl⟩
  have lp4 : ∀ (n4 k4 : Nat) (x1_4 : Int32) (ls : Array Slot), k4 + n4 = 80 → m_X0_sum_lp4 ct n4 k4 x1_4 = fin_1 → lv_has ls 3 [(2, .int (nI k4)), (1, .int x1_4), (0, .ref (act 0))] → W p l e (cq_rm 2 46) s m ([.ref (act 0)] : List Value).toArray below meth c s.heap [] 0 0 (MQ below (cq_R (some (.int (m_X0_sum ct)))) ([.ref (act 0)] : List Value).toArray s 0 0 (fun _ => False)) (F0 m 4 ls []) := by
    intro n4; induction n4 with
    | zero =>
      intro k4 x1_4 ls hkn hres4 hl
      have hz : 80 ≤ nI k4 := cq_z (N := 80) rfl (by omega) (by omega)
      have e9 : fin_1 = x1_4 := hres4.symm
      subst e9
      refine lv_iload_n hx hb dX0_sum_4 rfl (lv_at hl 0 rfl) ?_
      refine lv_bipush (v := 80) hx hb dX0_sum_5 (by decide) ?_
      refine lv_icmp_ge (tgt := 45) hx hb dX0_sum_7 (by decide) (fun c_2 => ?_) (fun c_2 => ?_)
      · refine lv_iload_n hx hb dX0_sum_45 rfl (lv_at hl 1 rfl) ?_
        exact cq_rI hx hb hr hlocks (vp_nar_int _) (by subst efin_1; simp only [m_X0_sum, ↓reduceIte, if_true, if_false]) dX0_sum_46
      · exact absurd hz c_2
    | succ n4 ih4 =>
      intro k4 x1_4 ls hkn hres4 hl
      have hz : ¬ (80 ≤ nI k4) := cq_s (N := 80) rfl (by omega) (by omega)
      refine lv_iload_n hx hb dX0_sum_4 rfl (lv_at hl 0 rfl) ?_
      refine lv_bipush (v := 80) hx hb dX0_sum_5 (by decide) ?_
      refine lv_icmp_ge (tgt := 45) hx hb dX0_sum_7 (by decide) (fun c_3 => ?_) (fun c_3 => ?_)
      · exact absurd c_3 hz
      · refine lv_aload_n hx hb dX0_sum_10 rfl (lv_at hl 2 rfl) ?_
        refine lv_iload_n hx hb dX0_sum_11 rfl (lv_at hl 0 rfl) ?_
        refine cq_RV (R := (cq_rm 2 46)) (args := ([.ref (act 0)] : List Value).toArray) (y := yX0_has) (bytes := cX0_has) (cc := cX0_sum) (maxL := 2) (nL := 3) (n := 1) (index := 53) (ret := (some .boolean)) (ws := wsX0_has) (rm := cq_rm 1 21) (Ts := wsX0_sum) (own := RX0) (D := D) (Y := Y) (W0 := cl_cat Y act ct) (wl := cl_cat Y act ct) (v := some (.int (m_X0_has ct (nI k4)))) (st0 := [.int (nI k4), .ref (act 0)]) (As := [.int (nI k4)]) (rest := []) (C := RX0) (b := act 0) ⟨hx, hb, hml, hown, hts⟩ (ct_X0_has l D Y act ct (nI k4)) (cwV 1 hts gX0_sum_X0_has rfl rfl rfl (by decide +kernel) ⟨Nat.le_of_ble_eq_true rfl, Nat.le_of_ble_eq_true rfl⟩) hG hP hD [0, 1, 2, 3, 4, 5, 6, 7, 8, 9, 10, 11, 12, 13, 14] rfl (by decide +kernel) 0 0 (qc := (RX0, TX0, 7)) (fs := [.ref (act 1), .ref (act 3), .ref (act 5), .ref (act 7), .ref (act 9), .ref (act 11), .ref (act 13)]) rfl rfl rfl rfl hl.1 rfl (Nat.le_of_ble_eq_true rfl) dX0_sum_12 ⟨Nat.zero_le _, Nat.zero_le _⟩ ?_
        change W _ _ _ _ _ _ _ _ _ _ _ _ _ _ _ (F0 m 15 _ (.int (m_X0_has ct (nI k4)) :: []))
        refine lv_if_eq (tgt := 39) hx hb dX0_sum_15 (by decide) (fun c_4 => ?_) (fun c_4 => ?_)
        · refine lv_iinc (v := nI (k4 + 1)) (lv' := [(2, .int (nI (k4 + 1))), (1, .int x1_4), (0, .ref (act 0))]) hx hb dX0_sum_39 hl (k := 0) rfl (nI_1 k4) (by decide) rfl (fun ls hl => ?_)
          refine lv_goto (tgt := 4) hx hb dX0_sum_42 (by decide) ?_
          exact ih4 (k4 + 1) x1_4 _ (by omega) (Eq.trans (by simp only [m_X0_sum_lp4, eq_true c_4, ↓reduceIte, if_true, if_false]) hres4) (lv_sub hl [0, 1, 2] rfl)
        · refine lv_iload_n hx hb dX0_sum_18 rfl (lv_at hl 1 rfl) ?_
          refine lv_iconst (v := 1) hx hb dX0_sum_19 (by decide) ?_
          refine lv_iload_n hx hb dX0_sum_20 rfl (lv_at hl 0 rfl) ?_
          refine lv_iadd hx hb dX0_sum_21 ?_
          refine lv_aload_n hx hb dX0_sum_22 rfl (lv_at hl 2 rfl) ?_
          refine lv_iload_n hx hb dX0_sum_23 rfl (lv_at hl 0 rfl) ?_
          refine cq_RV (R := (cq_rm 2 46)) (args := ([.ref (act 0)] : List Value).toArray) (y := yX0_values) (bytes := cX0_values) (cc := cX0_sum) (maxL := 4) (nL := 3) (n := 1) (index := 101) (ret := (some .int)) (ws := wsX0_values) (rm := cq_rm 1 23) (Ts := wsX0_sum) (own := RX0) (D := D) (Y := Y) (W0 := cl_cat Y act ct) (wl := cl_cat Y act ct) (v := some (.int (m_X0_values ct (nI k4)))) (st0 := [.int (nI k4), .ref (act 0), .int (1 + (nI k4)), .int x1_4]) (As := [.int (nI k4)]) (rest := [.int (1 + (nI k4)), .int x1_4]) (C := RX0) (b := act 0) ⟨hx, hb, hml, hown, hts⟩ (ct_X0_values l D Y act ct (nI k4)) (cwV 1 hts gX0_sum_X0_values rfl rfl rfl (by decide +kernel) ⟨Nat.le_of_ble_eq_true rfl, Nat.le_of_ble_eq_true rfl⟩) hG hP hD [0, 1, 2, 3, 4, 5, 6, 7, 8, 9, 10, 11, 12, 13, 14] rfl (by decide +kernel) 0 0 (qc := (RX0, TX0, 7)) (fs := [.ref (act 1), .ref (act 3), .ref (act 5), .ref (act 7), .ref (act 9), .ref (act 11), .ref (act 13)]) rfl rfl rfl rfl hl.1 rfl (Nat.le_of_ble_eq_true rfl) dX0_sum_24 ⟨Nat.zero_le _, Nat.zero_le _⟩ ?_
          change W _ _ _ _ _ _ _ _ _ _ _ _ _ _ _ (F0 m 27 _ (.int (m_X0_values ct (nI k4)) :: [.int (1 + (nI k4)), .int x1_4]))
          refine lv_imul hx hb dX0_sum_27 ?_
          refine lv_aload_n hx hb dX0_sum_28 rfl (lv_at hl 2 rfl) ?_
          refine va_get (D := D) (ci := 0) (v := .ref (act 11)) (C := RX0) (T := TX0) (N := 7) hx hb hts (fun _ h => List.mem_cons_of_mem _ (List.mem_append_left _ (List.mem_append_left _ (List.mem_append_right _ h)))) hown hG.1 hP 0 rfl rfl 5 (by decide) (hts (.fieldLink RX0 38 "CatalogueLoader$Catalogue" "held" "LCatalogueLoader$Row;") (List.mem_of_getElem? (i := 1) rfl)) (fun _ h9 => h9) rfl dX0_sum_29 ?_
          refine lv_iload_n hx hb dX0_sum_32 rfl (lv_at hl 0 rfl) ?_
          refine cq_RV (R := (cq_rm 2 46)) (args := ([.ref (act 0)] : List Value).toArray) (y := yX4_get) (bytes := cX4_get) (cc := cX0_sum) (maxL := 2) (nL := 3) (n := 1) (index := 49) (ret := (some .int)) (ws := wsX4_get) (rm := cq_rm 0 0) (Ts := wsX0_sum) (own := RX0) (D := D) (Y := Y) (W0 := cl_row Y (act 11) (act 12) 80 ct.2.2.2.2.2.1) (wl := cl_cat Y act ct) (v := some (.int (m_X4_get 80 ct.2.2.2.2.2.1 (nI k4)))) (st0 := [.int (nI k4), .ref (act 11), .int ((1 + (nI k4)) * (m_X0_values ct (nI k4))), .int x1_4]) (As := [.int (nI k4)]) (rest := [.int ((1 + (nI k4)) * (m_X0_values ct (nI k4))), .int x1_4]) (C := RX4) (b := act 11) ⟨hx, hb, hml, hown, hts⟩ (ct_X4_get l D Y (act 11) (act 12) 80 ct.2.2.2.2.2.1 (nI k4) (by decide)) (cwV 1 hts gX0_sum_X4_get rfl rfl rfl (by decide +kernel) ⟨Nat.le_of_ble_eq_true rfl, Nat.le_of_ble_eq_true rfl⟩) hG hP hD [11, 12] rfl (by decide +kernel) 11 4 (qc := (RX4, TX4, 1)) (fs := [.ref (act 12)]) rfl rfl rfl rfl hl.1 rfl (Nat.le_of_ble_eq_true rfl) dX0_sum_33 ⟨Nat.zero_le _, Nat.zero_le _⟩ ?_
          change W _ _ _ _ _ _ _ _ _ _ _ _ _ _ _ (F0 m 36 _ (.int (m_X4_get 80 ct.2.2.2.2.2.1 (nI k4)) :: [.int ((1 + (nI k4)) * (m_X0_values ct (nI k4))), .int x1_4]))
          refine lv_iadd hx hb dX0_sum_36 ?_
          refine lv_iadd hx hb dX0_sum_37 ?_
          refine lv_topi (fun x_5 ex_5 => ?_)
          refine lv_istore_n (lv' := [(1, .int x_5), (2, .int (nI k4)), (0, .ref (act 0))]) hx hb dX0_sum_38 rfl hl (by decide) rfl (fun ls hl => ?_)
          refine lv_iinc (v := nI (k4 + 1)) (lv' := [(2, .int (nI (k4 + 1))), (1, .int x_5), (0, .ref (act 0))]) hx hb dX0_sum_39 hl (k := 1) rfl (nI_1 k4) (by decide) rfl (fun ls hl => ?_)
          refine lv_goto (tgt := 4) hx hb dX0_sum_42 (by decide) ?_
          exact ih4 (k4 + 1) x_5 _ (by omega) (Eq.trans (by subst ex_5; simp only [m_X0_sum_lp4, eq_false c_4, ↓reduceIte, if_true, if_false]) hres4) (lv_sub hl [0, 1, 2] rfl)
  exact lp4 80 0 0 _ (Nat.zero_add _) efin_1.symm (lv_sub hl [0, 1, 2] rfl)

def m_X0_clear (ct : CatS) : CatS := (m_X4_fill 80 ct.1 0, m_X1_fill 80 3 240 ct.2.1 (-1), m_X1_fill 80 4 320 ct.2.2.1 (-1), m_X1_fill 80 4 320 ct.2.2.2.1 (-1), m_X1_fill 80 4 320 ct.2.2.2.2.1 0, m_X4_fill 80 ct.2.2.2.2.2.1 0, m_X4_fill 80 ct.2.2.2.2.2.2 (-1))
set_option maxHeartbeats 4000000 in
set_option maxRecDepth 100000 in
theorem ct_X0_clear (l : Launch) (D : va_G) (Y : cq_Y) (act : Nat → Nat) (ct : CatS) : cq_MW l yX0_clear wsX0_clear (cq_rm 2 44) D Y (cl_cat Y act ct) [.ref (act 0)] (none) (cl_cat Y act (m_X0_clear ct)) := by
  refine cq_body (cc := cX0_clear) (maxL := 1) (ret := none) (by decide) rfl (Nat.le_of_ble_eq_true rfl) ?_
  intro p e s m below meth c hE hP hG hD ls hl
  obtain ⟨hx, hb, hr, hml, hts, hown, hnm, hlocks⟩ := hE
  have hown : s.vm.findClass RX0 = some m.cls := hown
  have hS : va_S (cq_in (cl_cat Y act ct)) s.heap s.heap [] := va_S.rf
  have hl : lv_has ls 1 [(0, .ref (act 0))] := hl
  refine lv_aload_n hx hb dX0_clear_0 rfl (lv_at hl 0 rfl) ?_
  refine va_get (D := D) (ci := 0) (v := .ref (act 1)) (C := RX0) (T := TX0) (N := 7) hx hb hts (fun _ h => List.mem_cons_of_mem _ (List.mem_append_left _ (List.mem_append_left _ (List.mem_append_right _ h)))) hown hG.1 hP 0 rfl rfl 0 (by decide) (hts (.fieldLink RX0 14 "CatalogueLoader$Catalogue" "there" "LCatalogueLoader$Row;") (List.mem_of_getElem? (i := 1) rfl)) (fun _ h9 => h9) rfl dX0_clear_1 ?_
  refine lv_iconst (v := 0) hx hb dX0_clear_4 (by decide) ?_
  refine cq_WV (R := (cq_rm 2 44)) (args := ([.ref (act 0)] : List Value).toArray) (y := yX4_fill) (bytes := cX4_fill) (cc := cX0_clear) (maxL := 2) (nL := 1) (n := 1) (index := 44) (ret := none) (ws := wsX4_fill) (rm := cq_rm 1 23) (Ts := wsX0_clear) (own := RX0) (D := D) (Y := Y) (W0 := cl_row Y (act 1) (act 2) 80 ct.1) (wl := cl_cat Y act ct) (v := none) (st0 := [.int 0, .ref (act 1)]) (As := [.int 0]) (rest := []) (W1 := cl_row Y (act 1) (act 2) 80 (m_X4_fill 80 ct.1 0)) (C := RX4) (b := act 1) (cl_cat Y act (m_X4_fill 80 ct.1 0, ct.2.1, ct.2.2.1, ct.2.2.2.1, ct.2.2.2.2.1, ct.2.2.2.2.2.1, ct.2.2.2.2.2.2)) [0, 3, 4, 5, 6, 7, 8, 9, 10, 11, 12, 13, 14] ⟨hx, hb, hml, hown, hts⟩ (ct_X4_fill l D Y (act 1) (act 2) 80 ct.1 0 (by decide)) (cwV 1 hts gX0_clear_X4_fill rfl rfl rfl (by decide +kernel) ⟨Nat.le_of_ble_eq_true rfl, Nat.le_of_ble_eq_true rfl⟩) hG hP hD hS [1, 2] rfl (by decide +kernel) ⟨rfl, ⟨[(act 0, .inr (0, [.ref (act 1), .ref (act 3), .ref (act 5), .ref (act 7), .ref (act 9), .ref (act 11), .ref (act 13)])), (act 3, .inr (1, [.int 80, .int 3, .ref (act 4)])), (act 4, .inl (Y.1, 240, .inl ct.2.1)), (act 5, .inr (1, [.int 80, .int 4, .ref (act 6)])), (act 6, .inl (Y.1, 320, .inl ct.2.2.1)), (act 7, .inr (1, [.int 80, .int 4, .ref (act 8)])), (act 8, .inl (Y.1, 320, .inl ct.2.2.2.1)), (act 9, .inr (1, [.int 80, .int 4, .ref (act 10)])), (act 10, .inl (Y.1, 320, .inl ct.2.2.2.2.1)), (act 11, .inr (4, [.ref (act 12)])), (act 12, .inl (Y.1, 80, .inl ct.2.2.2.2.2.1)), (act 13, .inr (4, [.ref (act 14)])), (act 14, .inl (Y.1, 80, .inl ct.2.2.2.2.2.2))], rfl, rfl⟩, 15, rfl, by decide +kernel⟩ ⟨[act 1, act 2], rfl, rfl⟩ 1 4 (qc := (RX4, TX4, 1)) (fs := [.ref (act 2)]) rfl rfl rfl rfl hl.1 rfl (Nat.le_of_ble_eq_true rfl) dX0_clear_5 ⟨Nat.zero_le _, Nat.zero_le _⟩ (fun H locs hP hD hS => ?_)
  change W _ _ _ _ _ _ _ _ _ _ _ _ _ _ _ (F0 m 8 _ [])
  refine lv_aload_n hx hb dX0_clear_8 rfl (lv_at hl 0 rfl) ?_
  refine va_get (D := D) (ci := 0) (v := .ref (act 3)) (C := RX0) (T := TX0) (N := 7) hx hb hts (fun _ h => List.mem_cons_of_mem _ (List.mem_append_left _ (List.mem_append_left _ (List.mem_append_right _ h)))) hown hG.1 hP 0 rfl rfl 1 (by decide) (hts (.fieldLink RX0 25 "CatalogueLoader$Catalogue" "keys" "LCatalogueLoader$Grid;") (List.mem_of_getElem? (i := 2) rfl)) (fun _ h9 => h9) rfl dX0_clear_9 ?_
  refine lv_iconst (v := (-1)) hx hb dX0_clear_12 (by decide) ?_
  refine cq_WV (R := (cq_rm 2 44)) (args := ([.ref (act 0)] : List Value).toArray) (y := yX1_fill) (bytes := cX1_fill) (cc := cX0_clear) (maxL := 2) (nL := 1) (n := 1) (index := 48) (ret := none) (ws := wsX1_fill) (rm := cq_rm 1 23) (Ts := wsX0_clear) (own := RX0) (D := D) (Y := Y) (W0 := cl_grd Y (act 3) (act 4) 80 3 240 ct.2.1) (wl := cl_cat Y act (m_X4_fill 80 ct.1 0, ct.2.1, ct.2.2.1, ct.2.2.2.1, ct.2.2.2.2.1, ct.2.2.2.2.2.1, ct.2.2.2.2.2.2)) (v := none) (st0 := [.int (-1), .ref (act 3)]) (As := [.int (-1)]) (rest := []) (W1 := cl_grd Y (act 3) (act 4) 80 3 240 (m_X1_fill 80 3 240 ct.2.1 (-1))) (C := RX1) (b := act 3) (cl_cat Y act (m_X4_fill 80 ct.1 0, m_X1_fill 80 3 240 ct.2.1 (-1), ct.2.2.1, ct.2.2.2.1, ct.2.2.2.2.1, ct.2.2.2.2.2.1, ct.2.2.2.2.2.2)) [0, 1, 2, 5, 6, 7, 8, 9, 10, 11, 12, 13, 14] ⟨hx, hb, hml, hown, hts⟩ (ct_X1_fill l D Y (act 3) (act 4) 80 3 240 ct.2.1 (-1) (by decide)) (cwV 1 hts gX0_clear_X1_fill rfl rfl rfl (by decide +kernel) ⟨Nat.le_of_ble_eq_true rfl, Nat.le_of_ble_eq_true rfl⟩) hG hP hD hS [3, 4] rfl (by decide +kernel) ⟨rfl, ⟨[(act 0, .inr (0, [.ref (act 1), .ref (act 3), .ref (act 5), .ref (act 7), .ref (act 9), .ref (act 11), .ref (act 13)])), (act 1, .inr (4, [.ref (act 2)])), (act 2, .inl (Y.1, 80, .inl (m_X4_fill 80 ct.1 0))), (act 5, .inr (1, [.int 80, .int 4, .ref (act 6)])), (act 6, .inl (Y.1, 320, .inl ct.2.2.1)), (act 7, .inr (1, [.int 80, .int 4, .ref (act 8)])), (act 8, .inl (Y.1, 320, .inl ct.2.2.2.1)), (act 9, .inr (1, [.int 80, .int 4, .ref (act 10)])), (act 10, .inl (Y.1, 320, .inl ct.2.2.2.2.1)), (act 11, .inr (4, [.ref (act 12)])), (act 12, .inl (Y.1, 80, .inl ct.2.2.2.2.2.1)), (act 13, .inr (4, [.ref (act 14)])), (act 14, .inl (Y.1, 80, .inl ct.2.2.2.2.2.2))], rfl, rfl⟩, 15, rfl, by decide +kernel⟩ ⟨[act 3, act 4], rfl, rfl⟩ 3 1 (qc := (RX1, TX1, 3)) (fs := [.int 80, .int 3, .ref (act 4)]) rfl rfl rfl rfl hl.1 rfl (Nat.le_of_ble_eq_true rfl) dX0_clear_13 ⟨Nat.zero_le _, Nat.zero_le _⟩ (fun H locs hP hD hS => ?_)
  change W _ _ _ _ _ _ _ _ _ _ _ _ _ _ _ (F0 m 16 _ [])
  refine lv_aload_n hx hb dX0_clear_16 rfl (lv_at hl 0 rfl) ?_
  refine va_get (D := D) (ci := 0) (v := .ref (act 5)) (C := RX0) (T := TX0) (N := 7) hx hb hts (fun _ h => List.mem_cons_of_mem _ (List.mem_append_left _ (List.mem_append_left _ (List.mem_append_right _ h)))) hown hG.1 hP 0 rfl rfl 2 (by decide) (hts (.fieldLink RX0 29 "CatalogueLoader$Catalogue" "fields" "LCatalogueLoader$Grid;") (List.mem_of_getElem? (i := 3) rfl)) (fun _ h9 => h9) rfl dX0_clear_17 ?_
  refine lv_iconst (v := (-1)) hx hb dX0_clear_20 (by decide) ?_
  refine cq_WV (R := (cq_rm 2 44)) (args := ([.ref (act 0)] : List Value).toArray) (y := yX1_fill) (bytes := cX1_fill) (cc := cX0_clear) (maxL := 2) (nL := 1) (n := 1) (index := 48) (ret := none) (ws := wsX1_fill) (rm := cq_rm 1 23) (Ts := wsX0_clear) (own := RX0) (D := D) (Y := Y) (W0 := cl_grd Y (act 5) (act 6) 80 4 320 ct.2.2.1) (wl := cl_cat Y act (m_X4_fill 80 ct.1 0, m_X1_fill 80 3 240 ct.2.1 (-1), ct.2.2.1, ct.2.2.2.1, ct.2.2.2.2.1, ct.2.2.2.2.2.1, ct.2.2.2.2.2.2)) (v := none) (st0 := [.int (-1), .ref (act 5)]) (As := [.int (-1)]) (rest := []) (W1 := cl_grd Y (act 5) (act 6) 80 4 320 (m_X1_fill 80 4 320 ct.2.2.1 (-1))) (C := RX1) (b := act 5) (cl_cat Y act (m_X4_fill 80 ct.1 0, m_X1_fill 80 3 240 ct.2.1 (-1), m_X1_fill 80 4 320 ct.2.2.1 (-1), ct.2.2.2.1, ct.2.2.2.2.1, ct.2.2.2.2.2.1, ct.2.2.2.2.2.2)) [0, 1, 2, 3, 4, 7, 8, 9, 10, 11, 12, 13, 14] ⟨hx, hb, hml, hown, hts⟩ (ct_X1_fill l D Y (act 5) (act 6) 80 4 320 ct.2.2.1 (-1) (by decide)) (cwV 1 hts gX0_clear_X1_fill rfl rfl rfl (by decide +kernel) ⟨Nat.le_of_ble_eq_true rfl, Nat.le_of_ble_eq_true rfl⟩) hG hP hD hS [5, 6] rfl (by decide +kernel) ⟨rfl, ⟨[(act 0, .inr (0, [.ref (act 1), .ref (act 3), .ref (act 5), .ref (act 7), .ref (act 9), .ref (act 11), .ref (act 13)])), (act 1, .inr (4, [.ref (act 2)])), (act 2, .inl (Y.1, 80, .inl (m_X4_fill 80 ct.1 0))), (act 3, .inr (1, [.int 80, .int 3, .ref (act 4)])), (act 4, .inl (Y.1, 240, .inl (m_X1_fill 80 3 240 ct.2.1 (-1)))), (act 7, .inr (1, [.int 80, .int 4, .ref (act 8)])), (act 8, .inl (Y.1, 320, .inl ct.2.2.2.1)), (act 9, .inr (1, [.int 80, .int 4, .ref (act 10)])), (act 10, .inl (Y.1, 320, .inl ct.2.2.2.2.1)), (act 11, .inr (4, [.ref (act 12)])), (act 12, .inl (Y.1, 80, .inl ct.2.2.2.2.2.1)), (act 13, .inr (4, [.ref (act 14)])), (act 14, .inl (Y.1, 80, .inl ct.2.2.2.2.2.2))], rfl, rfl⟩, 15, rfl, by decide +kernel⟩ ⟨[act 5, act 6], rfl, rfl⟩ 5 1 (qc := (RX1, TX1, 3)) (fs := [.int 80, .int 4, .ref (act 6)]) rfl rfl rfl rfl hl.1 rfl (Nat.le_of_ble_eq_true rfl) dX0_clear_21 ⟨Nat.zero_le _, Nat.zero_le _⟩ (fun H locs hP hD hS => ?_)
  change W _ _ _ _ _ _ _ _ _ _ _ _ _ _ _ (F0 m 24 _ [])
  refine lv_aload_n hx hb dX0_clear_24 rfl (lv_at hl 0 rfl) ?_
  refine va_get (D := D) (ci := 0) (v := .ref (act 7)) (C := RX0) (T := TX0) (N := 7) hx hb hts (fun _ h => List.mem_cons_of_mem _ (List.mem_append_left _ (List.mem_append_left _ (List.mem_append_right _ h)))) hown hG.1 hP 0 rfl rfl 3 (by decide) (hts (.fieldLink RX0 32 "CatalogueLoader$Catalogue" "sources" "LCatalogueLoader$Grid;") (List.mem_of_getElem? (i := 4) rfl)) (fun _ h9 => h9) rfl dX0_clear_25 ?_
  refine lv_iconst (v := (-1)) hx hb dX0_clear_28 (by decide) ?_
  refine cq_WV (R := (cq_rm 2 44)) (args := ([.ref (act 0)] : List Value).toArray) (y := yX1_fill) (bytes := cX1_fill) (cc := cX0_clear) (maxL := 2) (nL := 1) (n := 1) (index := 48) (ret := none) (ws := wsX1_fill) (rm := cq_rm 1 23) (Ts := wsX0_clear) (own := RX0) (D := D) (Y := Y) (W0 := cl_grd Y (act 7) (act 8) 80 4 320 ct.2.2.2.1) (wl := cl_cat Y act (m_X4_fill 80 ct.1 0, m_X1_fill 80 3 240 ct.2.1 (-1), m_X1_fill 80 4 320 ct.2.2.1 (-1), ct.2.2.2.1, ct.2.2.2.2.1, ct.2.2.2.2.2.1, ct.2.2.2.2.2.2)) (v := none) (st0 := [.int (-1), .ref (act 7)]) (As := [.int (-1)]) (rest := []) (W1 := cl_grd Y (act 7) (act 8) 80 4 320 (m_X1_fill 80 4 320 ct.2.2.2.1 (-1))) (C := RX1) (b := act 7) (cl_cat Y act (m_X4_fill 80 ct.1 0, m_X1_fill 80 3 240 ct.2.1 (-1), m_X1_fill 80 4 320 ct.2.2.1 (-1), m_X1_fill 80 4 320 ct.2.2.2.1 (-1), ct.2.2.2.2.1, ct.2.2.2.2.2.1, ct.2.2.2.2.2.2)) [0, 1, 2, 3, 4, 5, 6, 9, 10, 11, 12, 13, 14] ⟨hx, hb, hml, hown, hts⟩ (ct_X1_fill l D Y (act 7) (act 8) 80 4 320 ct.2.2.2.1 (-1) (by decide)) (cwV 1 hts gX0_clear_X1_fill rfl rfl rfl (by decide +kernel) ⟨Nat.le_of_ble_eq_true rfl, Nat.le_of_ble_eq_true rfl⟩) hG hP hD hS [7, 8] rfl (by decide +kernel) ⟨rfl, ⟨[(act 0, .inr (0, [.ref (act 1), .ref (act 3), .ref (act 5), .ref (act 7), .ref (act 9), .ref (act 11), .ref (act 13)])), (act 1, .inr (4, [.ref (act 2)])), (act 2, .inl (Y.1, 80, .inl (m_X4_fill 80 ct.1 0))), (act 3, .inr (1, [.int 80, .int 3, .ref (act 4)])), (act 4, .inl (Y.1, 240, .inl (m_X1_fill 80 3 240 ct.2.1 (-1)))), (act 5, .inr (1, [.int 80, .int 4, .ref (act 6)])), (act 6, .inl (Y.1, 320, .inl (m_X1_fill 80 4 320 ct.2.2.1 (-1)))), (act 9, .inr (1, [.int 80, .int 4, .ref (act 10)])), (act 10, .inl (Y.1, 320, .inl ct.2.2.2.2.1)), (act 11, .inr (4, [.ref (act 12)])), (act 12, .inl (Y.1, 80, .inl ct.2.2.2.2.2.1)), (act 13, .inr (4, [.ref (act 14)])), (act 14, .inl (Y.1, 80, .inl ct.2.2.2.2.2.2))], rfl, rfl⟩, 15, rfl, by decide +kernel⟩ ⟨[act 7, act 8], rfl, rfl⟩ 7 1 (qc := (RX1, TX1, 3)) (fs := [.int 80, .int 4, .ref (act 8)]) rfl rfl rfl rfl hl.1 rfl (Nat.le_of_ble_eq_true rfl) dX0_clear_29 ⟨Nat.zero_le _, Nat.zero_le _⟩ (fun H locs hP hD hS => ?_)
  change W _ _ _ _ _ _ _ _ _ _ _ _ _ _ _ (F0 m 32 _ [])
  refine lv_aload_n hx hb dX0_clear_32 rfl (lv_at hl 0 rfl) ?_
  refine va_get (D := D) (ci := 0) (v := .ref (act 9)) (C := RX0) (T := TX0) (N := 7) hx hb hts (fun _ h => List.mem_cons_of_mem _ (List.mem_append_left _ (List.mem_append_left _ (List.mem_append_right _ h)))) hown hG.1 hP 0 rfl rfl 4 (by decide) (hts (.fieldLink RX0 35 "CatalogueLoader$Catalogue" "guards" "LCatalogueLoader$Grid;") (List.mem_of_getElem? (i := 5) rfl)) (fun _ h9 => h9) rfl dX0_clear_33 ?_
  refine lv_iconst (v := 0) hx hb dX0_clear_36 (by decide) ?_
  refine cq_WV (R := (cq_rm 2 44)) (args := ([.ref (act 0)] : List Value).toArray) (y := yX1_fill) (bytes := cX1_fill) (cc := cX0_clear) (maxL := 2) (nL := 1) (n := 1) (index := 48) (ret := none) (ws := wsX1_fill) (rm := cq_rm 1 23) (Ts := wsX0_clear) (own := RX0) (D := D) (Y := Y) (W0 := cl_grd Y (act 9) (act 10) 80 4 320 ct.2.2.2.2.1) (wl := cl_cat Y act (m_X4_fill 80 ct.1 0, m_X1_fill 80 3 240 ct.2.1 (-1), m_X1_fill 80 4 320 ct.2.2.1 (-1), m_X1_fill 80 4 320 ct.2.2.2.1 (-1), ct.2.2.2.2.1, ct.2.2.2.2.2.1, ct.2.2.2.2.2.2)) (v := none) (st0 := [.int 0, .ref (act 9)]) (As := [.int 0]) (rest := []) (W1 := cl_grd Y (act 9) (act 10) 80 4 320 (m_X1_fill 80 4 320 ct.2.2.2.2.1 0)) (C := RX1) (b := act 9) (cl_cat Y act (m_X4_fill 80 ct.1 0, m_X1_fill 80 3 240 ct.2.1 (-1), m_X1_fill 80 4 320 ct.2.2.1 (-1), m_X1_fill 80 4 320 ct.2.2.2.1 (-1), m_X1_fill 80 4 320 ct.2.2.2.2.1 0, ct.2.2.2.2.2.1, ct.2.2.2.2.2.2)) [0, 1, 2, 3, 4, 5, 6, 7, 8, 11, 12, 13, 14] ⟨hx, hb, hml, hown, hts⟩ (ct_X1_fill l D Y (act 9) (act 10) 80 4 320 ct.2.2.2.2.1 0 (by decide)) (cwV 1 hts gX0_clear_X1_fill rfl rfl rfl (by decide +kernel) ⟨Nat.le_of_ble_eq_true rfl, Nat.le_of_ble_eq_true rfl⟩) hG hP hD hS [9, 10] rfl (by decide +kernel) ⟨rfl, ⟨[(act 0, .inr (0, [.ref (act 1), .ref (act 3), .ref (act 5), .ref (act 7), .ref (act 9), .ref (act 11), .ref (act 13)])), (act 1, .inr (4, [.ref (act 2)])), (act 2, .inl (Y.1, 80, .inl (m_X4_fill 80 ct.1 0))), (act 3, .inr (1, [.int 80, .int 3, .ref (act 4)])), (act 4, .inl (Y.1, 240, .inl (m_X1_fill 80 3 240 ct.2.1 (-1)))), (act 5, .inr (1, [.int 80, .int 4, .ref (act 6)])), (act 6, .inl (Y.1, 320, .inl (m_X1_fill 80 4 320 ct.2.2.1 (-1)))), (act 7, .inr (1, [.int 80, .int 4, .ref (act 8)])), (act 8, .inl (Y.1, 320, .inl (m_X1_fill 80 4 320 ct.2.2.2.1 (-1)))), (act 11, .inr (4, [.ref (act 12)])), (act 12, .inl (Y.1, 80, .inl ct.2.2.2.2.2.1)), (act 13, .inr (4, [.ref (act 14)])), (act 14, .inl (Y.1, 80, .inl ct.2.2.2.2.2.2))], rfl, rfl⟩, 15, rfl, by decide +kernel⟩ ⟨[act 9, act 10], rfl, rfl⟩ 9 1 (qc := (RX1, TX1, 3)) (fs := [.int 80, .int 4, .ref (act 10)]) rfl rfl rfl rfl hl.1 rfl (Nat.le_of_ble_eq_true rfl) dX0_clear_37 ⟨Nat.zero_le _, Nat.zero_le _⟩ (fun H locs hP hD hS => ?_)
  change W _ _ _ _ _ _ _ _ _ _ _ _ _ _ _ (F0 m 40 _ [])
  refine lv_aload_n hx hb dX0_clear_40 rfl (lv_at hl 0 rfl) ?_
  refine va_get (D := D) (ci := 0) (v := .ref (act 11)) (C := RX0) (T := TX0) (N := 7) hx hb hts (fun _ h => List.mem_cons_of_mem _ (List.mem_append_left _ (List.mem_append_left _ (List.mem_append_right _ h)))) hown hG.1 hP 0 rfl rfl 5 (by decide) (hts (.fieldLink RX0 38 "CatalogueLoader$Catalogue" "held" "LCatalogueLoader$Row;") (List.mem_of_getElem? (i := 6) rfl)) (fun _ h9 => h9) rfl dX0_clear_41 ?_
  refine lv_iconst (v := 0) hx hb dX0_clear_44 (by decide) ?_
  refine cq_WV (R := (cq_rm 2 44)) (args := ([.ref (act 0)] : List Value).toArray) (y := yX4_fill) (bytes := cX4_fill) (cc := cX0_clear) (maxL := 2) (nL := 1) (n := 1) (index := 44) (ret := none) (ws := wsX4_fill) (rm := cq_rm 1 23) (Ts := wsX0_clear) (own := RX0) (D := D) (Y := Y) (W0 := cl_row Y (act 11) (act 12) 80 ct.2.2.2.2.2.1) (wl := cl_cat Y act (m_X4_fill 80 ct.1 0, m_X1_fill 80 3 240 ct.2.1 (-1), m_X1_fill 80 4 320 ct.2.2.1 (-1), m_X1_fill 80 4 320 ct.2.2.2.1 (-1), m_X1_fill 80 4 320 ct.2.2.2.2.1 0, ct.2.2.2.2.2.1, ct.2.2.2.2.2.2)) (v := none) (st0 := [.int 0, .ref (act 11)]) (As := [.int 0]) (rest := []) (W1 := cl_row Y (act 11) (act 12) 80 (m_X4_fill 80 ct.2.2.2.2.2.1 0)) (C := RX4) (b := act 11) (cl_cat Y act (m_X4_fill 80 ct.1 0, m_X1_fill 80 3 240 ct.2.1 (-1), m_X1_fill 80 4 320 ct.2.2.1 (-1), m_X1_fill 80 4 320 ct.2.2.2.1 (-1), m_X1_fill 80 4 320 ct.2.2.2.2.1 0, m_X4_fill 80 ct.2.2.2.2.2.1 0, ct.2.2.2.2.2.2)) [0, 1, 2, 3, 4, 5, 6, 7, 8, 9, 10, 13, 14] ⟨hx, hb, hml, hown, hts⟩ (ct_X4_fill l D Y (act 11) (act 12) 80 ct.2.2.2.2.2.1 0 (by decide)) (cwV 1 hts gX0_clear_X4_fill rfl rfl rfl (by decide +kernel) ⟨Nat.le_of_ble_eq_true rfl, Nat.le_of_ble_eq_true rfl⟩) hG hP hD hS [11, 12] rfl (by decide +kernel) ⟨rfl, ⟨[(act 0, .inr (0, [.ref (act 1), .ref (act 3), .ref (act 5), .ref (act 7), .ref (act 9), .ref (act 11), .ref (act 13)])), (act 1, .inr (4, [.ref (act 2)])), (act 2, .inl (Y.1, 80, .inl (m_X4_fill 80 ct.1 0))), (act 3, .inr (1, [.int 80, .int 3, .ref (act 4)])), (act 4, .inl (Y.1, 240, .inl (m_X1_fill 80 3 240 ct.2.1 (-1)))), (act 5, .inr (1, [.int 80, .int 4, .ref (act 6)])), (act 6, .inl (Y.1, 320, .inl (m_X1_fill 80 4 320 ct.2.2.1 (-1)))), (act 7, .inr (1, [.int 80, .int 4, .ref (act 8)])), (act 8, .inl (Y.1, 320, .inl (m_X1_fill 80 4 320 ct.2.2.2.1 (-1)))), (act 9, .inr (1, [.int 80, .int 4, .ref (act 10)])), (act 10, .inl (Y.1, 320, .inl (m_X1_fill 80 4 320 ct.2.2.2.2.1 0))), (act 13, .inr (4, [.ref (act 14)])), (act 14, .inl (Y.1, 80, .inl ct.2.2.2.2.2.2))], rfl, rfl⟩, 15, rfl, by decide +kernel⟩ ⟨[act 11, act 12], rfl, rfl⟩ 11 4 (qc := (RX4, TX4, 1)) (fs := [.ref (act 12)]) rfl rfl rfl rfl hl.1 rfl (Nat.le_of_ble_eq_true rfl) dX0_clear_45 ⟨Nat.zero_le _, Nat.zero_le _⟩ (fun H locs hP hD hS => ?_)
  change W _ _ _ _ _ _ _ _ _ _ _ _ _ _ _ (F0 m 48 _ [])
  refine lv_aload_n hx hb dX0_clear_48 rfl (lv_at hl 0 rfl) ?_
  refine va_get (D := D) (ci := 0) (v := .ref (act 13)) (C := RX0) (T := TX0) (N := 7) hx hb hts (fun _ h => List.mem_cons_of_mem _ (List.mem_append_left _ (List.mem_append_left _ (List.mem_append_right _ h)))) hown hG.1 hP 0 rfl rfl 6 (by decide) (hts (.fieldLink RX0 41 "CatalogueLoader$Catalogue" "hits" "LCatalogueLoader$Row;") (List.mem_of_getElem? (i := 7) rfl)) (fun _ h9 => h9) rfl dX0_clear_49 ?_
  refine lv_iconst (v := (-1)) hx hb dX0_clear_52 (by decide) ?_
  refine cq_WV (R := (cq_rm 2 44)) (args := ([.ref (act 0)] : List Value).toArray) (y := yX4_fill) (bytes := cX4_fill) (cc := cX0_clear) (maxL := 2) (nL := 1) (n := 1) (index := 44) (ret := none) (ws := wsX4_fill) (rm := cq_rm 1 23) (Ts := wsX0_clear) (own := RX0) (D := D) (Y := Y) (W0 := cl_row Y (act 13) (act 14) 80 ct.2.2.2.2.2.2) (wl := cl_cat Y act (m_X4_fill 80 ct.1 0, m_X1_fill 80 3 240 ct.2.1 (-1), m_X1_fill 80 4 320 ct.2.2.1 (-1), m_X1_fill 80 4 320 ct.2.2.2.1 (-1), m_X1_fill 80 4 320 ct.2.2.2.2.1 0, m_X4_fill 80 ct.2.2.2.2.2.1 0, ct.2.2.2.2.2.2)) (v := none) (st0 := [.int (-1), .ref (act 13)]) (As := [.int (-1)]) (rest := []) (W1 := cl_row Y (act 13) (act 14) 80 (m_X4_fill 80 ct.2.2.2.2.2.2 (-1))) (C := RX4) (b := act 13) (cl_cat Y act (m_X4_fill 80 ct.1 0, m_X1_fill 80 3 240 ct.2.1 (-1), m_X1_fill 80 4 320 ct.2.2.1 (-1), m_X1_fill 80 4 320 ct.2.2.2.1 (-1), m_X1_fill 80 4 320 ct.2.2.2.2.1 0, m_X4_fill 80 ct.2.2.2.2.2.1 0, m_X4_fill 80 ct.2.2.2.2.2.2 (-1))) [0, 1, 2, 3, 4, 5, 6, 7, 8, 9, 10, 11, 12] ⟨hx, hb, hml, hown, hts⟩ (ct_X4_fill l D Y (act 13) (act 14) 80 ct.2.2.2.2.2.2 (-1) (by decide)) (cwV 1 hts gX0_clear_X4_fill rfl rfl rfl (by decide +kernel) ⟨Nat.le_of_ble_eq_true rfl, Nat.le_of_ble_eq_true rfl⟩) hG hP hD hS [13, 14] rfl (by decide +kernel) ⟨rfl, ⟨[(act 0, .inr (0, [.ref (act 1), .ref (act 3), .ref (act 5), .ref (act 7), .ref (act 9), .ref (act 11), .ref (act 13)])), (act 1, .inr (4, [.ref (act 2)])), (act 2, .inl (Y.1, 80, .inl (m_X4_fill 80 ct.1 0))), (act 3, .inr (1, [.int 80, .int 3, .ref (act 4)])), (act 4, .inl (Y.1, 240, .inl (m_X1_fill 80 3 240 ct.2.1 (-1)))), (act 5, .inr (1, [.int 80, .int 4, .ref (act 6)])), (act 6, .inl (Y.1, 320, .inl (m_X1_fill 80 4 320 ct.2.2.1 (-1)))), (act 7, .inr (1, [.int 80, .int 4, .ref (act 8)])), (act 8, .inl (Y.1, 320, .inl (m_X1_fill 80 4 320 ct.2.2.2.1 (-1)))), (act 9, .inr (1, [.int 80, .int 4, .ref (act 10)])), (act 10, .inl (Y.1, 320, .inl (m_X1_fill 80 4 320 ct.2.2.2.2.1 0))), (act 11, .inr (4, [.ref (act 12)])), (act 12, .inl (Y.1, 80, .inl (m_X4_fill 80 ct.2.2.2.2.2.1 0)))], rfl, rfl⟩, 15, rfl, by decide +kernel⟩ ⟨[act 13, act 14], rfl, rfl⟩ 13 4 (qc := (RX4, TX4, 1)) (fs := [.ref (act 14)]) rfl rfl rfl rfl hl.1 rfl (Nat.le_of_ble_eq_true rfl) dX0_clear_53 ⟨Nat.zero_le _, Nat.zero_le _⟩ (fun H locs hP hD hS => ?_)
  change W _ _ _ _ _ _ _ _ _ _ _ _ _ _ _ (F0 m 56 _ [])
  exact cq_wV (wl := cl_cat Y act (m_X4_fill 80 ct.1 0, m_X1_fill 80 3 240 ct.2.1 (-1), m_X1_fill 80 4 320 ct.2.2.1 (-1), m_X1_fill 80 4 320 ct.2.2.2.1 (-1), m_X1_fill 80 4 320 ct.2.2.2.2.1 0, m_X4_fill 80 ct.2.2.2.2.2.1 0, m_X4_fill 80 ct.2.2.2.2.2.2 (-1))) hx hb hr hlocks hP hS rfl (by simp only [m_X0_clear, ↓reduceIte, if_true, if_false]) dX0_clear_56
end
section

def m_X0_layFields_lp13 (ct : CatS) (st : SetS) (ld : LodS) (load : Int32) (record : Int32) (x_1 : Int32) : Nat → Nat → CatS → CatS
  | 0, k13, s0_13 => s0_13
  | n13 + 1, k13, s0_13 => (let x_5 := m_X1_get 81 4 324 ld.2.1 load (nI k13); (if x_5 = (-1) then m_X0_layFields_lp13 ct st ld load record x_1 n13 (k13 + 1) s0_13 else (if m_X1_get 80 4 320 s0_13.2.2.2.2.1 record (nI k13) = 0 then (if m_X1_get 80 4 320 s0_13.2.2.1 record (nI k13) = (-1) then m_X0_layFields_lp13 ct st ld load record x_1 n13 (k13 + 1) (s0_13.1, s0_13.2.1, m_X1_set 80 4 320 s0_13.2.2.1 record (nI k13) x_5, m_X1_set 80 4 320 s0_13.2.2.2.1 record (nI k13) x_1, s0_13.2.2.2.2.1, s0_13.2.2.2.2.2.1, s0_13.2.2.2.2.2.2) else (if m_X5_replaces st (nI k13) x_1 (m_X1_get 80 4 320 s0_13.2.2.2.1 record (nI k13)) = 0 then m_X0_layFields_lp13 ct st ld load record x_1 n13 (k13 + 1) s0_13 else m_X0_layFields_lp13 ct st ld load record x_1 n13 (k13 + 1) (s0_13.1, s0_13.2.1, m_X1_set 80 4 320 s0_13.2.2.1 record (nI k13) x_5, m_X1_set 80 4 320 s0_13.2.2.2.1 record (nI k13) x_1, s0_13.2.2.2.2.1, s0_13.2.2.2.2.2.1, s0_13.2.2.2.2.2.2))) else m_X0_layFields_lp13 ct st ld load record x_1 n13 (k13 + 1) s0_13)))
def m_X0_layFields (ct : CatS) (st : SetS) (ld : LodS) (load : Int32) (record : Int32) : CatS := (let x_1 := m_X4_get 80 ld.2.2.1 load; (let fin_2 := m_X0_layFields_lp13 ct st ld load record x_1 4 0 ct; fin_2))
set_option maxHeartbeats 4000000 in
set_option maxRecDepth 100000 in
theorem ct_X0_layFields (l : Launch) (D : va_G) (Y : cq_Y) (act : Nat → Nat) (ct : CatS) (ast : Nat → Nat) (st : SetS) (ald : Nat → Nat) (ld : LodS) (load : Int32) (record : Int32) : cq_MW l yX0_layFields wsX0_layFields (cq_rm 2 44) D Y (cl_cat Y act ct ++ (cl_set Y ast st ++ (cl_lod Y ald ld))) [.ref (act 0), .ref (ast 0), .ref (ald 0), .int load, .int record] (none) (cl_cat Y act (m_X0_layFields ct st ld load record) ++ (cl_set Y ast st ++ (cl_lod Y ald ld))) := by
  refine cq_body (cc := cX0_layFields) (maxL := 8) (ret := none) (by decide) rfl (Nat.le_of_ble_eq_true rfl) ?_
  intro p e s m below meth c hE hP hG hD ls hl
  obtain ⟨hx, hb, hr, hml, hts, hown, hnm, hlocks⟩ := hE
  have hown : s.vm.findClass RX0 = some m.cls := hown
  have hS : va_S (cq_in (cl_cat Y act ct ++ (cl_set Y ast st ++ (cl_lod Y ald ld)))) s.heap s.heap [] := va_S.rf
  have hl : lv_has ls 8 [(0, .ref (act 0)), (1, .ref (ast 0)), (2, .ref (ald 0)), (3, .int load), (4, .int record)] := hl
  refine lv_aload_n hx hb dX0_layFields_0 rfl (lv_at hl 2 rfl) ?_
  refine va_getN (D := D) (ci := 3) (v := .ref (ald 5)) (C := RX3) (T := TX3) (N := 7) hx hb hts (fun _ h => List.mem_cons_of_mem _ (List.mem_append_left _ (List.mem_append_left _ (List.mem_append_left _ (List.mem_append_left _ (List.mem_append_right _ h)))))) hown hG.1 hP 22 rfl rfl 2 (by decide) (hG.nest 8 rfl) (fun _ h9 => h9) rfl dX0_layFields_1 ?_
  refine lv_iload_n hx hb dX0_layFields_4 rfl (lv_at hl 3 rfl) ?_
  refine cq_RV (R := (cq_rm 2 44)) (args := ([.ref (act 0), .ref (ast 0), .ref (ald 0), .int load, .int record] : List Value).toArray) (y := yX4_get) (bytes := cX4_get) (cc := cX0_layFields) (maxL := 2) (nL := 8) (n := 1) (index := 49) (ret := (some .int)) (ws := wsX4_get) (rm := cq_rm 0 0) (Ts := wsX0_layFields) (own := RX0) (D := D) (Y := Y) (W0 := cl_row Y (ald 5) (ald 6) 80 ld.2.2.1) (wl := cl_cat Y act ct ++ (cl_set Y ast st ++ (cl_lod Y ald ld))) (v := some (.int (m_X4_get 80 ld.2.2.1 load))) (st0 := [.int load, .ref (ald 5)]) (As := [.int load]) (rest := []) (C := RX4) (b := ald 5) ⟨hx, hb, hml, hown, hts⟩ (ct_X4_get l D Y (ald 5) (ald 6) 80 ld.2.2.1 load (by decide)) (cwV 1 hts gX0_layFields_X4_get rfl rfl rfl (by decide +kernel) ⟨Nat.le_of_ble_eq_true rfl, Nat.le_of_ble_eq_true rfl⟩) hG hP hD [27, 28] rfl (by decide +kernel) 27 4 (qc := (RX4, TX4, 1)) (fs := [.ref (ald 6)]) rfl rfl rfl rfl hl.1 rfl (Nat.le_of_ble_eq_true rfl) dX0_layFields_5 ⟨Nat.zero_le _, Nat.zero_le _⟩ ?_
  change W _ _ _ _ _ _ _ _ _ _ _ _ _ _ _ (F0 m 8 _ (.int (m_X4_get 80 ld.2.2.1 load) :: []))
  refine lv_topi (fun x_1 ex_1 => ?_)
  refine lv_istore (lv' := [(5, .int x_1), (0, .ref (act 0)), (1, .ref (ast 0)), (2, .ref (ald 0)), (3, .int load), (4, .int record)]) hx hb dX0_layFields_8 hl (by decide) rfl (fun ls hl => ?_)
  refine lv_iconst (v := 0) hx hb dX0_layFields_10 (by decide) ?_
  refine lv_istore (lv' := [(6, .int 0), (5, .int x_1), (0, .ref (act 0)), (1, .ref (ast 0)), (2, .ref (ald 0)), (3, .int load), (4, .int record)]) hx hb dX0_layFields_11 hl (by decide) rfl (fun ls hl => ?_)
  obtain ⟨fin_2, efin_2⟩ : ∃ z, z = m_X0_layFields_lp13 ct st ld load record x_1 4 0 ct := ⟨_, rfl⟩
  have lp13 : ∀ (n13 k13 : Nat) (s0_13 : CatS) (H : Heap) (locs : List Loc) (ls : Array Slot), k13 + n13 = 4 → m_X0_layFields_lp13 ct st ld load record x_1 n13 k13 s0_13 = fin_2 → va_P D vwCl (cl_cat Y act s0_13 ++ (cl_set Y ast st ++ (cl_lod Y ald ld))) H → va_D (cq_in (cl_cat Y act ct ++ (cl_set Y ast st ++ (cl_lod Y ald ld)))) (cl_cat Y act s0_13 ++ (cl_set Y ast st ++ (cl_lod Y ald ld))) → va_S (cq_in (cl_cat Y act ct ++ (cl_set Y ast st ++ (cl_lod Y ald ld)))) s.heap H locs → lv_has ls 8 [(6, .int (nI k13)), (5, .int x_1), (0, .ref (act 0)), (1, .ref (ast 0)), (2, .ref (ald 0)), (3, .int load), (4, .int record)] → W p l e (cq_rm 2 44) s m ([.ref (act 0), .ref (ast 0), .ref (ald 0), .int load, .int record] : List Value).toArray below meth c H locs 0 0 (MQ below (cq_W D (none) (cl_cat Y act ct ++ (cl_set Y ast st ++ (cl_lod Y ald ld))) (cl_cat Y act (m_X0_layFields ct st ld load record) ++ (cl_set Y ast st ++ (cl_lod Y ald ld)))) ([.ref (act 0), .ref (ast 0), .ref (ald 0), .int load, .int record] : List Value).toArray s 0 0 (cq_in (cl_cat Y act ct ++ (cl_set Y ast st ++ (cl_lod Y ald ld))))) (F0 m 13 ls []) := by
    intro n13; induction n13 with
    | zero =>
      intro k13 s0_13 H locs ls hkn hres13 hP hD hS hl
      have hz : 4 ≤ nI k13 := cq_z (N := 4) rfl (by omega) (by omega)
      have e9 : fin_2 = s0_13 := hres13.symm
      subst e9
      refine lv_iload hx hb dX0_layFields_13 (lv_at hl 0 rfl) ?_
      refine lv_iconst (v := 4) hx hb dX0_layFields_15 (by decide) ?_
      refine lv_icmp_ge (tgt := 120) hx hb dX0_layFields_16 (by decide) (fun c_3 => ?_) (fun c_3 => ?_)
      · exact cq_wV (wl := cl_cat Y act fin_2 ++ (cl_set Y ast st ++ (cl_lod Y ald ld))) hx hb hr hlocks hP hS rfl (by subst efin_2; subst ex_1; simp only [m_X0_layFields, ↓reduceIte, if_true, if_false]) dX0_layFields_120
      · exact absurd hz c_3
    | succ n13 ih13 =>
      intro k13 s0_13 H locs ls hkn hres13 hP hD hS hl
      have hz : ¬ (4 ≤ nI k13) := cq_s (N := 4) rfl (by omega) (by omega)
      refine lv_iload hx hb dX0_layFields_13 (lv_at hl 0 rfl) ?_
      refine lv_iconst (v := 4) hx hb dX0_layFields_15 (by decide) ?_
      refine lv_icmp_ge (tgt := 120) hx hb dX0_layFields_16 (by decide) (fun c_4 => ?_) (fun c_4 => ?_)
      · exact absurd c_4 hz
      · refine lv_aload_n hx hb dX0_layFields_19 rfl (lv_at hl 4 rfl) ?_
        refine va_getN (D := D) (ci := 3) (v := .ref (ald 3)) (C := RX3) (T := TX3) (N := 7) hx hb hts (fun _ h => List.mem_cons_of_mem _ (List.mem_append_left _ (List.mem_append_left _ (List.mem_append_left _ (List.mem_append_left _ (List.mem_append_right _ h)))))) hown hG.1 hP 22 rfl rfl 1 (by decide) (hG.nest 7 rfl) (fun _ h9 => h9) rfl dX0_layFields_20 ?_
        refine lv_iload_n hx hb dX0_layFields_23 rfl (lv_at hl 5 rfl) ?_
        refine lv_iload hx hb dX0_layFields_24 (lv_at hl 0 rfl) ?_
        refine cq_RV (R := (cq_rm 2 44)) (args := ([.ref (act 0), .ref (ast 0), .ref (ald 0), .int load, .int record] : List Value).toArray) (y := yX1_get) (bytes := cX1_get) (cc := cX0_layFields) (maxL := 4) (nL := 8) (n := 2) (index := 83) (ret := (some .int)) (ws := wsX1_get) (rm := cq_rm 0 0) (Ts := wsX0_layFields) (own := RX0) (D := D) (Y := Y) (W0 := cl_grd Y (ald 3) (ald 4) 81 4 324 ld.2.1) (wl := cl_cat Y act s0_13 ++ (cl_set Y ast st ++ (cl_lod Y ald ld))) (v := some (.int (m_X1_get 81 4 324 ld.2.1 load (nI k13)))) (st0 := [.int (nI k13), .int load, .ref (ald 3)]) (As := [.int load, .int (nI k13)]) (rest := []) (C := RX1) (b := ald 3) ⟨hx, hb, hml, hown, hts⟩ (ct_X1_get l D Y (ald 3) (ald 4) 81 4 324 ld.2.1 load (nI k13) (by decide)) (cwV 2 hts gX0_layFields_X1_get rfl rfl rfl (by decide +kernel) ⟨Nat.le_of_ble_eq_true rfl, Nat.le_of_ble_eq_true rfl⟩) hG hP hD [25, 26] rfl (by decide +kernel) 25 1 (qc := (RX1, TX1, 3)) (fs := [.int 81, .int 4, .ref (ald 4)]) rfl rfl rfl rfl hl.1 rfl (Nat.le_of_ble_eq_true rfl) dX0_layFields_26 ⟨Nat.zero_le _, Nat.zero_le _⟩ ?_
        change W _ _ _ _ _ _ _ _ _ _ _ _ _ _ _ (F0 m 29 _ (.int (m_X1_get 81 4 324 ld.2.1 load (nI k13)) :: []))
        refine lv_topi (fun x_5 ex_5 => ?_)
        refine lv_istore (lv' := [(7, .int x_5), (6, .int (nI k13)), (5, .int x_1), (0, .ref (act 0)), (1, .ref (ast 0)), (2, .ref (ald 0)), (3, .int load), (4, .int record)]) hx hb dX0_layFields_29 hl (by decide) rfl (fun ls hl => ?_)
        refine lv_iload hx hb dX0_layFields_31 (lv_at hl 0 rfl) ?_
        refine lv_iconst (v := (-1)) hx hb dX0_layFields_33 (by decide) ?_
        refine lv_icmp_eq (tgt := 114) hx hb dX0_layFields_34 (by decide) (fun c_6 => ?_) (fun c_6 => ?_)
        · refine lv_iinc (v := nI (k13 + 1)) (lv' := [(6, .int (nI (k13 + 1))), (7, .int x_5), (5, .int x_1), (0, .ref (act 0)), (1, .ref (ast 0)), (2, .ref (ald 0)), (3, .int load), (4, .int record)]) hx hb dX0_layFields_114 hl (k := 1) rfl (nI_1 k13) (by decide) rfl (fun ls hl => ?_)
          refine lv_goto (tgt := 13) hx hb dX0_layFields_117 (by decide) ?_
          exact ih13 (k13 + 1) s0_13 _ _ _ (by omega) (Eq.trans (by subst ex_5; subst ex_1; simp only [m_X0_layFields_lp13, eq_true c_6, ↓reduceIte, if_true, if_false]) hres13) hP hD hS (lv_sub hl [0, 2, 3, 4, 5, 6, 7] rfl)
        · refine lv_aload_n hx hb dX0_layFields_37 rfl (lv_at hl 3 rfl) ?_
          refine va_get (D := D) (ci := 0) (v := .ref (act 9)) (C := RX0) (T := TX0) (N := 7) hx hb hts (fun _ h => List.mem_cons_of_mem _ (List.mem_append_left _ (List.mem_append_left _ (List.mem_append_left _ (List.mem_append_right _ h))))) hown hG.1 hP 0 rfl rfl 4 (by decide) (hts (.fieldLink RX0 35 "CatalogueLoader$Catalogue" "guards" "LCatalogueLoader$Grid;") (List.mem_of_getElem? (i := 1) rfl)) (fun _ h9 => h9) rfl dX0_layFields_38 ?_
          refine lv_iload hx hb dX0_layFields_41 (lv_at hl 7 rfl) ?_
          refine lv_iload hx hb dX0_layFields_43 (lv_at hl 1 rfl) ?_
          refine cq_RV (R := (cq_rm 2 44)) (args := ([.ref (act 0), .ref (ast 0), .ref (ald 0), .int load, .int record] : List Value).toArray) (y := yX1_get) (bytes := cX1_get) (cc := cX0_layFields) (maxL := 4) (nL := 8) (n := 2) (index := 83) (ret := (some .int)) (ws := wsX1_get) (rm := cq_rm 0 0) (Ts := wsX0_layFields) (own := RX0) (D := D) (Y := Y) (W0 := cl_grd Y (act 9) (act 10) 80 4 320 s0_13.2.2.2.2.1) (wl := cl_cat Y act s0_13 ++ (cl_set Y ast st ++ (cl_lod Y ald ld))) (v := some (.int (m_X1_get 80 4 320 s0_13.2.2.2.2.1 record (nI k13)))) (st0 := [.int (nI k13), .int record, .ref (act 9)]) (As := [.int record, .int (nI k13)]) (rest := []) (C := RX1) (b := act 9) ⟨hx, hb, hml, hown, hts⟩ (ct_X1_get l D Y (act 9) (act 10) 80 4 320 s0_13.2.2.2.2.1 record (nI k13) (by decide)) (cwV 2 hts gX0_layFields_X1_get rfl rfl rfl (by decide +kernel) ⟨Nat.le_of_ble_eq_true rfl, Nat.le_of_ble_eq_true rfl⟩) hG hP hD [9, 10] rfl (by decide +kernel) 9 1 (qc := (RX1, TX1, 3)) (fs := [.int 80, .int 4, .ref (act 10)]) rfl rfl rfl rfl hl.1 rfl (Nat.le_of_ble_eq_true rfl) dX0_layFields_45 ⟨Nat.zero_le _, Nat.zero_le _⟩ ?_
          change W _ _ _ _ _ _ _ _ _ _ _ _ _ _ _ (F0 m 48 _ (.int (m_X1_get 80 4 320 s0_13.2.2.2.2.1 record (nI k13)) :: []))
          refine lv_if_ne (tgt := 114) hx hb dX0_layFields_48 (by decide) (fun c_7 => ?_) (fun c_7 => ?_)
          · refine lv_iinc (v := nI (k13 + 1)) (lv' := [(6, .int (nI (k13 + 1))), (7, .int x_5), (5, .int x_1), (0, .ref (act 0)), (1, .ref (ast 0)), (2, .ref (ald 0)), (3, .int load), (4, .int record)]) hx hb dX0_layFields_114 hl (k := 1) rfl (nI_1 k13) (by decide) rfl (fun ls hl => ?_)
            refine lv_goto (tgt := 13) hx hb dX0_layFields_117 (by decide) ?_
            exact ih13 (k13 + 1) s0_13 _ _ _ (by omega) (Eq.trans (by subst ex_5; subst ex_1; simp only [m_X0_layFields_lp13, eq_false c_6, eq_false c_7, ↓reduceIte, if_true, if_false]) hres13) hP hD hS (lv_sub hl [0, 2, 3, 4, 5, 6, 7] rfl)
          · refine lv_aload_n hx hb dX0_layFields_51 rfl (lv_at hl 3 rfl) ?_
            refine va_get (D := D) (ci := 0) (v := .ref (act 5)) (C := RX0) (T := TX0) (N := 7) hx hb hts (fun _ h => List.mem_cons_of_mem _ (List.mem_append_left _ (List.mem_append_left _ (List.mem_append_left _ (List.mem_append_right _ h))))) hown hG.1 hP 0 rfl rfl 2 (by decide) (hts (.fieldLink RX0 29 "CatalogueLoader$Catalogue" "fields" "LCatalogueLoader$Grid;") (List.mem_of_getElem? (i := 2) rfl)) (fun _ h9 => h9) rfl dX0_layFields_52 ?_
            refine lv_iload hx hb dX0_layFields_55 (lv_at hl 7 rfl) ?_
            refine lv_iload hx hb dX0_layFields_57 (lv_at hl 1 rfl) ?_
            refine cq_RV (R := (cq_rm 2 44)) (args := ([.ref (act 0), .ref (ast 0), .ref (ald 0), .int load, .int record] : List Value).toArray) (y := yX1_get) (bytes := cX1_get) (cc := cX0_layFields) (maxL := 4) (nL := 8) (n := 2) (index := 83) (ret := (some .int)) (ws := wsX1_get) (rm := cq_rm 0 0) (Ts := wsX0_layFields) (own := RX0) (D := D) (Y := Y) (W0 := cl_grd Y (act 5) (act 6) 80 4 320 s0_13.2.2.1) (wl := cl_cat Y act s0_13 ++ (cl_set Y ast st ++ (cl_lod Y ald ld))) (v := some (.int (m_X1_get 80 4 320 s0_13.2.2.1 record (nI k13)))) (st0 := [.int (nI k13), .int record, .ref (act 5)]) (As := [.int record, .int (nI k13)]) (rest := []) (C := RX1) (b := act 5) ⟨hx, hb, hml, hown, hts⟩ (ct_X1_get l D Y (act 5) (act 6) 80 4 320 s0_13.2.2.1 record (nI k13) (by decide)) (cwV 2 hts gX0_layFields_X1_get rfl rfl rfl (by decide +kernel) ⟨Nat.le_of_ble_eq_true rfl, Nat.le_of_ble_eq_true rfl⟩) hG hP hD [5, 6] rfl (by decide +kernel) 5 1 (qc := (RX1, TX1, 3)) (fs := [.int 80, .int 4, .ref (act 6)]) rfl rfl rfl rfl hl.1 rfl (Nat.le_of_ble_eq_true rfl) dX0_layFields_59 ⟨Nat.zero_le _, Nat.zero_le _⟩ ?_
            change W _ _ _ _ _ _ _ _ _ _ _ _ _ _ _ (F0 m 62 _ (.int (m_X1_get 80 4 320 s0_13.2.2.1 record (nI k13)) :: []))
            refine lv_iconst (v := (-1)) hx hb dX0_layFields_62 (by decide) ?_
            refine lv_icmp_eq (tgt := 88) hx hb dX0_layFields_63 (by decide) (fun c_8 => ?_) (fun c_8 => ?_)
            · refine lv_aload_n hx hb dX0_layFields_88 rfl (lv_at hl 3 rfl) ?_
              refine va_get (D := D) (ci := 0) (v := .ref (act 5)) (C := RX0) (T := TX0) (N := 7) hx hb hts (fun _ h => List.mem_cons_of_mem _ (List.mem_append_left _ (List.mem_append_left _ (List.mem_append_left _ (List.mem_append_right _ h))))) hown hG.1 hP 0 rfl rfl 2 (by decide) (hts (.fieldLink RX0 29 "CatalogueLoader$Catalogue" "fields" "LCatalogueLoader$Grid;") (List.mem_of_getElem? (i := 2) rfl)) (fun _ h9 => h9) rfl dX0_layFields_89 ?_
              refine lv_iload hx hb dX0_layFields_92 (lv_at hl 7 rfl) ?_
              refine lv_iload hx hb dX0_layFields_94 (lv_at hl 1 rfl) ?_
              refine lv_iload hx hb dX0_layFields_96 (lv_at hl 0 rfl) ?_
              refine cq_WV (R := (cq_rm 2 44)) (args := ([.ref (act 0), .ref (ast 0), .ref (ald 0), .int load, .int record] : List Value).toArray) (y := yX1_set) (bytes := cX1_set) (cc := cX0_layFields) (maxL := 5) (nL := 8) (n := 3) (index := 89) (ret := none) (ws := wsX1_set) (rm := cq_rm 0 0) (Ts := wsX0_layFields) (own := RX0) (D := D) (Y := Y) (W0 := cl_grd Y (act 5) (act 6) 80 4 320 s0_13.2.2.1) (wl := cl_cat Y act s0_13 ++ (cl_set Y ast st ++ (cl_lod Y ald ld))) (v := none) (st0 := [.int x_5, .int (nI k13), .int record, .ref (act 5)]) (As := [.int record, .int (nI k13), .int x_5]) (rest := []) (W1 := cl_grd Y (act 5) (act 6) 80 4 320 (m_X1_set 80 4 320 s0_13.2.2.1 record (nI k13) x_5)) (C := RX1) (b := act 5) (cl_cat Y act (s0_13.1, s0_13.2.1, m_X1_set 80 4 320 s0_13.2.2.1 record (nI k13) x_5, s0_13.2.2.2.1, s0_13.2.2.2.2.1, s0_13.2.2.2.2.2.1, s0_13.2.2.2.2.2.2) ++ (cl_set Y ast st ++ (cl_lod Y ald ld))) [0, 1, 2, 3, 4, 7, 8, 9, 10, 11, 12, 13, 14, 15, 16, 17, 18, 19, 20, 21, 22, 23, 24, 25, 26, 27, 28, 29, 30, 31, 32] ⟨hx, hb, hml, hown, hts⟩ (ct_X1_set l D Y (act 5) (act 6) 80 4 320 s0_13.2.2.1 record (nI k13) x_5 (by decide)) (cwV 3 hts gX0_layFields_X1_set rfl rfl rfl (by decide +kernel) ⟨Nat.le_of_ble_eq_true rfl, Nat.le_of_ble_eq_true rfl⟩) hG hP hD hS [5, 6] rfl (by decide +kernel) ⟨rfl, ⟨[(act 0, .inr (0, [.ref (act 1), .ref (act 3), .ref (act 5), .ref (act 7), .ref (act 9), .ref (act 11), .ref (act 13)])), (act 1, .inr (4, [.ref (act 2)])), (act 2, .inl (Y.1, 80, .inl s0_13.1)), (act 3, .inr (1, [.int 80, .int 3, .ref (act 4)])), (act 4, .inl (Y.1, 240, .inl s0_13.2.1)), (act 7, .inr (1, [.int 80, .int 4, .ref (act 8)])), (act 8, .inl (Y.1, 320, .inl s0_13.2.2.2.1)), (act 9, .inr (1, [.int 80, .int 4, .ref (act 10)])), (act 10, .inl (Y.1, 320, .inl s0_13.2.2.2.2.1)), (act 11, .inr (4, [.ref (act 12)])), (act 12, .inl (Y.1, 80, .inl s0_13.2.2.2.2.2.1)), (act 13, .inr (4, [.ref (act 14)])), (act 14, .inl (Y.1, 80, .inl s0_13.2.2.2.2.2.2)), (ast 0, .inr (5, [.ref (ast 1), .ref (ast 3), .ref (ast 5)])), (ast 1, .inr (4, [.ref (ast 2)])), (ast 2, .inl (Y.1, 5, .inl st.1)), (ast 3, .inr (4, [.ref (ast 4)])), (ast 4, .inl (Y.1, 4, .inl st.2.1)), (ast 5, .inr (4, [.ref (ast 6)])), (ast 6, .inl (Y.1, 3, .inl st.2.2)), (ald 0, .inr (3, [.ref (ald 1), .ref (ald 3), .ref (ald 5), .ref (ald 7), .ref (ald 9), .int ld.2.2.2.2.2.1, .int ld.2.2.2.2.2.2])), (ald 1, .inr (1, [.int 81, .int 3, .ref (ald 2)])), (ald 2, .inl (Y.1, 243, .inl ld.1)), (ald 3, .inr (1, [.int 81, .int 4, .ref (ald 4)])), (ald 4, .inl (Y.1, 324, .inl ld.2.1)), (ald 5, .inr (4, [.ref (ald 6)])), (ald 6, .inl (Y.1, 80, .inl ld.2.2.1)), (ald 7, .inr (4, [.ref (ald 8)])), (ald 8, .inl (Y.1, 80, .inl ld.2.2.2.1)), (ald 9, .inr (4, [.ref (ald 10)])), (ald 10, .inl (Y.1, 10, .inl ld.2.2.2.2.1))], rfl, rfl⟩, 33, rfl, by decide +kernel⟩ ⟨[act 5, act 6], rfl, rfl⟩ 5 1 (qc := (RX1, TX1, 3)) (fs := [.int 80, .int 4, .ref (act 6)]) rfl rfl rfl rfl hl.1 rfl (Nat.le_of_ble_eq_true rfl) dX0_layFields_98 ⟨Nat.zero_le _, Nat.zero_le _⟩ (fun H locs hP hD hS => ?_)
              change W _ _ _ _ _ _ _ _ _ _ _ _ _ _ _ (F0 m 101 _ [])
              refine lv_aload_n hx hb dX0_layFields_101 rfl (lv_at hl 3 rfl) ?_
              refine va_get (D := D) (ci := 0) (v := .ref (act 7)) (C := RX0) (T := TX0) (N := 7) hx hb hts (fun _ h => List.mem_cons_of_mem _ (List.mem_append_left _ (List.mem_append_left _ (List.mem_append_left _ (List.mem_append_right _ h))))) hown hG.1 hP 0 rfl rfl 3 (by decide) (hts (.fieldLink RX0 32 "CatalogueLoader$Catalogue" "sources" "LCatalogueLoader$Grid;") (List.mem_of_getElem? (i := 3) rfl)) (fun _ h9 => h9) rfl dX0_layFields_102 ?_
              refine lv_iload hx hb dX0_layFields_105 (lv_at hl 7 rfl) ?_
              refine lv_iload hx hb dX0_layFields_107 (lv_at hl 1 rfl) ?_
              refine lv_iload hx hb dX0_layFields_109 (lv_at hl 2 rfl) ?_
              refine cq_WV (R := (cq_rm 2 44)) (args := ([.ref (act 0), .ref (ast 0), .ref (ald 0), .int load, .int record] : List Value).toArray) (y := yX1_set) (bytes := cX1_set) (cc := cX0_layFields) (maxL := 5) (nL := 8) (n := 3) (index := 89) (ret := none) (ws := wsX1_set) (rm := cq_rm 0 0) (Ts := wsX0_layFields) (own := RX0) (D := D) (Y := Y) (W0 := cl_grd Y (act 7) (act 8) 80 4 320 s0_13.2.2.2.1) (wl := cl_cat Y act (s0_13.1, s0_13.2.1, m_X1_set 80 4 320 s0_13.2.2.1 record (nI k13) x_5, s0_13.2.2.2.1, s0_13.2.2.2.2.1, s0_13.2.2.2.2.2.1, s0_13.2.2.2.2.2.2) ++ (cl_set Y ast st ++ (cl_lod Y ald ld))) (v := none) (st0 := [.int x_1, .int (nI k13), .int record, .ref (act 7)]) (As := [.int record, .int (nI k13), .int x_1]) (rest := []) (W1 := cl_grd Y (act 7) (act 8) 80 4 320 (m_X1_set 80 4 320 s0_13.2.2.2.1 record (nI k13) x_1)) (C := RX1) (b := act 7) (cl_cat Y act (s0_13.1, s0_13.2.1, m_X1_set 80 4 320 s0_13.2.2.1 record (nI k13) x_5, m_X1_set 80 4 320 s0_13.2.2.2.1 record (nI k13) x_1, s0_13.2.2.2.2.1, s0_13.2.2.2.2.2.1, s0_13.2.2.2.2.2.2) ++ (cl_set Y ast st ++ (cl_lod Y ald ld))) [0, 1, 2, 3, 4, 5, 6, 9, 10, 11, 12, 13, 14, 15, 16, 17, 18, 19, 20, 21, 22, 23, 24, 25, 26, 27, 28, 29, 30, 31, 32] ⟨hx, hb, hml, hown, hts⟩ (ct_X1_set l D Y (act 7) (act 8) 80 4 320 s0_13.2.2.2.1 record (nI k13) x_1 (by decide)) (cwV 3 hts gX0_layFields_X1_set rfl rfl rfl (by decide +kernel) ⟨Nat.le_of_ble_eq_true rfl, Nat.le_of_ble_eq_true rfl⟩) hG hP hD hS [7, 8] rfl (by decide +kernel) ⟨rfl, ⟨[(act 0, .inr (0, [.ref (act 1), .ref (act 3), .ref (act 5), .ref (act 7), .ref (act 9), .ref (act 11), .ref (act 13)])), (act 1, .inr (4, [.ref (act 2)])), (act 2, .inl (Y.1, 80, .inl s0_13.1)), (act 3, .inr (1, [.int 80, .int 3, .ref (act 4)])), (act 4, .inl (Y.1, 240, .inl s0_13.2.1)), (act 5, .inr (1, [.int 80, .int 4, .ref (act 6)])), (act 6, .inl (Y.1, 320, .inl (m_X1_set 80 4 320 s0_13.2.2.1 record (nI k13) x_5))), (act 9, .inr (1, [.int 80, .int 4, .ref (act 10)])), (act 10, .inl (Y.1, 320, .inl s0_13.2.2.2.2.1)), (act 11, .inr (4, [.ref (act 12)])), (act 12, .inl (Y.1, 80, .inl s0_13.2.2.2.2.2.1)), (act 13, .inr (4, [.ref (act 14)])), (act 14, .inl (Y.1, 80, .inl s0_13.2.2.2.2.2.2)), (ast 0, .inr (5, [.ref (ast 1), .ref (ast 3), .ref (ast 5)])), (ast 1, .inr (4, [.ref (ast 2)])), (ast 2, .inl (Y.1, 5, .inl st.1)), (ast 3, .inr (4, [.ref (ast 4)])), (ast 4, .inl (Y.1, 4, .inl st.2.1)), (ast 5, .inr (4, [.ref (ast 6)])), (ast 6, .inl (Y.1, 3, .inl st.2.2)), (ald 0, .inr (3, [.ref (ald 1), .ref (ald 3), .ref (ald 5), .ref (ald 7), .ref (ald 9), .int ld.2.2.2.2.2.1, .int ld.2.2.2.2.2.2])), (ald 1, .inr (1, [.int 81, .int 3, .ref (ald 2)])), (ald 2, .inl (Y.1, 243, .inl ld.1)), (ald 3, .inr (1, [.int 81, .int 4, .ref (ald 4)])), (ald 4, .inl (Y.1, 324, .inl ld.2.1)), (ald 5, .inr (4, [.ref (ald 6)])), (ald 6, .inl (Y.1, 80, .inl ld.2.2.1)), (ald 7, .inr (4, [.ref (ald 8)])), (ald 8, .inl (Y.1, 80, .inl ld.2.2.2.1)), (ald 9, .inr (4, [.ref (ald 10)])), (ald 10, .inl (Y.1, 10, .inl ld.2.2.2.2.1))], rfl, rfl⟩, 33, rfl, by decide +kernel⟩ ⟨[act 7, act 8], rfl, rfl⟩ 7 1 (qc := (RX1, TX1, 3)) (fs := [.int 80, .int 4, .ref (act 8)]) rfl rfl rfl rfl hl.1 rfl (Nat.le_of_ble_eq_true rfl) dX0_layFields_111 ⟨Nat.zero_le _, Nat.zero_le _⟩ (fun H locs hP hD hS => ?_)
              change W _ _ _ _ _ _ _ _ _ _ _ _ _ _ _ (F0 m 114 _ [])
              refine lv_iinc (v := nI (k13 + 1)) (lv' := [(6, .int (nI (k13 + 1))), (7, .int x_5), (5, .int x_1), (0, .ref (act 0)), (1, .ref (ast 0)), (2, .ref (ald 0)), (3, .int load), (4, .int record)]) hx hb dX0_layFields_114 hl (k := 1) rfl (nI_1 k13) (by decide) rfl (fun ls hl => ?_)
              refine lv_goto (tgt := 13) hx hb dX0_layFields_117 (by decide) ?_
              exact ih13 (k13 + 1) (s0_13.1, s0_13.2.1, m_X1_set 80 4 320 s0_13.2.2.1 record (nI k13) x_5, m_X1_set 80 4 320 s0_13.2.2.2.1 record (nI k13) x_1, s0_13.2.2.2.2.1, s0_13.2.2.2.2.2.1, s0_13.2.2.2.2.2.2) _ _ _ (by omega) (Eq.trans (by subst ex_5; subst ex_1; simp only [m_X0_layFields_lp13, eq_false c_6, eq_true c_7, eq_true c_8, ↓reduceIte, if_true, if_false]) hres13) hP hD hS (lv_sub hl [0, 2, 3, 4, 5, 6, 7] rfl)
            · refine lv_aload_n hx hb dX0_layFields_66 rfl (lv_at hl 4 rfl) ?_
              refine lv_iload hx hb dX0_layFields_67 (lv_at hl 1 rfl) ?_
              refine lv_iload hx hb dX0_layFields_69 (lv_at hl 2 rfl) ?_
              refine lv_aload_n hx hb dX0_layFields_71 rfl (lv_at hl 3 rfl) ?_
              refine va_get (D := D) (ci := 0) (v := .ref (act 7)) (C := RX0) (T := TX0) (N := 7) hx hb hts (fun _ h => List.mem_cons_of_mem _ (List.mem_append_left _ (List.mem_append_left _ (List.mem_append_left _ (List.mem_append_right _ h))))) hown hG.1 hP 0 rfl rfl 3 (by decide) (hts (.fieldLink RX0 32 "CatalogueLoader$Catalogue" "sources" "LCatalogueLoader$Grid;") (List.mem_of_getElem? (i := 3) rfl)) (fun _ h9 => h9) rfl dX0_layFields_72 ?_
              refine lv_iload hx hb dX0_layFields_75 (lv_at hl 7 rfl) ?_
              refine lv_iload hx hb dX0_layFields_77 (lv_at hl 1 rfl) ?_
              refine cq_RV (R := (cq_rm 2 44)) (args := ([.ref (act 0), .ref (ast 0), .ref (ald 0), .int load, .int record] : List Value).toArray) (y := yX1_get) (bytes := cX1_get) (cc := cX0_layFields) (maxL := 4) (nL := 8) (n := 2) (index := 83) (ret := (some .int)) (ws := wsX1_get) (rm := cq_rm 0 0) (Ts := wsX0_layFields) (own := RX0) (D := D) (Y := Y) (W0 := cl_grd Y (act 7) (act 8) 80 4 320 s0_13.2.2.2.1) (wl := cl_cat Y act s0_13 ++ (cl_set Y ast st ++ (cl_lod Y ald ld))) (v := some (.int (m_X1_get 80 4 320 s0_13.2.2.2.1 record (nI k13)))) (st0 := [.int (nI k13), .int record, .ref (act 7), .int x_1, .int (nI k13), .ref (ast 0)]) (As := [.int record, .int (nI k13)]) (rest := [.int x_1, .int (nI k13), .ref (ast 0)]) (C := RX1) (b := act 7) ⟨hx, hb, hml, hown, hts⟩ (ct_X1_get l D Y (act 7) (act 8) 80 4 320 s0_13.2.2.2.1 record (nI k13) (by decide)) (cwV 2 hts gX0_layFields_X1_get rfl rfl rfl (by decide +kernel) ⟨Nat.le_of_ble_eq_true rfl, Nat.le_of_ble_eq_true rfl⟩) hG hP hD [7, 8] rfl (by decide +kernel) 7 1 (qc := (RX1, TX1, 3)) (fs := [.int 80, .int 4, .ref (act 8)]) rfl rfl rfl rfl hl.1 rfl (Nat.le_of_ble_eq_true rfl) dX0_layFields_79 ⟨Nat.zero_le _, Nat.zero_le _⟩ ?_
              change W _ _ _ _ _ _ _ _ _ _ _ _ _ _ _ (F0 m 82 _ (.int (m_X1_get 80 4 320 s0_13.2.2.2.1 record (nI k13)) :: [.int x_1, .int (nI k13), .ref (ast 0)]))
              refine cq_RV (R := (cq_rm 2 44)) (args := ([.ref (act 0), .ref (ast 0), .ref (ald 0), .int load, .int record] : List Value).toArray) (y := yX5_replaces) (bytes := cX5_replaces) (cc := cX0_layFields) (maxL := 4) (nL := 8) (n := 3) (index := 94) (ret := (some .boolean)) (ws := wsX5_replaces) (rm := cq_rm 1 21) (Ts := wsX0_layFields) (own := RX0) (D := D) (Y := Y) (W0 := cl_set Y ast st) (wl := cl_cat Y act s0_13 ++ (cl_set Y ast st ++ (cl_lod Y ald ld))) (v := some (.int (m_X5_replaces st (nI k13) x_1 (m_X1_get 80 4 320 s0_13.2.2.2.1 record (nI k13))))) (st0 := [.int (m_X1_get 80 4 320 s0_13.2.2.2.1 record (nI k13)), .int x_1, .int (nI k13), .ref (ast 0)]) (As := [.int (nI k13), .int x_1, .int (m_X1_get 80 4 320 s0_13.2.2.2.1 record (nI k13))]) (rest := []) (C := RX5) (b := ast 0) ⟨hx, hb, hml, hown, hts⟩ (ct_X5_replaces l D Y ast st (nI k13) x_1 (m_X1_get 80 4 320 s0_13.2.2.2.1 record (nI k13))) (cwV 3 hts gX0_layFields_X5_replaces rfl rfl rfl (by decide +kernel) ⟨Nat.le_of_ble_eq_true rfl, Nat.le_of_ble_eq_true rfl⟩) hG hP hD [15, 16, 17, 18, 19, 20, 21] rfl (by decide +kernel) 15 5 (qc := (RX5, TX5, 3)) (fs := [.ref (ast 1), .ref (ast 3), .ref (ast 5)]) rfl rfl rfl rfl hl.1 rfl (Nat.le_of_ble_eq_true rfl) dX0_layFields_82 ⟨Nat.zero_le _, Nat.zero_le _⟩ ?_
              change W _ _ _ _ _ _ _ _ _ _ _ _ _ _ _ (F0 m 85 _ (.int (m_X5_replaces st (nI k13) x_1 (m_X1_get 80 4 320 s0_13.2.2.2.1 record (nI k13))) :: []))
              refine lv_if_eq (tgt := 114) hx hb dX0_layFields_85 (by decide) (fun c_9 => ?_) (fun c_9 => ?_)
              · refine lv_iinc (v := nI (k13 + 1)) (lv' := [(6, .int (nI (k13 + 1))), (7, .int x_5), (5, .int x_1), (0, .ref (act 0)), (1, .ref (ast 0)), (2, .ref (ald 0)), (3, .int load), (4, .int record)]) hx hb dX0_layFields_114 hl (k := 1) rfl (nI_1 k13) (by decide) rfl (fun ls hl => ?_)
                refine lv_goto (tgt := 13) hx hb dX0_layFields_117 (by decide) ?_
                exact ih13 (k13 + 1) s0_13 _ _ _ (by omega) (Eq.trans (by subst ex_5; subst ex_1; simp only [m_X0_layFields_lp13, eq_false c_6, eq_true c_7, eq_false c_8, eq_true c_9, ↓reduceIte, if_true, if_false]) hres13) hP hD hS (lv_sub hl [0, 2, 3, 4, 5, 6, 7] rfl)
              · refine lv_aload_n hx hb dX0_layFields_88 rfl (lv_at hl 3 rfl) ?_
                refine va_get (D := D) (ci := 0) (v := .ref (act 5)) (C := RX0) (T := TX0) (N := 7) hx hb hts (fun _ h => List.mem_cons_of_mem _ (List.mem_append_left _ (List.mem_append_left _ (List.mem_append_left _ (List.mem_append_right _ h))))) hown hG.1 hP 0 rfl rfl 2 (by decide) (hts (.fieldLink RX0 29 "CatalogueLoader$Catalogue" "fields" "LCatalogueLoader$Grid;") (List.mem_of_getElem? (i := 2) rfl)) (fun _ h9 => h9) rfl dX0_layFields_89 ?_
                refine lv_iload hx hb dX0_layFields_92 (lv_at hl 7 rfl) ?_
                refine lv_iload hx hb dX0_layFields_94 (lv_at hl 1 rfl) ?_
                refine lv_iload hx hb dX0_layFields_96 (lv_at hl 0 rfl) ?_
                refine cq_WV (R := (cq_rm 2 44)) (args := ([.ref (act 0), .ref (ast 0), .ref (ald 0), .int load, .int record] : List Value).toArray) (y := yX1_set) (bytes := cX1_set) (cc := cX0_layFields) (maxL := 5) (nL := 8) (n := 3) (index := 89) (ret := none) (ws := wsX1_set) (rm := cq_rm 0 0) (Ts := wsX0_layFields) (own := RX0) (D := D) (Y := Y) (W0 := cl_grd Y (act 5) (act 6) 80 4 320 s0_13.2.2.1) (wl := cl_cat Y act s0_13 ++ (cl_set Y ast st ++ (cl_lod Y ald ld))) (v := none) (st0 := [.int x_5, .int (nI k13), .int record, .ref (act 5)]) (As := [.int record, .int (nI k13), .int x_5]) (rest := []) (W1 := cl_grd Y (act 5) (act 6) 80 4 320 (m_X1_set 80 4 320 s0_13.2.2.1 record (nI k13) x_5)) (C := RX1) (b := act 5) (cl_cat Y act (s0_13.1, s0_13.2.1, m_X1_set 80 4 320 s0_13.2.2.1 record (nI k13) x_5, s0_13.2.2.2.1, s0_13.2.2.2.2.1, s0_13.2.2.2.2.2.1, s0_13.2.2.2.2.2.2) ++ (cl_set Y ast st ++ (cl_lod Y ald ld))) [0, 1, 2, 3, 4, 7, 8, 9, 10, 11, 12, 13, 14, 15, 16, 17, 18, 19, 20, 21, 22, 23, 24, 25, 26, 27, 28, 29, 30, 31, 32] ⟨hx, hb, hml, hown, hts⟩ (ct_X1_set l D Y (act 5) (act 6) 80 4 320 s0_13.2.2.1 record (nI k13) x_5 (by decide)) (cwV 3 hts gX0_layFields_X1_set rfl rfl rfl (by decide +kernel) ⟨Nat.le_of_ble_eq_true rfl, Nat.le_of_ble_eq_true rfl⟩) hG hP hD hS [5, 6] rfl (by decide +kernel) ⟨rfl, ⟨[(act 0, .inr (0, [.ref (act 1), .ref (act 3), .ref (act 5), .ref (act 7), .ref (act 9), .ref (act 11), .ref (act 13)])), (act 1, .inr (4, [.ref (act 2)])), (act 2, .inl (Y.1, 80, .inl s0_13.1)), (act 3, .inr (1, [.int 80, .int 3, .ref (act 4)])), (act 4, .inl (Y.1, 240, .inl s0_13.2.1)), (act 7, .inr (1, [.int 80, .int 4, .ref (act 8)])), (act 8, .inl (Y.1, 320, .inl s0_13.2.2.2.1)), (act 9, .inr (1, [.int 80, .int 4, .ref (act 10)])), (act 10, .inl (Y.1, 320, .inl s0_13.2.2.2.2.1)), (act 11, .inr (4, [.ref (act 12)])), (act 12, .inl (Y.1, 80, .inl s0_13.2.2.2.2.2.1)), (act 13, .inr (4, [.ref (act 14)])), (act 14, .inl (Y.1, 80, .inl s0_13.2.2.2.2.2.2)), (ast 0, .inr (5, [.ref (ast 1), .ref (ast 3), .ref (ast 5)])), (ast 1, .inr (4, [.ref (ast 2)])), (ast 2, .inl (Y.1, 5, .inl st.1)), (ast 3, .inr (4, [.ref (ast 4)])), (ast 4, .inl (Y.1, 4, .inl st.2.1)), (ast 5, .inr (4, [.ref (ast 6)])), (ast 6, .inl (Y.1, 3, .inl st.2.2)), (ald 0, .inr (3, [.ref (ald 1), .ref (ald 3), .ref (ald 5), .ref (ald 7), .ref (ald 9), .int ld.2.2.2.2.2.1, .int ld.2.2.2.2.2.2])), (ald 1, .inr (1, [.int 81, .int 3, .ref (ald 2)])), (ald 2, .inl (Y.1, 243, .inl ld.1)), (ald 3, .inr (1, [.int 81, .int 4, .ref (ald 4)])), (ald 4, .inl (Y.1, 324, .inl ld.2.1)), (ald 5, .inr (4, [.ref (ald 6)])), (ald 6, .inl (Y.1, 80, .inl ld.2.2.1)), (ald 7, .inr (4, [.ref (ald 8)])), (ald 8, .inl (Y.1, 80, .inl ld.2.2.2.1)), (ald 9, .inr (4, [.ref (ald 10)])), (ald 10, .inl (Y.1, 10, .inl ld.2.2.2.2.1))], rfl, rfl⟩, 33, rfl, by decide +kernel⟩ ⟨[act 5, act 6], rfl, rfl⟩ 5 1 (qc := (RX1, TX1, 3)) (fs := [.int 80, .int 4, .ref (act 6)]) rfl rfl rfl rfl hl.1 rfl (Nat.le_of_ble_eq_true rfl) dX0_layFields_98 ⟨Nat.zero_le _, Nat.zero_le _⟩ (fun H locs hP hD hS => ?_)
                change W _ _ _ _ _ _ _ _ _ _ _ _ _ _ _ (F0 m 101 _ [])
                refine lv_aload_n hx hb dX0_layFields_101 rfl (lv_at hl 3 rfl) ?_
                refine va_get (D := D) (ci := 0) (v := .ref (act 7)) (C := RX0) (T := TX0) (N := 7) hx hb hts (fun _ h => List.mem_cons_of_mem _ (List.mem_append_left _ (List.mem_append_left _ (List.mem_append_left _ (List.mem_append_right _ h))))) hown hG.1 hP 0 rfl rfl 3 (by decide) (hts (.fieldLink RX0 32 "CatalogueLoader$Catalogue" "sources" "LCatalogueLoader$Grid;") (List.mem_of_getElem? (i := 3) rfl)) (fun _ h9 => h9) rfl dX0_layFields_102 ?_
                refine lv_iload hx hb dX0_layFields_105 (lv_at hl 7 rfl) ?_
                refine lv_iload hx hb dX0_layFields_107 (lv_at hl 1 rfl) ?_
                refine lv_iload hx hb dX0_layFields_109 (lv_at hl 2 rfl) ?_
                refine cq_WV (R := (cq_rm 2 44)) (args := ([.ref (act 0), .ref (ast 0), .ref (ald 0), .int load, .int record] : List Value).toArray) (y := yX1_set) (bytes := cX1_set) (cc := cX0_layFields) (maxL := 5) (nL := 8) (n := 3) (index := 89) (ret := none) (ws := wsX1_set) (rm := cq_rm 0 0) (Ts := wsX0_layFields) (own := RX0) (D := D) (Y := Y) (W0 := cl_grd Y (act 7) (act 8) 80 4 320 s0_13.2.2.2.1) (wl := cl_cat Y act (s0_13.1, s0_13.2.1, m_X1_set 80 4 320 s0_13.2.2.1 record (nI k13) x_5, s0_13.2.2.2.1, s0_13.2.2.2.2.1, s0_13.2.2.2.2.2.1, s0_13.2.2.2.2.2.2) ++ (cl_set Y ast st ++ (cl_lod Y ald ld))) (v := none) (st0 := [.int x_1, .int (nI k13), .int record, .ref (act 7)]) (As := [.int record, .int (nI k13), .int x_1]) (rest := []) (W1 := cl_grd Y (act 7) (act 8) 80 4 320 (m_X1_set 80 4 320 s0_13.2.2.2.1 record (nI k13) x_1)) (C := RX1) (b := act 7) (cl_cat Y act (s0_13.1, s0_13.2.1, m_X1_set 80 4 320 s0_13.2.2.1 record (nI k13) x_5, m_X1_set 80 4 320 s0_13.2.2.2.1 record (nI k13) x_1, s0_13.2.2.2.2.1, s0_13.2.2.2.2.2.1, s0_13.2.2.2.2.2.2) ++ (cl_set Y ast st ++ (cl_lod Y ald ld))) [0, 1, 2, 3, 4, 5, 6, 9, 10, 11, 12, 13, 14, 15, 16, 17, 18, 19, 20, 21, 22, 23, 24, 25, 26, 27, 28, 29, 30, 31, 32] ⟨hx, hb, hml, hown, hts⟩ (ct_X1_set l D Y (act 7) (act 8) 80 4 320 s0_13.2.2.2.1 record (nI k13) x_1 (by decide)) (cwV 3 hts gX0_layFields_X1_set rfl rfl rfl (by decide +kernel) ⟨Nat.le_of_ble_eq_true rfl, Nat.le_of_ble_eq_true rfl⟩) hG hP hD hS [7, 8] rfl (by decide +kernel) ⟨rfl, ⟨[(act 0, .inr (0, [.ref (act 1), .ref (act 3), .ref (act 5), .ref (act 7), .ref (act 9), .ref (act 11), .ref (act 13)])), (act 1, .inr (4, [.ref (act 2)])), (act 2, .inl (Y.1, 80, .inl s0_13.1)), (act 3, .inr (1, [.int 80, .int 3, .ref (act 4)])), (act 4, .inl (Y.1, 240, .inl s0_13.2.1)), (act 5, .inr (1, [.int 80, .int 4, .ref (act 6)])), (act 6, .inl (Y.1, 320, .inl (m_X1_set 80 4 320 s0_13.2.2.1 record (nI k13) x_5))), (act 9, .inr (1, [.int 80, .int 4, .ref (act 10)])), (act 10, .inl (Y.1, 320, .inl s0_13.2.2.2.2.1)), (act 11, .inr (4, [.ref (act 12)])), (act 12, .inl (Y.1, 80, .inl s0_13.2.2.2.2.2.1)), (act 13, .inr (4, [.ref (act 14)])), (act 14, .inl (Y.1, 80, .inl s0_13.2.2.2.2.2.2)), (ast 0, .inr (5, [.ref (ast 1), .ref (ast 3), .ref (ast 5)])), (ast 1, .inr (4, [.ref (ast 2)])), (ast 2, .inl (Y.1, 5, .inl st.1)), (ast 3, .inr (4, [.ref (ast 4)])), (ast 4, .inl (Y.1, 4, .inl st.2.1)), (ast 5, .inr (4, [.ref (ast 6)])), (ast 6, .inl (Y.1, 3, .inl st.2.2)), (ald 0, .inr (3, [.ref (ald 1), .ref (ald 3), .ref (ald 5), .ref (ald 7), .ref (ald 9), .int ld.2.2.2.2.2.1, .int ld.2.2.2.2.2.2])), (ald 1, .inr (1, [.int 81, .int 3, .ref (ald 2)])), (ald 2, .inl (Y.1, 243, .inl ld.1)), (ald 3, .inr (1, [.int 81, .int 4, .ref (ald 4)])), (ald 4, .inl (Y.1, 324, .inl ld.2.1)), (ald 5, .inr (4, [.ref (ald 6)])), (ald 6, .inl (Y.1, 80, .inl ld.2.2.1)), (ald 7, .inr (4, [.ref (ald 8)])), (ald 8, .inl (Y.1, 80, .inl ld.2.2.2.1)), (ald 9, .inr (4, [.ref (ald 10)])), (ald 10, .inl (Y.1, 10, .inl ld.2.2.2.2.1))], rfl, rfl⟩, 33, rfl, by decide +kernel⟩ ⟨[act 7, act 8], rfl, rfl⟩ 7 1 (qc := (RX1, TX1, 3)) (fs := [.int 80, .int 4, .ref (act 8)]) rfl rfl rfl rfl hl.1 rfl (Nat.le_of_ble_eq_true rfl) dX0_layFields_111 ⟨Nat.zero_le _, Nat.zero_le _⟩ (fun H locs hP hD hS => ?_)
                change W _ _ _ _ _ _ _ _ _ _ _ _ _ _ _ (F0 m 114 _ [])
                refine lv_iinc (v := nI (k13 + 1)) (lv' := [(6, .int (nI (k13 + 1))), (7, .int x_5), (5, .int x_1), (0, .ref (act 0)), (1, .ref (ast 0)), (2, .ref (ald 0)), (3, .int load), (4, .int record)]) hx hb dX0_layFields_114 hl (k := 1) rfl (nI_1 k13) (by decide) rfl (fun ls hl => ?_)
                refine lv_goto (tgt := 13) hx hb dX0_layFields_117 (by decide) ?_
                exact ih13 (k13 + 1) (s0_13.1, s0_13.2.1, m_X1_set 80 4 320 s0_13.2.2.1 record (nI k13) x_5, m_X1_set 80 4 320 s0_13.2.2.2.1 record (nI k13) x_1, s0_13.2.2.2.2.1, s0_13.2.2.2.2.2.1, s0_13.2.2.2.2.2.2) _ _ _ (by omega) (Eq.trans (by subst ex_5; subst ex_1; simp only [m_X0_layFields_lp13, eq_false c_6, eq_true c_7, eq_false c_8, eq_false c_9, ↓reduceIte, if_true, if_false]) hres13) hP hD hS (lv_sub hl [0, 2, 3, 4, 5, 6, 7] rfl)
  exact lp13 4 0 ct _ _ _ (Nat.zero_add _) efin_2.symm hP hD hS (lv_sub hl [0, 1, 2, 3, 4, 5, 6] rfl)

def m_X0_take (ct : CatS) (st : SetS) (ld : LodS) (load : Int32) : CatS × Int32 := (if m_X3_isLeftOut ld load = 0 then (let x_2 := m_X0_target ct st ld load; (if x_2 < 0 then ((ct.1, ct.2.1, ct.2.2.1, ct.2.2.2.1, ct.2.2.2.2.1, ct.2.2.2.2.2.1, m_X4_set 80 ct.2.2.2.2.2.2 load x_2), x_2) else (let c_4 := m_X0_layKeys (m_X4_set 80 ct.1 x_2 1, ct.2.1, ct.2.2.1, ct.2.2.2.1, ct.2.2.2.2.1, ct.2.2.2.2.2.1, ct.2.2.2.2.2.2) ld load x_2; (let c_5 := m_X0_layFields c_4 st ld load x_2; ((c_5.1, c_5.2.1, c_5.2.2.1, c_5.2.2.2.1, c_5.2.2.2.2.1, c_5.2.2.2.2.2.1, m_X4_set 80 c_5.2.2.2.2.2.2 load x_2), x_2))))) else ((ct.1, ct.2.1, ct.2.2.1, ct.2.2.2.1, ct.2.2.2.2.1, ct.2.2.2.2.2.1, m_X4_set 80 ct.2.2.2.2.2.2 load (-1)), (-1)))
set_option maxHeartbeats 4000000 in
set_option maxRecDepth 100000 in
theorem ct_X0_take (l : Launch) (D : va_G) (Y : cq_Y) (act : Nat → Nat) (ct : CatS) (ast : Nat → Nat) (st : SetS) (ald : Nat → Nat) (ld : LodS) (load : Int32) : cq_MW l yX0_take wsX0_take (cq_rm 3 73) D Y (cl_cat Y act ct ++ (cl_set Y ast st ++ (cl_lod Y ald ld))) [.ref (act 0), .ref (ast 0), .ref (ald 0), .int load] (some (.int (m_X0_take ct st ld load).2)) (cl_cat Y act ((m_X0_take ct st ld load).1) ++ (cl_set Y ast st ++ (cl_lod Y ald ld))) := by
  refine cq_body (cc := cX0_take) (maxL := 5) (ret := (some .int)) (by decide) rfl (Nat.le_of_ble_eq_true rfl) ?_
  intro p e s m below meth c hE hP hG hD ls hl
  obtain ⟨hx, hb, hr, hml, hts, hown, hnm, hlocks⟩ := hE
  have hown : s.vm.findClass RX0 = some m.cls := hown
  have hS : va_S (cq_in (cl_cat Y act ct ++ (cl_set Y ast st ++ (cl_lod Y ald ld)))) s.heap s.heap [] := va_S.rf
  have hl : lv_has ls 5 [(0, .ref (act 0)), (1, .ref (ast 0)), (2, .ref (ald 0)), (3, .int load)] := hl
  refine lv_aload_n hx hb dX0_take_0 rfl (lv_at hl 2 rfl) ?_
  refine lv_iload_n hx hb dX0_take_1 rfl (lv_at hl 3 rfl) ?_
  refine cq_RV (R := (cq_rm 3 73)) (args := ([.ref (act 0), .ref (ast 0), .ref (ald 0), .int load] : List Value).toArray) (y := yX3_isLeftOut) (bytes := cX3_isLeftOut) (cc := cX0_take) (maxL := 2) (nL := 5) (n := 1) (index := 57) (ret := (some .boolean)) (ws := wsX3_isLeftOut) (rm := cq_rm 1 21) (Ts := wsX0_take) (own := RX0) (D := D) (Y := Y) (W0 := cl_lod Y ald ld) (wl := cl_cat Y act ct ++ (cl_set Y ast st ++ (cl_lod Y ald ld))) (v := some (.int (m_X3_isLeftOut ld load))) (st0 := [.int load, .ref (ald 0)]) (As := [.int load]) (rest := []) (C := RX3) (b := ald 0) ⟨hx, hb, hml, hown, hts⟩ (ct_X3_isLeftOut l D Y ald ld load) (cwV 1 hts gX0_take_X3_isLeftOut rfl rfl rfl (by decide +kernel) ⟨Nat.le_of_ble_eq_true rfl, Nat.le_of_ble_eq_true rfl⟩) hG hP hD [22, 23, 24, 25, 26, 27, 28, 29, 30, 31, 32] rfl (by decide +kernel) 22 3 (qc := (RX3, TX3, 7)) (fs := [.ref (ald 1), .ref (ald 3), .ref (ald 5), .ref (ald 7), .ref (ald 9), .int ld.2.2.2.2.2.1, .int ld.2.2.2.2.2.2]) rfl rfl rfl rfl hl.1 rfl (Nat.le_of_ble_eq_true rfl) dX0_take_2 ⟨Nat.zero_le _, Nat.zero_le _⟩ ?_
  change W _ _ _ _ _ _ _ _ _ _ _ _ _ _ _ (F0 m 5 _ (.int (m_X3_isLeftOut ld load) :: []))
  refine lv_if_eq (tgt := 12) hx hb dX0_take_5 (by decide) (fun c_1 => ?_) (fun c_1 => ?_)
  · refine lv_aload_n hx hb dX0_take_12 rfl (lv_at hl 0 rfl) ?_
    refine lv_aload_n hx hb dX0_take_13 rfl (lv_at hl 1 rfl) ?_
    refine lv_aload_n hx hb dX0_take_14 rfl (lv_at hl 2 rfl) ?_
    refine lv_iload_n hx hb dX0_take_15 rfl (lv_at hl 3 rfl) ?_
    refine cq_RV (R := (cq_rm 3 73)) (args := ([.ref (act 0), .ref (ast 0), .ref (ald 0), .int load] : List Value).toArray) (y := yX0_target) (bytes := cX0_target) (cc := cX0_take) (maxL := 7) (nL := 5) (n := 3) (index := 62) (ret := (some .int)) (ws := wsX0_target) (rm := cq_rm 2 47) (Ts := wsX0_take) (own := RX0) (D := D) (Y := Y) (W0 := cl_cat Y act ct ++ (cl_set Y ast st ++ (cl_lod Y ald ld))) (wl := cl_cat Y act ct ++ (cl_set Y ast st ++ (cl_lod Y ald ld))) (v := some (.int (m_X0_target ct st ld load))) (st0 := [.int load, .ref (ald 0), .ref (ast 0), .ref (act 0)]) (As := [.ref (ast 0), .ref (ald 0), .int load]) (rest := []) (C := RX0) (b := act 0) ⟨hx, hb, hml, hown, hts⟩ (ct_X0_target l D Y act ct ast st ald ld load) (cwV 3 hts gX0_take_X0_target rfl rfl rfl (by decide +kernel) ⟨Nat.le_of_ble_eq_true rfl, Nat.le_of_ble_eq_true rfl⟩) hG hP hD [0, 1, 2, 3, 4, 5, 6, 7, 8, 9, 10, 11, 12, 13, 14, 15, 16, 17, 18, 19, 20, 21, 22, 23, 24, 25, 26, 27, 28, 29, 30, 31, 32] rfl (by decide +kernel) 0 0 (qc := (RX0, TX0, 7)) (fs := [.ref (act 1), .ref (act 3), .ref (act 5), .ref (act 7), .ref (act 9), .ref (act 11), .ref (act 13)]) rfl rfl rfl rfl hl.1 rfl (Nat.le_of_ble_eq_true rfl) dX0_take_16 ⟨Nat.zero_le _, Nat.zero_le _⟩ ?_
    change W _ _ _ _ _ _ _ _ _ _ _ _ _ _ _ (F0 m 19 _ (.int (m_X0_target ct st ld load) :: []))
    refine lv_topi (fun x_2 ex_2 => ?_)
    refine lv_istore (lv' := [(4, .int x_2), (0, .ref (act 0)), (1, .ref (ast 0)), (2, .ref (ald 0)), (3, .int load)]) hx hb dX0_take_19 hl (by decide) rfl (fun ls hl => ?_)
    refine lv_iload hx hb dX0_take_21 (lv_at hl 0 rfl) ?_
    refine lv_if_lt (tgt := 53) hx hb dX0_take_23 (by decide) (fun c_3 => ?_) (fun c_3 => ?_)
    · refine lv_aload_n hx hb dX0_take_53 rfl (lv_at hl 1 rfl) ?_
      refine va_get (D := D) (ci := 0) (v := .ref (act 13)) (C := RX0) (T := TX0) (N := 7) hx hb hts (fun _ h => List.mem_cons_of_mem _ (List.mem_append_left _ (List.mem_append_left _ (List.mem_append_left _ (List.mem_append_left _ (List.mem_append_right _ h)))))) hown hG.1 hP 0 rfl rfl 6 (by decide) (hts (.fieldLink RX0 41 "CatalogueLoader$Catalogue" "hits" "LCatalogueLoader$Row;") (List.mem_of_getElem? (i := 2) rfl)) (fun _ h9 => h9) rfl dX0_take_54 ?_
      refine lv_iload_n hx hb dX0_take_57 rfl (lv_at hl 4 rfl) ?_
      refine lv_iload hx hb dX0_take_58 (lv_at hl 0 rfl) ?_
      refine cq_WV (R := (cq_rm 3 73)) (args := ([.ref (act 0), .ref (ast 0), .ref (ald 0), .int load] : List Value).toArray) (y := yX4_set) (bytes := cX4_set) (cc := cX0_take) (maxL := 3) (nL := 5) (n := 2) (index := 66) (ret := none) (ws := wsX4_set) (rm := cq_rm 0 0) (Ts := wsX0_take) (own := RX0) (D := D) (Y := Y) (W0 := cl_row Y (act 13) (act 14) 80 ct.2.2.2.2.2.2) (wl := cl_cat Y act ct ++ (cl_set Y ast st ++ (cl_lod Y ald ld))) (v := none) (st0 := [.int x_2, .int load, .ref (act 13)]) (As := [.int load, .int x_2]) (rest := []) (W1 := cl_row Y (act 13) (act 14) 80 (m_X4_set 80 ct.2.2.2.2.2.2 load x_2)) (C := RX4) (b := act 13) (cl_cat Y act (ct.1, ct.2.1, ct.2.2.1, ct.2.2.2.1, ct.2.2.2.2.1, ct.2.2.2.2.2.1, m_X4_set 80 ct.2.2.2.2.2.2 load x_2) ++ (cl_set Y ast st ++ (cl_lod Y ald ld))) [0, 1, 2, 3, 4, 5, 6, 7, 8, 9, 10, 11, 12, 15, 16, 17, 18, 19, 20, 21, 22, 23, 24, 25, 26, 27, 28, 29, 30, 31, 32] ⟨hx, hb, hml, hown, hts⟩ (ct_X4_set l D Y (act 13) (act 14) 80 ct.2.2.2.2.2.2 load x_2 (by decide)) (cwV 2 hts gX0_take_X4_set rfl rfl rfl (by decide +kernel) ⟨Nat.le_of_ble_eq_true rfl, Nat.le_of_ble_eq_true rfl⟩) hG hP hD hS [13, 14] rfl (by decide +kernel) ⟨rfl, ⟨[(act 0, .inr (0, [.ref (act 1), .ref (act 3), .ref (act 5), .ref (act 7), .ref (act 9), .ref (act 11), .ref (act 13)])), (act 1, .inr (4, [.ref (act 2)])), (act 2, .inl (Y.1, 80, .inl ct.1)), (act 3, .inr (1, [.int 80, .int 3, .ref (act 4)])), (act 4, .inl (Y.1, 240, .inl ct.2.1)), (act 5, .inr (1, [.int 80, .int 4, .ref (act 6)])), (act 6, .inl (Y.1, 320, .inl ct.2.2.1)), (act 7, .inr (1, [.int 80, .int 4, .ref (act 8)])), (act 8, .inl (Y.1, 320, .inl ct.2.2.2.1)), (act 9, .inr (1, [.int 80, .int 4, .ref (act 10)])), (act 10, .inl (Y.1, 320, .inl ct.2.2.2.2.1)), (act 11, .inr (4, [.ref (act 12)])), (act 12, .inl (Y.1, 80, .inl ct.2.2.2.2.2.1)), (ast 0, .inr (5, [.ref (ast 1), .ref (ast 3), .ref (ast 5)])), (ast 1, .inr (4, [.ref (ast 2)])), (ast 2, .inl (Y.1, 5, .inl st.1)), (ast 3, .inr (4, [.ref (ast 4)])), (ast 4, .inl (Y.1, 4, .inl st.2.1)), (ast 5, .inr (4, [.ref (ast 6)])), (ast 6, .inl (Y.1, 3, .inl st.2.2)), (ald 0, .inr (3, [.ref (ald 1), .ref (ald 3), .ref (ald 5), .ref (ald 7), .ref (ald 9), .int ld.2.2.2.2.2.1, .int ld.2.2.2.2.2.2])), (ald 1, .inr (1, [.int 81, .int 3, .ref (ald 2)])), (ald 2, .inl (Y.1, 243, .inl ld.1)), (ald 3, .inr (1, [.int 81, .int 4, .ref (ald 4)])), (ald 4, .inl (Y.1, 324, .inl ld.2.1)), (ald 5, .inr (4, [.ref (ald 6)])), (ald 6, .inl (Y.1, 80, .inl ld.2.2.1)), (ald 7, .inr (4, [.ref (ald 8)])), (ald 8, .inl (Y.1, 80, .inl ld.2.2.2.1)), (ald 9, .inr (4, [.ref (ald 10)])), (ald 10, .inl (Y.1, 10, .inl ld.2.2.2.2.1))], rfl, rfl⟩, 33, rfl, by decide +kernel⟩ ⟨[act 13, act 14], rfl, rfl⟩ 13 4 (qc := (RX4, TX4, 1)) (fs := [.ref (act 14)]) rfl rfl rfl rfl hl.1 rfl (Nat.le_of_ble_eq_true rfl) dX0_take_60 ⟨Nat.zero_le _, Nat.zero_le _⟩ (fun H locs hP hD hS => ?_)
      change W _ _ _ _ _ _ _ _ _ _ _ _ _ _ _ (F0 m 63 _ [])
      refine lv_iload hx hb dX0_take_63 (lv_at hl 0 rfl) ?_
      exact cq_wI (wl := cl_cat Y act (ct.1, ct.2.1, ct.2.2.1, ct.2.2.2.1, ct.2.2.2.2.1, ct.2.2.2.2.2.1, m_X4_set 80 ct.2.2.2.2.2.2 load x_2) ++ (cl_set Y ast st ++ (cl_lod Y ald ld))) hx hb hr hlocks (vp_nar_int _) hP hS (by subst ex_2; simp only [m_X0_take, eq_true c_1, eq_true c_3, ↓reduceIte, if_true, if_false]) (by subst ex_2; simp only [m_X0_take, eq_true c_1, eq_true c_3, ↓reduceIte, if_true, if_false]) dX0_take_65
    · refine lv_aload_n hx hb dX0_take_26 rfl (lv_at hl 1 rfl) ?_
      refine va_get (D := D) (ci := 0) (v := .ref (act 1)) (C := RX0) (T := TX0) (N := 7) hx hb hts (fun _ h => List.mem_cons_of_mem _ (List.mem_append_left _ (List.mem_append_left _ (List.mem_append_left _ (List.mem_append_left _ (List.mem_append_right _ h)))))) hown hG.1 hP 0 rfl rfl 0 (by decide) (hts (.fieldLink RX0 14 "CatalogueLoader$Catalogue" "there" "LCatalogueLoader$Row;") (List.mem_of_getElem? (i := 1) rfl)) (fun _ h9 => h9) rfl dX0_take_27 ?_
      refine lv_iload hx hb dX0_take_30 (lv_at hl 0 rfl) ?_
      refine lv_iconst (v := 1) hx hb dX0_take_32 (by decide) ?_
      refine cq_WV (R := (cq_rm 3 73)) (args := ([.ref (act 0), .ref (ast 0), .ref (ald 0), .int load] : List Value).toArray) (y := yX4_set) (bytes := cX4_set) (cc := cX0_take) (maxL := 3) (nL := 5) (n := 2) (index := 66) (ret := none) (ws := wsX4_set) (rm := cq_rm 0 0) (Ts := wsX0_take) (own := RX0) (D := D) (Y := Y) (W0 := cl_row Y (act 1) (act 2) 80 ct.1) (wl := cl_cat Y act ct ++ (cl_set Y ast st ++ (cl_lod Y ald ld))) (v := none) (st0 := [.int 1, .int x_2, .ref (act 1)]) (As := [.int x_2, .int 1]) (rest := []) (W1 := cl_row Y (act 1) (act 2) 80 (m_X4_set 80 ct.1 x_2 1)) (C := RX4) (b := act 1) (cl_cat Y act (m_X4_set 80 ct.1 x_2 1, ct.2.1, ct.2.2.1, ct.2.2.2.1, ct.2.2.2.2.1, ct.2.2.2.2.2.1, ct.2.2.2.2.2.2) ++ (cl_set Y ast st ++ (cl_lod Y ald ld))) [0, 3, 4, 5, 6, 7, 8, 9, 10, 11, 12, 13, 14, 15, 16, 17, 18, 19, 20, 21, 22, 23, 24, 25, 26, 27, 28, 29, 30, 31, 32] ⟨hx, hb, hml, hown, hts⟩ (ct_X4_set l D Y (act 1) (act 2) 80 ct.1 x_2 1 (by decide)) (cwV 2 hts gX0_take_X4_set rfl rfl rfl (by decide +kernel) ⟨Nat.le_of_ble_eq_true rfl, Nat.le_of_ble_eq_true rfl⟩) hG hP hD hS [1, 2] rfl (by decide +kernel) ⟨rfl, ⟨[(act 0, .inr (0, [.ref (act 1), .ref (act 3), .ref (act 5), .ref (act 7), .ref (act 9), .ref (act 11), .ref (act 13)])), (act 3, .inr (1, [.int 80, .int 3, .ref (act 4)])), (act 4, .inl (Y.1, 240, .inl ct.2.1)), (act 5, .inr (1, [.int 80, .int 4, .ref (act 6)])), (act 6, .inl (Y.1, 320, .inl ct.2.2.1)), (act 7, .inr (1, [.int 80, .int 4, .ref (act 8)])), (act 8, .inl (Y.1, 320, .inl ct.2.2.2.1)), (act 9, .inr (1, [.int 80, .int 4, .ref (act 10)])), (act 10, .inl (Y.1, 320, .inl ct.2.2.2.2.1)), (act 11, .inr (4, [.ref (act 12)])), (act 12, .inl (Y.1, 80, .inl ct.2.2.2.2.2.1)), (act 13, .inr (4, [.ref (act 14)])), (act 14, .inl (Y.1, 80, .inl ct.2.2.2.2.2.2)), (ast 0, .inr (5, [.ref (ast 1), .ref (ast 3), .ref (ast 5)])), (ast 1, .inr (4, [.ref (ast 2)])), (ast 2, .inl (Y.1, 5, .inl st.1)), (ast 3, .inr (4, [.ref (ast 4)])), (ast 4, .inl (Y.1, 4, .inl st.2.1)), (ast 5, .inr (4, [.ref (ast 6)])), (ast 6, .inl (Y.1, 3, .inl st.2.2)), (ald 0, .inr (3, [.ref (ald 1), .ref (ald 3), .ref (ald 5), .ref (ald 7), .ref (ald 9), .int ld.2.2.2.2.2.1, .int ld.2.2.2.2.2.2])), (ald 1, .inr (1, [.int 81, .int 3, .ref (ald 2)])), (ald 2, .inl (Y.1, 243, .inl ld.1)), (ald 3, .inr (1, [.int 81, .int 4, .ref (ald 4)])), (ald 4, .inl (Y.1, 324, .inl ld.2.1)), (ald 5, .inr (4, [.ref (ald 6)])), (ald 6, .inl (Y.1, 80, .inl ld.2.2.1)), (ald 7, .inr (4, [.ref (ald 8)])), (ald 8, .inl (Y.1, 80, .inl ld.2.2.2.1)), (ald 9, .inr (4, [.ref (ald 10)])), (ald 10, .inl (Y.1, 10, .inl ld.2.2.2.2.1))], rfl, rfl⟩, 33, rfl, by decide +kernel⟩ ⟨[act 1, act 2], rfl, rfl⟩ 1 4 (qc := (RX4, TX4, 1)) (fs := [.ref (act 2)]) rfl rfl rfl rfl hl.1 rfl (Nat.le_of_ble_eq_true rfl) dX0_take_33 ⟨Nat.zero_le _, Nat.zero_le _⟩ (fun H locs hP hD hS => ?_)
      change W _ _ _ _ _ _ _ _ _ _ _ _ _ _ _ (F0 m 36 _ [])
      refine lv_aload_n hx hb dX0_take_36 rfl (lv_at hl 1 rfl) ?_
      refine lv_aload_n hx hb dX0_take_37 rfl (lv_at hl 3 rfl) ?_
      refine lv_iload_n hx hb dX0_take_38 rfl (lv_at hl 4 rfl) ?_
      refine lv_iload hx hb dX0_take_39 (lv_at hl 0 rfl) ?_
      refine cq_WV (R := (cq_rm 3 73)) (args := ([.ref (act 0), .ref (ast 0), .ref (ald 0), .int load] : List Value).toArray) (y := yX0_layKeys) (bytes := cX0_layKeys) (cc := cX0_take) (maxL := 5) (nL := 5) (n := 3) (index := 69) (ret := none) (ws := wsX0_layKeys) (rm := cq_rm 1 24) (Ts := wsX0_take) (own := RX0) (D := D) (Y := Y) (W0 := cl_cat Y act (m_X4_set 80 ct.1 x_2 1, ct.2.1, ct.2.2.1, ct.2.2.2.1, ct.2.2.2.2.1, ct.2.2.2.2.2.1, ct.2.2.2.2.2.2) ++ (cl_lod Y ald ld)) (wl := cl_cat Y act (m_X4_set 80 ct.1 x_2 1, ct.2.1, ct.2.2.1, ct.2.2.2.1, ct.2.2.2.2.1, ct.2.2.2.2.2.1, ct.2.2.2.2.2.2) ++ (cl_set Y ast st ++ (cl_lod Y ald ld))) (v := none) (st0 := [.int x_2, .int load, .ref (ald 0), .ref (act 0)]) (As := [.ref (ald 0), .int load, .int x_2]) (rest := []) (W1 := cl_cat Y act (m_X0_layKeys (m_X4_set 80 ct.1 x_2 1, ct.2.1, ct.2.2.1, ct.2.2.2.1, ct.2.2.2.2.1, ct.2.2.2.2.2.1, ct.2.2.2.2.2.2) ld load x_2) ++ (cl_lod Y ald ld)) (C := RX0) (b := act 0) (cl_cat Y act (m_X0_layKeys (m_X4_set 80 ct.1 x_2 1, ct.2.1, ct.2.2.1, ct.2.2.2.1, ct.2.2.2.2.1, ct.2.2.2.2.2.1, ct.2.2.2.2.2.2) ld load x_2) ++ (cl_set Y ast st ++ (cl_lod Y ald ld))) [15, 16, 17, 18, 19, 20, 21] ⟨hx, hb, hml, hown, hts⟩ (ct_X0_layKeys l D Y act (m_X4_set 80 ct.1 x_2 1, ct.2.1, ct.2.2.1, ct.2.2.2.1, ct.2.2.2.2.1, ct.2.2.2.2.2.1, ct.2.2.2.2.2.2) ald ld load x_2) (cwV 3 hts gX0_take_X0_layKeys rfl rfl rfl (by decide +kernel) ⟨Nat.le_of_ble_eq_true rfl, Nat.le_of_ble_eq_true rfl⟩) hG hP hD hS [0, 1, 2, 3, 4, 5, 6, 7, 8, 9, 10, 11, 12, 13, 14, 22, 23, 24, 25, 26, 27, 28, 29, 30, 31, 32] rfl (by decide +kernel) ⟨rfl, ⟨[(ast 0, .inr (5, [.ref (ast 1), .ref (ast 3), .ref (ast 5)])), (ast 1, .inr (4, [.ref (ast 2)])), (ast 2, .inl (Y.1, 5, .inl st.1)), (ast 3, .inr (4, [.ref (ast 4)])), (ast 4, .inl (Y.1, 4, .inl st.2.1)), (ast 5, .inr (4, [.ref (ast 6)])), (ast 6, .inl (Y.1, 3, .inl st.2.2))], rfl, rfl⟩, 33, rfl, by decide +kernel⟩ ⟨[act 0, act 1, act 2, act 3, act 4, act 5, act 6, act 7, act 8, act 9, act 10, act 11, act 12, act 13, act 14, ald 0, ald 1, ald 2, ald 3, ald 4, ald 5, ald 6, ald 7, ald 8, ald 9, ald 10], rfl, rfl⟩ 0 0 (qc := (RX0, TX0, 7)) (fs := [.ref (act 1), .ref (act 3), .ref (act 5), .ref (act 7), .ref (act 9), .ref (act 11), .ref (act 13)]) rfl rfl rfl rfl hl.1 rfl (Nat.le_of_ble_eq_true rfl) dX0_take_41 ⟨Nat.zero_le _, Nat.zero_le _⟩ (fun H locs hP hD hS => ?_)
      obtain ⟨c_4, ec_4⟩ : ∃ z, z = m_X0_layKeys (m_X4_set 80 ct.1 x_2 1, ct.2.1, ct.2.2.1, ct.2.2.2.1, ct.2.2.2.2.1, ct.2.2.2.2.2.1, ct.2.2.2.2.2.2) ld load x_2 := ⟨_, rfl⟩
      rw [← ec_4] at hP hD
      change W _ _ _ _ _ _ _ _ _ _ _ _ _ _ _ (F0 m 44 _ [])
      refine lv_aload_n hx hb dX0_take_44 rfl (lv_at hl 1 rfl) ?_
      refine lv_aload_n hx hb dX0_take_45 rfl (lv_at hl 2 rfl) ?_
      refine lv_aload_n hx hb dX0_take_46 rfl (lv_at hl 3 rfl) ?_
      refine lv_iload_n hx hb dX0_take_47 rfl (lv_at hl 4 rfl) ?_
      refine lv_iload hx hb dX0_take_48 (lv_at hl 0 rfl) ?_
      refine cq_WV (R := (cq_rm 3 73)) (args := ([.ref (act 0), .ref (ast 0), .ref (ald 0), .int load] : List Value).toArray) (y := yX0_layFields) (bytes := cX0_layFields) (cc := cX0_take) (maxL := 8) (nL := 5) (n := 4) (index := 73) (ret := none) (ws := wsX0_layFields) (rm := cq_rm 2 44) (Ts := wsX0_take) (own := RX0) (D := D) (Y := Y) (W0 := cl_cat Y act c_4 ++ (cl_set Y ast st ++ (cl_lod Y ald ld))) (wl := cl_cat Y act c_4 ++ (cl_set Y ast st ++ (cl_lod Y ald ld))) (v := none) (st0 := [.int x_2, .int load, .ref (ald 0), .ref (ast 0), .ref (act 0)]) (As := [.ref (ast 0), .ref (ald 0), .int load, .int x_2]) (rest := []) (W1 := cl_cat Y act (m_X0_layFields c_4 st ld load x_2) ++ (cl_set Y ast st ++ (cl_lod Y ald ld))) (C := RX0) (b := act 0) (cl_cat Y act (m_X0_layFields c_4 st ld load x_2) ++ (cl_set Y ast st ++ (cl_lod Y ald ld))) [] ⟨hx, hb, hml, hown, hts⟩ (ct_X0_layFields l D Y act c_4 ast st ald ld load x_2) (cwV 4 hts gX0_take_X0_layFields rfl rfl rfl (by decide +kernel) ⟨Nat.le_of_ble_eq_true rfl, Nat.le_of_ble_eq_true rfl⟩) hG hP hD hS [0, 1, 2, 3, 4, 5, 6, 7, 8, 9, 10, 11, 12, 13, 14, 15, 16, 17, 18, 19, 20, 21, 22, 23, 24, 25, 26, 27, 28, 29, 30, 31, 32] rfl (by decide +kernel) ⟨rfl, ⟨[], rfl, rfl⟩, 33, rfl, by decide +kernel⟩ ⟨[act 0, act 1, act 2, act 3, act 4, act 5, act 6, act 7, act 8, act 9, act 10, act 11, act 12, act 13, act 14, ast 0, ast 1, ast 2, ast 3, ast 4, ast 5, ast 6, ald 0, ald 1, ald 2, ald 3, ald 4, ald 5, ald 6, ald 7, ald 8, ald 9, ald 10], rfl, rfl⟩ 0 0 (qc := (RX0, TX0, 7)) (fs := [.ref (act 1), .ref (act 3), .ref (act 5), .ref (act 7), .ref (act 9), .ref (act 11), .ref (act 13)]) rfl rfl rfl rfl hl.1 rfl (Nat.le_of_ble_eq_true rfl) dX0_take_50 ⟨Nat.zero_le _, Nat.zero_le _⟩ (fun H locs hP hD hS => ?_)
      obtain ⟨c_5, ec_5⟩ : ∃ z, z = m_X0_layFields c_4 st ld load x_2 := ⟨_, rfl⟩
      rw [← ec_5] at hP hD
      change W _ _ _ _ _ _ _ _ _ _ _ _ _ _ _ (F0 m 53 _ [])
      refine lv_aload_n hx hb dX0_take_53 rfl (lv_at hl 1 rfl) ?_
      refine va_get (D := D) (ci := 0) (v := .ref (act 13)) (C := RX0) (T := TX0) (N := 7) hx hb hts (fun _ h => List.mem_cons_of_mem _ (List.mem_append_left _ (List.mem_append_left _ (List.mem_append_left _ (List.mem_append_left _ (List.mem_append_right _ h)))))) hown hG.1 hP 0 rfl rfl 6 (by decide) (hts (.fieldLink RX0 41 "CatalogueLoader$Catalogue" "hits" "LCatalogueLoader$Row;") (List.mem_of_getElem? (i := 2) rfl)) (fun _ h9 => h9) rfl dX0_take_54 ?_
      refine lv_iload_n hx hb dX0_take_57 rfl (lv_at hl 4 rfl) ?_
      refine lv_iload hx hb dX0_take_58 (lv_at hl 0 rfl) ?_
      refine cq_WV (R := (cq_rm 3 73)) (args := ([.ref (act 0), .ref (ast 0), .ref (ald 0), .int load] : List Value).toArray) (y := yX4_set) (bytes := cX4_set) (cc := cX0_take) (maxL := 3) (nL := 5) (n := 2) (index := 66) (ret := none) (ws := wsX4_set) (rm := cq_rm 0 0) (Ts := wsX0_take) (own := RX0) (D := D) (Y := Y) (W0 := cl_row Y (act 13) (act 14) 80 c_5.2.2.2.2.2.2) (wl := cl_cat Y act c_5 ++ (cl_set Y ast st ++ (cl_lod Y ald ld))) (v := none) (st0 := [.int x_2, .int load, .ref (act 13)]) (As := [.int load, .int x_2]) (rest := []) (W1 := cl_row Y (act 13) (act 14) 80 (m_X4_set 80 c_5.2.2.2.2.2.2 load x_2)) (C := RX4) (b := act 13) (cl_cat Y act (c_5.1, c_5.2.1, c_5.2.2.1, c_5.2.2.2.1, c_5.2.2.2.2.1, c_5.2.2.2.2.2.1, m_X4_set 80 c_5.2.2.2.2.2.2 load x_2) ++ (cl_set Y ast st ++ (cl_lod Y ald ld))) [0, 1, 2, 3, 4, 5, 6, 7, 8, 9, 10, 11, 12, 15, 16, 17, 18, 19, 20, 21, 22, 23, 24, 25, 26, 27, 28, 29, 30, 31, 32] ⟨hx, hb, hml, hown, hts⟩ (ct_X4_set l D Y (act 13) (act 14) 80 c_5.2.2.2.2.2.2 load x_2 (by decide)) (cwV 2 hts gX0_take_X4_set rfl rfl rfl (by decide +kernel) ⟨Nat.le_of_ble_eq_true rfl, Nat.le_of_ble_eq_true rfl⟩) hG hP hD hS [13, 14] rfl (by decide +kernel) ⟨rfl, ⟨[(act 0, .inr (0, [.ref (act 1), .ref (act 3), .ref (act 5), .ref (act 7), .ref (act 9), .ref (act 11), .ref (act 13)])), (act 1, .inr (4, [.ref (act 2)])), (act 2, .inl (Y.1, 80, .inl c_5.1)), (act 3, .inr (1, [.int 80, .int 3, .ref (act 4)])), (act 4, .inl (Y.1, 240, .inl c_5.2.1)), (act 5, .inr (1, [.int 80, .int 4, .ref (act 6)])), (act 6, .inl (Y.1, 320, .inl c_5.2.2.1)), (act 7, .inr (1, [.int 80, .int 4, .ref (act 8)])), (act 8, .inl (Y.1, 320, .inl c_5.2.2.2.1)), (act 9, .inr (1, [.int 80, .int 4, .ref (act 10)])), (act 10, .inl (Y.1, 320, .inl c_5.2.2.2.2.1)), (act 11, .inr (4, [.ref (act 12)])), (act 12, .inl (Y.1, 80, .inl c_5.2.2.2.2.2.1)), (ast 0, .inr (5, [.ref (ast 1), .ref (ast 3), .ref (ast 5)])), (ast 1, .inr (4, [.ref (ast 2)])), (ast 2, .inl (Y.1, 5, .inl st.1)), (ast 3, .inr (4, [.ref (ast 4)])), (ast 4, .inl (Y.1, 4, .inl st.2.1)), (ast 5, .inr (4, [.ref (ast 6)])), (ast 6, .inl (Y.1, 3, .inl st.2.2)), (ald 0, .inr (3, [.ref (ald 1), .ref (ald 3), .ref (ald 5), .ref (ald 7), .ref (ald 9), .int ld.2.2.2.2.2.1, .int ld.2.2.2.2.2.2])), (ald 1, .inr (1, [.int 81, .int 3, .ref (ald 2)])), (ald 2, .inl (Y.1, 243, .inl ld.1)), (ald 3, .inr (1, [.int 81, .int 4, .ref (ald 4)])), (ald 4, .inl (Y.1, 324, .inl ld.2.1)), (ald 5, .inr (4, [.ref (ald 6)])), (ald 6, .inl (Y.1, 80, .inl ld.2.2.1)), (ald 7, .inr (4, [.ref (ald 8)])), (ald 8, .inl (Y.1, 80, .inl ld.2.2.2.1)), (ald 9, .inr (4, [.ref (ald 10)])), (ald 10, .inl (Y.1, 10, .inl ld.2.2.2.2.1))], rfl, rfl⟩, 33, rfl, by decide +kernel⟩ ⟨[act 13, act 14], rfl, rfl⟩ 13 4 (qc := (RX4, TX4, 1)) (fs := [.ref (act 14)]) rfl rfl rfl rfl hl.1 rfl (Nat.le_of_ble_eq_true rfl) dX0_take_60 ⟨Nat.zero_le _, Nat.zero_le _⟩ (fun H locs hP hD hS => ?_)
      change W _ _ _ _ _ _ _ _ _ _ _ _ _ _ _ (F0 m 63 _ [])
      refine lv_iload hx hb dX0_take_63 (lv_at hl 0 rfl) ?_
      exact cq_wI (wl := cl_cat Y act (c_5.1, c_5.2.1, c_5.2.2.1, c_5.2.2.2.1, c_5.2.2.2.2.1, c_5.2.2.2.2.2.1, m_X4_set 80 c_5.2.2.2.2.2.2 load x_2) ++ (cl_set Y ast st ++ (cl_lod Y ald ld))) hx hb hr hlocks (vp_nar_int _) hP hS (by subst ec_5; subst ec_4; subst ex_2; simp only [m_X0_take, eq_true c_1, eq_false c_3, ↓reduceIte, if_true, if_false]) (by subst ec_5; subst ec_4; subst ex_2; simp only [m_X0_take, eq_true c_1, eq_false c_3, ↓reduceIte, if_true, if_false]) dX0_take_65
  · refine lv_iconst (v := (-1)) hx hb dX0_take_8 (by decide) ?_
    refine lv_goto (tgt := 19) hx hb dX0_take_9 (by decide) ?_
    refine lv_istore (lv' := [(4, .int (-1)), (0, .ref (act 0)), (1, .ref (ast 0)), (2, .ref (ald 0)), (3, .int load)]) hx hb dX0_take_19 hl (by decide) rfl (fun ls hl => ?_)
    refine lv_iload hx hb dX0_take_21 (lv_at hl 0 rfl) ?_
    refine lv_if_lt (tgt := 53) hx hb dX0_take_23 (by decide) (fun c_6 => ?_) (fun c_6 => ?_)
    · refine lv_aload_n hx hb dX0_take_53 rfl (lv_at hl 1 rfl) ?_
      refine va_get (D := D) (ci := 0) (v := .ref (act 13)) (C := RX0) (T := TX0) (N := 7) hx hb hts (fun _ h => List.mem_cons_of_mem _ (List.mem_append_left _ (List.mem_append_left _ (List.mem_append_left _ (List.mem_append_left _ (List.mem_append_right _ h)))))) hown hG.1 hP 0 rfl rfl 6 (by decide) (hts (.fieldLink RX0 41 "CatalogueLoader$Catalogue" "hits" "LCatalogueLoader$Row;") (List.mem_of_getElem? (i := 2) rfl)) (fun _ h9 => h9) rfl dX0_take_54 ?_
      refine lv_iload_n hx hb dX0_take_57 rfl (lv_at hl 4 rfl) ?_
      refine lv_iload hx hb dX0_take_58 (lv_at hl 0 rfl) ?_
      refine cq_WV (R := (cq_rm 3 73)) (args := ([.ref (act 0), .ref (ast 0), .ref (ald 0), .int load] : List Value).toArray) (y := yX4_set) (bytes := cX4_set) (cc := cX0_take) (maxL := 3) (nL := 5) (n := 2) (index := 66) (ret := none) (ws := wsX4_set) (rm := cq_rm 0 0) (Ts := wsX0_take) (own := RX0) (D := D) (Y := Y) (W0 := cl_row Y (act 13) (act 14) 80 ct.2.2.2.2.2.2) (wl := cl_cat Y act ct ++ (cl_set Y ast st ++ (cl_lod Y ald ld))) (v := none) (st0 := [.int (-1), .int load, .ref (act 13)]) (As := [.int load, .int (-1)]) (rest := []) (W1 := cl_row Y (act 13) (act 14) 80 (m_X4_set 80 ct.2.2.2.2.2.2 load (-1))) (C := RX4) (b := act 13) (cl_cat Y act (ct.1, ct.2.1, ct.2.2.1, ct.2.2.2.1, ct.2.2.2.2.1, ct.2.2.2.2.2.1, m_X4_set 80 ct.2.2.2.2.2.2 load (-1)) ++ (cl_set Y ast st ++ (cl_lod Y ald ld))) [0, 1, 2, 3, 4, 5, 6, 7, 8, 9, 10, 11, 12, 15, 16, 17, 18, 19, 20, 21, 22, 23, 24, 25, 26, 27, 28, 29, 30, 31, 32] ⟨hx, hb, hml, hown, hts⟩ (ct_X4_set l D Y (act 13) (act 14) 80 ct.2.2.2.2.2.2 load (-1) (by decide)) (cwV 2 hts gX0_take_X4_set rfl rfl rfl (by decide +kernel) ⟨Nat.le_of_ble_eq_true rfl, Nat.le_of_ble_eq_true rfl⟩) hG hP hD hS [13, 14] rfl (by decide +kernel) ⟨rfl, ⟨[(act 0, .inr (0, [.ref (act 1), .ref (act 3), .ref (act 5), .ref (act 7), .ref (act 9), .ref (act 11), .ref (act 13)])), (act 1, .inr (4, [.ref (act 2)])), (act 2, .inl (Y.1, 80, .inl ct.1)), (act 3, .inr (1, [.int 80, .int 3, .ref (act 4)])), (act 4, .inl (Y.1, 240, .inl ct.2.1)), (act 5, .inr (1, [.int 80, .int 4, .ref (act 6)])), (act 6, .inl (Y.1, 320, .inl ct.2.2.1)), (act 7, .inr (1, [.int 80, .int 4, .ref (act 8)])), (act 8, .inl (Y.1, 320, .inl ct.2.2.2.1)), (act 9, .inr (1, [.int 80, .int 4, .ref (act 10)])), (act 10, .inl (Y.1, 320, .inl ct.2.2.2.2.1)), (act 11, .inr (4, [.ref (act 12)])), (act 12, .inl (Y.1, 80, .inl ct.2.2.2.2.2.1)), (ast 0, .inr (5, [.ref (ast 1), .ref (ast 3), .ref (ast 5)])), (ast 1, .inr (4, [.ref (ast 2)])), (ast 2, .inl (Y.1, 5, .inl st.1)), (ast 3, .inr (4, [.ref (ast 4)])), (ast 4, .inl (Y.1, 4, .inl st.2.1)), (ast 5, .inr (4, [.ref (ast 6)])), (ast 6, .inl (Y.1, 3, .inl st.2.2)), (ald 0, .inr (3, [.ref (ald 1), .ref (ald 3), .ref (ald 5), .ref (ald 7), .ref (ald 9), .int ld.2.2.2.2.2.1, .int ld.2.2.2.2.2.2])), (ald 1, .inr (1, [.int 81, .int 3, .ref (ald 2)])), (ald 2, .inl (Y.1, 243, .inl ld.1)), (ald 3, .inr (1, [.int 81, .int 4, .ref (ald 4)])), (ald 4, .inl (Y.1, 324, .inl ld.2.1)), (ald 5, .inr (4, [.ref (ald 6)])), (ald 6, .inl (Y.1, 80, .inl ld.2.2.1)), (ald 7, .inr (4, [.ref (ald 8)])), (ald 8, .inl (Y.1, 80, .inl ld.2.2.2.1)), (ald 9, .inr (4, [.ref (ald 10)])), (ald 10, .inl (Y.1, 10, .inl ld.2.2.2.2.1))], rfl, rfl⟩, 33, rfl, by decide +kernel⟩ ⟨[act 13, act 14], rfl, rfl⟩ 13 4 (qc := (RX4, TX4, 1)) (fs := [.ref (act 14)]) rfl rfl rfl rfl hl.1 rfl (Nat.le_of_ble_eq_true rfl) dX0_take_60 ⟨Nat.zero_le _, Nat.zero_le _⟩ (fun H locs hP hD hS => ?_)
      change W _ _ _ _ _ _ _ _ _ _ _ _ _ _ _ (F0 m 63 _ [])
      refine lv_iload hx hb dX0_take_63 (lv_at hl 0 rfl) ?_
      exact cq_wI (wl := cl_cat Y act (ct.1, ct.2.1, ct.2.2.1, ct.2.2.2.1, ct.2.2.2.2.1, ct.2.2.2.2.2.1, m_X4_set 80 ct.2.2.2.2.2.2 load (-1)) ++ (cl_set Y ast st ++ (cl_lod Y ald ld))) hx hb hr hlocks (vp_nar_int _) hP hS (by simp only [m_X0_take, eq_false c_1, ↓reduceIte, if_true, if_false]) (by simp only [m_X0_take, eq_false c_1, ↓reduceIte, if_true, if_false]) dX0_take_65
    · exact absurd c_6 (by decide)

def m_X0_guard (ct : CatS) (record : Int32) (field : Int32) (flag : Int32) : CatS × Int32 := (if m_X0_has ct record = 0 then (ct, 0) else (let x_2 := m_X1_get 80 4 320 ct.2.2.2.2.1 record field; ((ct.1, ct.2.1, ct.2.2.1, ct.2.2.2.1, m_X1_set 80 4 320 ct.2.2.2.2.1 record field flag, ct.2.2.2.2.2.1, ct.2.2.2.2.2.2), x_2)))
set_option maxHeartbeats 4000000 in
set_option maxRecDepth 100000 in
theorem ct_X0_guard (l : Launch) (D : va_G) (Y : cq_Y) (act : Nat → Nat) (ct : CatS) (record : Int32) (field : Int32) (flag : Int32) : cq_MW l yX0_guard wsX0_guard (cq_rm 2 42) D Y (cl_cat Y act ct) [.ref (act 0), .int record, .int field, .int flag] (some (.int (m_X0_guard ct record field flag).2)) (cl_cat Y act ((m_X0_guard ct record field flag).1)) := by
  refine cq_body (cc := cX0_guard) (maxL := 5) (ret := (some .int)) (by decide) rfl (Nat.le_of_ble_eq_true rfl) ?_
  intro p e s m below meth c hE hP hG hD ls hl
  obtain ⟨hx, hb, hr, hml, hts, hown, hnm, hlocks⟩ := hE
  have hown : s.vm.findClass RX0 = some m.cls := hown
  have hS : va_S (cq_in (cl_cat Y act ct)) s.heap s.heap [] := va_S.rf
  have hl : lv_has ls 5 [(0, .ref (act 0)), (1, .int record), (2, .int field), (3, .int flag)] := hl
  refine lv_aload_n hx hb dX0_guard_0 rfl (lv_at hl 0 rfl) ?_
  refine lv_iload_n hx hb dX0_guard_1 rfl (lv_at hl 1 rfl) ?_
  refine cq_RV (R := (cq_rm 2 42)) (args := ([.ref (act 0), .int record, .int field, .int flag] : List Value).toArray) (y := yX0_has) (bytes := cX0_has) (cc := cX0_guard) (maxL := 2) (nL := 5) (n := 1) (index := 53) (ret := (some .boolean)) (ws := wsX0_has) (rm := cq_rm 1 21) (Ts := wsX0_guard) (own := RX0) (D := D) (Y := Y) (W0 := cl_cat Y act ct) (wl := cl_cat Y act ct) (v := some (.int (m_X0_has ct record))) (st0 := [.int record, .ref (act 0)]) (As := [.int record]) (rest := []) (C := RX0) (b := act 0) ⟨hx, hb, hml, hown, hts⟩ (ct_X0_has l D Y act ct record) (cwV 1 hts gX0_guard_X0_has rfl rfl rfl (by decide +kernel) ⟨Nat.le_of_ble_eq_true rfl, Nat.le_of_ble_eq_true rfl⟩) hG hP hD [0, 1, 2, 3, 4, 5, 6, 7, 8, 9, 10, 11, 12, 13, 14] rfl (by decide +kernel) 0 0 (qc := (RX0, TX0, 7)) (fs := [.ref (act 1), .ref (act 3), .ref (act 5), .ref (act 7), .ref (act 9), .ref (act 11), .ref (act 13)]) rfl rfl rfl rfl hl.1 rfl (Nat.le_of_ble_eq_true rfl) dX0_guard_2 ⟨Nat.zero_le _, Nat.zero_le _⟩ ?_
  change W _ _ _ _ _ _ _ _ _ _ _ _ _ _ _ (F0 m 5 _ (.int (m_X0_has ct record) :: []))
  refine lv_if_ne (tgt := 10) hx hb dX0_guard_5 (by decide) (fun c_1 => ?_) (fun c_1 => ?_)
  · refine lv_aload_n hx hb dX0_guard_10 rfl (lv_at hl 0 rfl) ?_
    refine va_get (D := D) (ci := 0) (v := .ref (act 9)) (C := RX0) (T := TX0) (N := 7) hx hb hts (fun _ h => List.mem_cons_of_mem _ (List.mem_append_left _ (List.mem_append_left _ (List.mem_append_right _ h)))) hown hG.1 hP 0 rfl rfl 4 (by decide) (hts (.fieldLink RX0 35 "CatalogueLoader$Catalogue" "guards" "LCatalogueLoader$Grid;") (List.mem_of_getElem? (i := 1) rfl)) (fun _ h9 => h9) rfl dX0_guard_11 ?_
    refine lv_iload_n hx hb dX0_guard_14 rfl (lv_at hl 1 rfl) ?_
    refine lv_iload_n hx hb dX0_guard_15 rfl (lv_at hl 2 rfl) ?_
    refine cq_RV (R := (cq_rm 2 42)) (args := ([.ref (act 0), .int record, .int field, .int flag] : List Value).toArray) (y := yX1_get) (bytes := cX1_get) (cc := cX0_guard) (maxL := 4) (nL := 5) (n := 2) (index := 83) (ret := (some .int)) (ws := wsX1_get) (rm := cq_rm 0 0) (Ts := wsX0_guard) (own := RX0) (D := D) (Y := Y) (W0 := cl_grd Y (act 9) (act 10) 80 4 320 ct.2.2.2.2.1) (wl := cl_cat Y act ct) (v := some (.int (m_X1_get 80 4 320 ct.2.2.2.2.1 record field))) (st0 := [.int field, .int record, .ref (act 9)]) (As := [.int record, .int field]) (rest := []) (C := RX1) (b := act 9) ⟨hx, hb, hml, hown, hts⟩ (ct_X1_get l D Y (act 9) (act 10) 80 4 320 ct.2.2.2.2.1 record field (by decide)) (cwV 2 hts gX0_guard_X1_get rfl rfl rfl (by decide +kernel) ⟨Nat.le_of_ble_eq_true rfl, Nat.le_of_ble_eq_true rfl⟩) hG hP hD [9, 10] rfl (by decide +kernel) 9 1 (qc := (RX1, TX1, 3)) (fs := [.int 80, .int 4, .ref (act 10)]) rfl rfl rfl rfl hl.1 rfl (Nat.le_of_ble_eq_true rfl) dX0_guard_16 ⟨Nat.zero_le _, Nat.zero_le _⟩ ?_
    change W _ _ _ _ _ _ _ _ _ _ _ _ _ _ _ (F0 m 19 _ (.int (m_X1_get 80 4 320 ct.2.2.2.2.1 record field) :: []))
    refine lv_topi (fun x_2 ex_2 => ?_)
    refine lv_istore (lv' := [(4, .int x_2), (0, .ref (act 0)), (1, .int record), (2, .int field), (3, .int flag)]) hx hb dX0_guard_19 hl (by decide) rfl (fun ls hl => ?_)
    refine lv_aload_n hx hb dX0_guard_21 rfl (lv_at hl 1 rfl) ?_
    refine va_get (D := D) (ci := 0) (v := .ref (act 9)) (C := RX0) (T := TX0) (N := 7) hx hb hts (fun _ h => List.mem_cons_of_mem _ (List.mem_append_left _ (List.mem_append_left _ (List.mem_append_right _ h)))) hown hG.1 hP 0 rfl rfl 4 (by decide) (hts (.fieldLink RX0 35 "CatalogueLoader$Catalogue" "guards" "LCatalogueLoader$Grid;") (List.mem_of_getElem? (i := 1) rfl)) (fun _ h9 => h9) rfl dX0_guard_22 ?_
    refine lv_iload_n hx hb dX0_guard_25 rfl (lv_at hl 2 rfl) ?_
    refine lv_iload_n hx hb dX0_guard_26 rfl (lv_at hl 3 rfl) ?_
    refine lv_iload_n hx hb dX0_guard_27 rfl (lv_at hl 4 rfl) ?_
    refine cq_WV (R := (cq_rm 2 42)) (args := ([.ref (act 0), .int record, .int field, .int flag] : List Value).toArray) (y := yX1_set) (bytes := cX1_set) (cc := cX0_guard) (maxL := 5) (nL := 5) (n := 3) (index := 89) (ret := none) (ws := wsX1_set) (rm := cq_rm 0 0) (Ts := wsX0_guard) (own := RX0) (D := D) (Y := Y) (W0 := cl_grd Y (act 9) (act 10) 80 4 320 ct.2.2.2.2.1) (wl := cl_cat Y act ct) (v := none) (st0 := [.int flag, .int field, .int record, .ref (act 9)]) (As := [.int record, .int field, .int flag]) (rest := []) (W1 := cl_grd Y (act 9) (act 10) 80 4 320 (m_X1_set 80 4 320 ct.2.2.2.2.1 record field flag)) (C := RX1) (b := act 9) (cl_cat Y act (ct.1, ct.2.1, ct.2.2.1, ct.2.2.2.1, m_X1_set 80 4 320 ct.2.2.2.2.1 record field flag, ct.2.2.2.2.2.1, ct.2.2.2.2.2.2)) [0, 1, 2, 3, 4, 5, 6, 7, 8, 11, 12, 13, 14] ⟨hx, hb, hml, hown, hts⟩ (ct_X1_set l D Y (act 9) (act 10) 80 4 320 ct.2.2.2.2.1 record field flag (by decide)) (cwV 3 hts gX0_guard_X1_set rfl rfl rfl (by decide +kernel) ⟨Nat.le_of_ble_eq_true rfl, Nat.le_of_ble_eq_true rfl⟩) hG hP hD hS [9, 10] rfl (by decide +kernel) ⟨rfl, ⟨[(act 0, .inr (0, [.ref (act 1), .ref (act 3), .ref (act 5), .ref (act 7), .ref (act 9), .ref (act 11), .ref (act 13)])), (act 1, .inr (4, [.ref (act 2)])), (act 2, .inl (Y.1, 80, .inl ct.1)), (act 3, .inr (1, [.int 80, .int 3, .ref (act 4)])), (act 4, .inl (Y.1, 240, .inl ct.2.1)), (act 5, .inr (1, [.int 80, .int 4, .ref (act 6)])), (act 6, .inl (Y.1, 320, .inl ct.2.2.1)), (act 7, .inr (1, [.int 80, .int 4, .ref (act 8)])), (act 8, .inl (Y.1, 320, .inl ct.2.2.2.1)), (act 11, .inr (4, [.ref (act 12)])), (act 12, .inl (Y.1, 80, .inl ct.2.2.2.2.2.1)), (act 13, .inr (4, [.ref (act 14)])), (act 14, .inl (Y.1, 80, .inl ct.2.2.2.2.2.2))], rfl, rfl⟩, 15, rfl, by decide +kernel⟩ ⟨[act 9, act 10], rfl, rfl⟩ 9 1 (qc := (RX1, TX1, 3)) (fs := [.int 80, .int 4, .ref (act 10)]) rfl rfl rfl rfl hl.1 rfl (Nat.le_of_ble_eq_true rfl) dX0_guard_28 ⟨Nat.zero_le _, Nat.zero_le _⟩ (fun H locs hP hD hS => ?_)
    change W _ _ _ _ _ _ _ _ _ _ _ _ _ _ _ (F0 m 31 _ [])
    refine lv_iload hx hb dX0_guard_31 (lv_at hl 0 rfl) ?_
    exact cq_wI (wl := cl_cat Y act (ct.1, ct.2.1, ct.2.2.1, ct.2.2.2.1, m_X1_set 80 4 320 ct.2.2.2.2.1 record field flag, ct.2.2.2.2.2.1, ct.2.2.2.2.2.2)) hx hb hr hlocks (vp_nar_int _) hP hS (by subst ex_2; simp only [m_X0_guard, eq_false c_1, ↓reduceIte, if_true, if_false]) (by subst ex_2; simp only [m_X0_guard, eq_false c_1, ↓reduceIte, if_true, if_false]) dX0_guard_33
  · refine lv_iconst (v := 0) hx hb dX0_guard_8 (by decide) ?_
    exact cq_wI (wl := cl_cat Y act ct) hx hb hr hlocks (vp_nar_int _) hP hS (by simp only [m_X0_guard, eq_true c_1, ↓reduceIte, if_true, if_false]) (by simp only [m_X0_guard, eq_true c_1, ↓reduceIte, if_true, if_false]) dX0_guard_9

def m_X0_addHoldings (ct : CatS) (record : Int32) (more : Int32) : CatS × Int32 := (if m_X0_has ct record = 0 then (ct, 0) else ((ct.1, ct.2.1, ct.2.2.1, ct.2.2.2.1, ct.2.2.2.2.1, m_X4_set 80 ct.2.2.2.2.2.1 record ((m_X4_get 80 ct.2.2.2.2.2.1 record) + more), ct.2.2.2.2.2.2), m_X4_get 80 (m_X4_set 80 ct.2.2.2.2.2.1 record ((m_X4_get 80 ct.2.2.2.2.2.1 record) + more)) record))
set_option maxHeartbeats 4000000 in
set_option maxRecDepth 100000 in
theorem ct_X0_addHoldings (l : Launch) (D : va_G) (Y : cq_Y) (act : Nat → Nat) (ct : CatS) (record : Int32) (more : Int32) : cq_MW l yX0_addHoldings wsX0_addHoldings (cq_rm 2 42) D Y (cl_cat Y act ct) [.ref (act 0), .int record, .int more] (some (.int (m_X0_addHoldings ct record more).2)) (cl_cat Y act ((m_X0_addHoldings ct record more).1)) := by
  refine cq_body (cc := cX0_addHoldings) (maxL := 3) (ret := (some .int)) (by decide) rfl (Nat.le_of_ble_eq_true rfl) ?_
  intro p e s m below meth c hE hP hG hD ls hl
  obtain ⟨hx, hb, hr, hml, hts, hown, hnm, hlocks⟩ := hE
  have hown : s.vm.findClass RX0 = some m.cls := hown
  have hS : va_S (cq_in (cl_cat Y act ct)) s.heap s.heap [] := va_S.rf
  have hl : lv_has ls 3 [(0, .ref (act 0)), (1, .int record), (2, .int more)] := hl
  refine lv_aload_n hx hb dX0_addHoldings_0 rfl (lv_at hl 0 rfl) ?_
  refine lv_iload_n hx hb dX0_addHoldings_1 rfl (lv_at hl 1 rfl) ?_
  refine cq_RV (R := (cq_rm 2 42)) (args := ([.ref (act 0), .int record, .int more] : List Value).toArray) (y := yX0_has) (bytes := cX0_has) (cc := cX0_addHoldings) (maxL := 2) (nL := 3) (n := 1) (index := 53) (ret := (some .boolean)) (ws := wsX0_has) (rm := cq_rm 1 21) (Ts := wsX0_addHoldings) (own := RX0) (D := D) (Y := Y) (W0 := cl_cat Y act ct) (wl := cl_cat Y act ct) (v := some (.int (m_X0_has ct record))) (st0 := [.int record, .ref (act 0)]) (As := [.int record]) (rest := []) (C := RX0) (b := act 0) ⟨hx, hb, hml, hown, hts⟩ (ct_X0_has l D Y act ct record) (cwV 1 hts gX0_addHoldings_X0_has rfl rfl rfl (by decide +kernel) ⟨Nat.le_of_ble_eq_true rfl, Nat.le_of_ble_eq_true rfl⟩) hG hP hD [0, 1, 2, 3, 4, 5, 6, 7, 8, 9, 10, 11, 12, 13, 14] rfl (by decide +kernel) 0 0 (qc := (RX0, TX0, 7)) (fs := [.ref (act 1), .ref (act 3), .ref (act 5), .ref (act 7), .ref (act 9), .ref (act 11), .ref (act 13)]) rfl rfl rfl rfl hl.1 rfl (Nat.le_of_ble_eq_true rfl) dX0_addHoldings_2 ⟨Nat.zero_le _, Nat.zero_le _⟩ ?_
  change W _ _ _ _ _ _ _ _ _ _ _ _ _ _ _ (F0 m 5 _ (.int (m_X0_has ct record) :: []))
  refine lv_if_ne (tgt := 10) hx hb dX0_addHoldings_5 (by decide) (fun c_1 => ?_) (fun c_1 => ?_)
  · refine lv_aload_n hx hb dX0_addHoldings_10 rfl (lv_at hl 0 rfl) ?_
    refine va_get (D := D) (ci := 0) (v := .ref (act 11)) (C := RX0) (T := TX0) (N := 7) hx hb hts (fun _ h => List.mem_cons_of_mem _ (List.mem_append_left _ (List.mem_append_right _ h))) hown hG.1 hP 0 rfl rfl 5 (by decide) (hts (.fieldLink RX0 38 "CatalogueLoader$Catalogue" "held" "LCatalogueLoader$Row;") (List.mem_of_getElem? (i := 1) rfl)) (fun _ h9 => h9) rfl dX0_addHoldings_11 ?_
    refine lv_iload_n hx hb dX0_addHoldings_14 rfl (lv_at hl 1 rfl) ?_
    refine lv_aload_n hx hb dX0_addHoldings_15 rfl (lv_at hl 0 rfl) ?_
    refine va_get (D := D) (ci := 0) (v := .ref (act 11)) (C := RX0) (T := TX0) (N := 7) hx hb hts (fun _ h => List.mem_cons_of_mem _ (List.mem_append_left _ (List.mem_append_right _ h))) hown hG.1 hP 0 rfl rfl 5 (by decide) (hts (.fieldLink RX0 38 "CatalogueLoader$Catalogue" "held" "LCatalogueLoader$Row;") (List.mem_of_getElem? (i := 1) rfl)) (fun _ h9 => h9) rfl dX0_addHoldings_16 ?_
    refine lv_iload_n hx hb dX0_addHoldings_19 rfl (lv_at hl 1 rfl) ?_
    refine cq_RV (R := (cq_rm 2 42)) (args := ([.ref (act 0), .int record, .int more] : List Value).toArray) (y := yX4_get) (bytes := cX4_get) (cc := cX0_addHoldings) (maxL := 2) (nL := 3) (n := 1) (index := 49) (ret := (some .int)) (ws := wsX4_get) (rm := cq_rm 0 0) (Ts := wsX0_addHoldings) (own := RX0) (D := D) (Y := Y) (W0 := cl_row Y (act 11) (act 12) 80 ct.2.2.2.2.2.1) (wl := cl_cat Y act ct) (v := some (.int (m_X4_get 80 ct.2.2.2.2.2.1 record))) (st0 := [.int record, .ref (act 11), .int record, .ref (act 11)]) (As := [.int record]) (rest := [.int record, .ref (act 11)]) (C := RX4) (b := act 11) ⟨hx, hb, hml, hown, hts⟩ (ct_X4_get l D Y (act 11) (act 12) 80 ct.2.2.2.2.2.1 record (by decide)) (cwV 1 hts gX0_addHoldings_X4_get rfl rfl rfl (by decide +kernel) ⟨Nat.le_of_ble_eq_true rfl, Nat.le_of_ble_eq_true rfl⟩) hG hP hD [11, 12] rfl (by decide +kernel) 11 4 (qc := (RX4, TX4, 1)) (fs := [.ref (act 12)]) rfl rfl rfl rfl hl.1 rfl (Nat.le_of_ble_eq_true rfl) dX0_addHoldings_20 ⟨Nat.zero_le _, Nat.zero_le _⟩ ?_
    change W _ _ _ _ _ _ _ _ _ _ _ _ _ _ _ (F0 m 23 _ (.int (m_X4_get 80 ct.2.2.2.2.2.1 record) :: [.int record, .ref (act 11)]))
    refine lv_iload_n hx hb dX0_addHoldings_23 rfl (lv_at hl 2 rfl) ?_
    refine lv_iadd hx hb dX0_addHoldings_24 ?_
    refine cq_WV (R := (cq_rm 2 42)) (args := ([.ref (act 0), .int record, .int more] : List Value).toArray) (y := yX4_set) (bytes := cX4_set) (cc := cX0_addHoldings) (maxL := 3) (nL := 3) (n := 2) (index := 66) (ret := none) (ws := wsX4_set) (rm := cq_rm 0 0) (Ts := wsX0_addHoldings) (own := RX0) (D := D) (Y := Y) (W0 := cl_row Y (act 11) (act 12) 80 ct.2.2.2.2.2.1) (wl := cl_cat Y act ct) (v := none) (st0 := [.int ((m_X4_get 80 ct.2.2.2.2.2.1 record) + more), .int record, .ref (act 11)]) (As := [.int record, .int ((m_X4_get 80 ct.2.2.2.2.2.1 record) + more)]) (rest := []) (W1 := cl_row Y (act 11) (act 12) 80 (m_X4_set 80 ct.2.2.2.2.2.1 record ((m_X4_get 80 ct.2.2.2.2.2.1 record) + more))) (C := RX4) (b := act 11) (cl_cat Y act (ct.1, ct.2.1, ct.2.2.1, ct.2.2.2.1, ct.2.2.2.2.1, m_X4_set 80 ct.2.2.2.2.2.1 record ((m_X4_get 80 ct.2.2.2.2.2.1 record) + more), ct.2.2.2.2.2.2)) [0, 1, 2, 3, 4, 5, 6, 7, 8, 9, 10, 13, 14] ⟨hx, hb, hml, hown, hts⟩ (ct_X4_set l D Y (act 11) (act 12) 80 ct.2.2.2.2.2.1 record ((m_X4_get 80 ct.2.2.2.2.2.1 record) + more) (by decide)) (cwV 2 hts gX0_addHoldings_X4_set rfl rfl rfl (by decide +kernel) ⟨Nat.le_of_ble_eq_true rfl, Nat.le_of_ble_eq_true rfl⟩) hG hP hD hS [11, 12] rfl (by decide +kernel) ⟨rfl, ⟨[(act 0, .inr (0, [.ref (act 1), .ref (act 3), .ref (act 5), .ref (act 7), .ref (act 9), .ref (act 11), .ref (act 13)])), (act 1, .inr (4, [.ref (act 2)])), (act 2, .inl (Y.1, 80, .inl ct.1)), (act 3, .inr (1, [.int 80, .int 3, .ref (act 4)])), (act 4, .inl (Y.1, 240, .inl ct.2.1)), (act 5, .inr (1, [.int 80, .int 4, .ref (act 6)])), (act 6, .inl (Y.1, 320, .inl ct.2.2.1)), (act 7, .inr (1, [.int 80, .int 4, .ref (act 8)])), (act 8, .inl (Y.1, 320, .inl ct.2.2.2.1)), (act 9, .inr (1, [.int 80, .int 4, .ref (act 10)])), (act 10, .inl (Y.1, 320, .inl ct.2.2.2.2.1)), (act 13, .inr (4, [.ref (act 14)])), (act 14, .inl (Y.1, 80, .inl ct.2.2.2.2.2.2))], rfl, rfl⟩, 15, rfl, by decide +kernel⟩ ⟨[act 11, act 12], rfl, rfl⟩ 11 4 (qc := (RX4, TX4, 1)) (fs := [.ref (act 12)]) rfl rfl rfl rfl hl.1 rfl (Nat.le_of_ble_eq_true rfl) dX0_addHoldings_25 ⟨Nat.zero_le _, Nat.zero_le _⟩ (fun H locs hP hD hS => ?_)
    change W _ _ _ _ _ _ _ _ _ _ _ _ _ _ _ (F0 m 28 _ [])
    refine lv_aload_n hx hb dX0_addHoldings_28 rfl (lv_at hl 0 rfl) ?_
    refine va_get (D := D) (ci := 0) (v := .ref (act 11)) (C := RX0) (T := TX0) (N := 7) hx hb hts (fun _ h => List.mem_cons_of_mem _ (List.mem_append_left _ (List.mem_append_right _ h))) hown hG.1 hP 0 rfl rfl 5 (by decide) (hts (.fieldLink RX0 38 "CatalogueLoader$Catalogue" "held" "LCatalogueLoader$Row;") (List.mem_of_getElem? (i := 1) rfl)) (fun _ h9 => h9) rfl dX0_addHoldings_29 ?_
    refine lv_iload_n hx hb dX0_addHoldings_32 rfl (lv_at hl 1 rfl) ?_
    refine cq_RV (R := (cq_rm 2 42)) (args := ([.ref (act 0), .int record, .int more] : List Value).toArray) (y := yX4_get) (bytes := cX4_get) (cc := cX0_addHoldings) (maxL := 2) (nL := 3) (n := 1) (index := 49) (ret := (some .int)) (ws := wsX4_get) (rm := cq_rm 0 0) (Ts := wsX0_addHoldings) (own := RX0) (D := D) (Y := Y) (W0 := cl_row Y (act 11) (act 12) 80 (m_X4_set 80 ct.2.2.2.2.2.1 record ((m_X4_get 80 ct.2.2.2.2.2.1 record) + more))) (wl := cl_cat Y act (ct.1, ct.2.1, ct.2.2.1, ct.2.2.2.1, ct.2.2.2.2.1, m_X4_set 80 ct.2.2.2.2.2.1 record ((m_X4_get 80 ct.2.2.2.2.2.1 record) + more), ct.2.2.2.2.2.2)) (v := some (.int (m_X4_get 80 (m_X4_set 80 ct.2.2.2.2.2.1 record ((m_X4_get 80 ct.2.2.2.2.2.1 record) + more)) record))) (st0 := [.int record, .ref (act 11)]) (As := [.int record]) (rest := []) (C := RX4) (b := act 11) ⟨hx, hb, hml, hown, hts⟩ (ct_X4_get l D Y (act 11) (act 12) 80 (m_X4_set 80 ct.2.2.2.2.2.1 record ((m_X4_get 80 ct.2.2.2.2.2.1 record) + more)) record (by decide)) (cwV 1 hts gX0_addHoldings_X4_get rfl rfl rfl (by decide +kernel) ⟨Nat.le_of_ble_eq_true rfl, Nat.le_of_ble_eq_true rfl⟩) hG hP hD [11, 12] rfl (by decide +kernel) 11 4 (qc := (RX4, TX4, 1)) (fs := [.ref (act 12)]) rfl rfl rfl rfl hl.1 rfl (Nat.le_of_ble_eq_true rfl) dX0_addHoldings_33 ⟨Nat.zero_le _, Nat.zero_le _⟩ ?_
    change W _ _ _ _ _ _ _ _ _ _ _ _ _ _ _ (F0 m 36 _ (.int (m_X4_get 80 (m_X4_set 80 ct.2.2.2.2.2.1 record ((m_X4_get 80 ct.2.2.2.2.2.1 record) + more)) record) :: []))
    exact cq_wI (wl := cl_cat Y act (ct.1, ct.2.1, ct.2.2.1, ct.2.2.2.1, ct.2.2.2.2.1, m_X4_set 80 ct.2.2.2.2.2.1 record ((m_X4_get 80 ct.2.2.2.2.2.1 record) + more), ct.2.2.2.2.2.2)) hx hb hr hlocks (vp_nar_int _) hP hS (by simp only [m_X0_addHoldings, eq_false c_1, ↓reduceIte, if_true, if_false]) (by simp only [m_X0_addHoldings, eq_false c_1, ↓reduceIte, if_true, if_false]) dX0_addHoldings_36
  · refine lv_iconst (v := 0) hx hb dX0_addHoldings_8 (by decide) ?_
    exact cq_wI (wl := cl_cat Y act ct) hx hb hr hlocks (vp_nar_int _) hP hS (by simp only [m_X0_addHoldings, eq_true c_1, ↓reduceIte, if_true, if_false]) (by simp only [m_X0_addHoldings, eq_true c_1, ↓reduceIte, if_true, if_false]) dX0_addHoldings_9

def m_X0_join_lp64 (ct : CatS) (record : Int32) (other : Int32) (fin_3 : CatS) : Nat → Nat → CatS → CatS
  | 0, k64, s0_64 => s0_64
  | n64 + 1, k64, s0_64 => (if m_X1_get 80 4 320 s0_64.2.2.1 other (nI k64) = (-1) then m_X0_join_lp64 ct record other fin_3 n64 (k64 + 1) (s0_64.1, s0_64.2.1, m_X1_set 80 4 320 s0_64.2.2.1 other (nI k64) (m_X1_get 80 4 320 s0_64.2.2.1 record (nI k64)), m_X1_set 80 4 320 s0_64.2.2.2.1 other (nI k64) (m_X1_get 80 4 320 s0_64.2.2.2.1 record (nI k64)), s0_64.2.2.2.2.1, s0_64.2.2.2.2.2.1, s0_64.2.2.2.2.2.2) else m_X0_join_lp64 ct record other fin_3 n64 (k64 + 1) s0_64)
def m_X0_join_lp20 (ct : CatS) (record : Int32) (other : Int32) : Nat → Nat → CatS → CatS
  | 0, k20, s0_20 => s0_20
  | n20 + 1, k20, s0_20 => (if m_X1_get 80 3 240 s0_20.2.1 other (nI k20) = (-1) then m_X0_join_lp20 ct record other n20 (k20 + 1) (s0_20.1, m_X1_set 80 3 240 s0_20.2.1 other (nI k20) (m_X1_get 80 3 240 s0_20.2.1 record (nI k20)), s0_20.2.2.1, s0_20.2.2.2.1, s0_20.2.2.2.2.1, s0_20.2.2.2.2.2.1, s0_20.2.2.2.2.2.2) else m_X0_join_lp20 ct record other n20 (k20 + 1) s0_20)
def m_X0_join (ct : CatS) (record : Int32) (other : Int32) : CatS × Int32 := (if m_X0_has ct record = 0 then (ct, 0) else (if m_X0_has ct other = 0 then (ct, 0) else (let fin_3 := m_X0_join_lp20 ct record other 3 0 ct; (let fin_5 := m_X0_join_lp64 ct record other fin_3 4 0 fin_3; (let c_7 := (m_X0_addHoldings (m_X4_set 80 fin_5.1 record 0, fin_5.2.1, fin_5.2.2.1, fin_5.2.2.2.1, fin_5.2.2.2.2.1, fin_5.2.2.2.2.2.1, fin_5.2.2.2.2.2.2) other (m_X4_get 80 fin_5.2.2.2.2.2.1 record)).1; (c_7, (m_X0_addHoldings (m_X4_set 80 fin_5.1 record 0, fin_5.2.1, fin_5.2.2.1, fin_5.2.2.2.1, fin_5.2.2.2.2.1, fin_5.2.2.2.2.2.1, fin_5.2.2.2.2.2.2) other (m_X4_get 80 fin_5.2.2.2.2.2.1 record)).2))))))
set_option maxHeartbeats 4000000 in
set_option maxRecDepth 100000 in
theorem ct_X0_join (l : Launch) (D : va_G) (Y : cq_Y) (act : Nat → Nat) (ct : CatS) (record : Int32) (other : Int32) : cq_MW l yX0_join wsX0_join (cq_rm 3 64) D Y (cl_cat Y act ct) [.ref (act 0), .int record, .int other] (some (.int (m_X0_join ct record other).2)) (cl_cat Y act ((m_X0_join ct record other).1)) := by
  refine cq_body (cc := cX0_join) (maxL := 4) (ret := (some .int)) (by decide) rfl (Nat.le_of_ble_eq_true rfl) ?_
  intro p e s m below meth c hE hP hG hD ls hl
  obtain ⟨hx, hb, hr, hml, hts, hown, hnm, hlocks⟩ := hE
  have hown : s.vm.findClass RX0 = some m.cls := hown
  have hS : va_S (cq_in (cl_cat Y act ct)) s.heap s.heap [] := va_S.rf
  have hl : lv_has ls 4 [(0, .ref (act 0)), (1, .int record), (2, .int other)] := hl
  refine lv_aload_n hx hb dX0_join_0 rfl (lv_at hl 0 rfl) ?_
  refine lv_iload_n hx hb dX0_join_1 rfl (lv_at hl 1 rfl) ?_
  refine cq_RV (R := (cq_rm 3 64)) (args := ([.ref (act 0), .int record, .int other] : List Value).toArray) (y := yX0_has) (bytes := cX0_has) (cc := cX0_join) (maxL := 2) (nL := 4) (n := 1) (index := 53) (ret := (some .boolean)) (ws := wsX0_has) (rm := cq_rm 1 21) (Ts := wsX0_join) (own := RX0) (D := D) (Y := Y) (W0 := cl_cat Y act ct) (wl := cl_cat Y act ct) (v := some (.int (m_X0_has ct record))) (st0 := [.int record, .ref (act 0)]) (As := [.int record]) (rest := []) (C := RX0) (b := act 0) ⟨hx, hb, hml, hown, hts⟩ (ct_X0_has l D Y act ct record) (cwV 1 hts gX0_join_X0_has rfl rfl rfl (by decide +kernel) ⟨Nat.le_of_ble_eq_true rfl, Nat.le_of_ble_eq_true rfl⟩) hG hP hD [0, 1, 2, 3, 4, 5, 6, 7, 8, 9, 10, 11, 12, 13, 14] rfl (by decide +kernel) 0 0 (qc := (RX0, TX0, 7)) (fs := [.ref (act 1), .ref (act 3), .ref (act 5), .ref (act 7), .ref (act 9), .ref (act 11), .ref (act 13)]) rfl rfl rfl rfl hl.1 rfl (Nat.le_of_ble_eq_true rfl) dX0_join_2 ⟨Nat.zero_le _, Nat.zero_le _⟩ ?_
  change W _ _ _ _ _ _ _ _ _ _ _ _ _ _ _ (F0 m 5 _ (.int (m_X0_has ct record) :: []))
  refine lv_if_eq (tgt := 16) hx hb dX0_join_5 (by decide) (fun c_1 => ?_) (fun c_1 => ?_)
  · refine lv_iconst (v := 0) hx hb dX0_join_16 (by decide) ?_
    exact cq_wI (wl := cl_cat Y act ct) hx hb hr hlocks (vp_nar_int _) hP hS (by simp only [m_X0_join, eq_true c_1, ↓reduceIte, if_true, if_false]) (by simp only [m_X0_join, eq_true c_1, ↓reduceIte, if_true, if_false]) dX0_join_17
  · refine lv_aload_n hx hb dX0_join_8 rfl (lv_at hl 0 rfl) ?_
    refine lv_iload_n hx hb dX0_join_9 rfl (lv_at hl 2 rfl) ?_
    refine cq_RV (R := (cq_rm 3 64)) (args := ([.ref (act 0), .int record, .int other] : List Value).toArray) (y := yX0_has) (bytes := cX0_has) (cc := cX0_join) (maxL := 2) (nL := 4) (n := 1) (index := 53) (ret := (some .boolean)) (ws := wsX0_has) (rm := cq_rm 1 21) (Ts := wsX0_join) (own := RX0) (D := D) (Y := Y) (W0 := cl_cat Y act ct) (wl := cl_cat Y act ct) (v := some (.int (m_X0_has ct other))) (st0 := [.int other, .ref (act 0)]) (As := [.int other]) (rest := []) (C := RX0) (b := act 0) ⟨hx, hb, hml, hown, hts⟩ (ct_X0_has l D Y act ct other) (cwV 1 hts gX0_join_X0_has rfl rfl rfl (by decide +kernel) ⟨Nat.le_of_ble_eq_true rfl, Nat.le_of_ble_eq_true rfl⟩) hG hP hD [0, 1, 2, 3, 4, 5, 6, 7, 8, 9, 10, 11, 12, 13, 14] rfl (by decide +kernel) 0 0 (qc := (RX0, TX0, 7)) (fs := [.ref (act 1), .ref (act 3), .ref (act 5), .ref (act 7), .ref (act 9), .ref (act 11), .ref (act 13)]) rfl rfl rfl rfl hl.1 rfl (Nat.le_of_ble_eq_true rfl) dX0_join_10 ⟨Nat.zero_le _, Nat.zero_le _⟩ ?_
    change W _ _ _ _ _ _ _ _ _ _ _ _ _ _ _ (F0 m 13 _ (.int (m_X0_has ct other) :: []))
    refine lv_if_ne (tgt := 18) hx hb dX0_join_13 (by decide) (fun c_2 => ?_) (fun c_2 => ?_)
    · refine lv_iconst (v := 0) hx hb dX0_join_18 (by decide) ?_
      refine lv_istore_n (lv' := [(3, .int 0), (0, .ref (act 0)), (1, .int record), (2, .int other)]) hx hb dX0_join_19 rfl hl (by decide) rfl (fun ls hl => ?_)
      obtain ⟨fin_3, efin_3⟩ : ∃ z, z = m_X0_join_lp20 ct record other 3 0 ct := ⟨_, rfl⟩
      have lp20 : ∀ (n20 k20 : Nat) (s0_20 : CatS) (H : Heap) (locs : List Loc) (ls : Array Slot), k20 + n20 = 3 → m_X0_join_lp20 ct record other n20 k20 s0_20 = fin_3 → va_P D vwCl (cl_cat Y act s0_20) H → va_D (cq_in (cl_cat Y act ct)) (cl_cat Y act s0_20) → va_S (cq_in (cl_cat Y act ct)) s.heap H locs → lv_has ls 4 [(3, .int (nI k20)), (0, .ref (act 0)), (1, .int record), (2, .int other)] → W p l e (cq_rm 3 64) s m ([.ref (act 0), .int record, .int other] : List Value).toArray below meth c H locs 0 0 (MQ below (cq_W D (some (.int (m_X0_join ct record other).2)) (cl_cat Y act ct) (cl_cat Y act ((m_X0_join ct record other).1))) ([.ref (act 0), .int record, .int other] : List Value).toArray s 0 0 (cq_in (cl_cat Y act ct))) (F0 m 20 ls []) := by
        intro n20; induction n20 with
        | zero =>
          intro k20 s0_20 H locs ls hkn hres20 hP hD hS hl
          have hz : 3 ≤ nI k20 := cq_z (N := 3) rfl (by omega) (by omega)
          have e9 : fin_3 = s0_20 := hres20.symm
          subst e9
          refine lv_iload_n hx hb dX0_join_20 rfl (lv_at hl 0 rfl) ?_
          refine lv_iconst (v := 3) hx hb dX0_join_21 (by decide) ?_
          refine lv_icmp_ge (tgt := 62) hx hb dX0_join_22 (by decide) (fun c_4 => ?_) (fun c_4 => ?_)
          · refine lv_iconst (v := 0) hx hb dX0_join_62 (by decide) ?_
            refine lv_istore_n (lv' := [(3, .int 0), (0, .ref (act 0)), (1, .int record), (2, .int other)]) hx hb dX0_join_63 rfl hl (by decide) rfl (fun ls hl => ?_)
            obtain ⟨fin_5, efin_5⟩ : ∃ z, z = m_X0_join_lp64 ct record other fin_3 4 0 fin_3 := ⟨_, rfl⟩
            have lp64 : ∀ (n64 k64 : Nat) (s0_64 : CatS) (H : Heap) (locs : List Loc) (ls : Array Slot), k64 + n64 = 4 → m_X0_join_lp64 ct record other fin_3 n64 k64 s0_64 = fin_5 → va_P D vwCl (cl_cat Y act s0_64) H → va_D (cq_in (cl_cat Y act ct)) (cl_cat Y act s0_64) → va_S (cq_in (cl_cat Y act ct)) s.heap H locs → lv_has ls 4 [(3, .int (nI k64)), (0, .ref (act 0)), (1, .int record), (2, .int other)] → W p l e (cq_rm 3 64) s m ([.ref (act 0), .int record, .int other] : List Value).toArray below meth c H locs 0 0 (MQ below (cq_W D (some (.int (m_X0_join ct record other).2)) (cl_cat Y act ct) (cl_cat Y act ((m_X0_join ct record other).1))) ([.ref (act 0), .int record, .int other] : List Value).toArray s 0 0 (cq_in (cl_cat Y act ct))) (F0 m 64 ls []) := by
              intro n64; induction n64 with
              | zero =>
                intro k64 s0_64 H locs ls hkn hres64 hP hD hS hl
                have hz : 4 ≤ nI k64 := cq_z (N := 4) rfl (by omega) (by omega)
                have e9 : fin_5 = s0_64 := hres64.symm
                subst e9
                refine lv_iload_n hx hb dX0_join_64 rfl (lv_at hl 0 rfl) ?_
                refine lv_iconst (v := 4) hx hb dX0_join_65 (by decide) ?_
                refine lv_icmp_ge (tgt := 124) hx hb dX0_join_66 (by decide) (fun c_6 => ?_) (fun c_6 => ?_)
                · refine lv_aload_n hx hb dX0_join_124 rfl (lv_at hl 1 rfl) ?_
                  refine va_get (D := D) (ci := 0) (v := .ref (act 1)) (C := RX0) (T := TX0) (N := 7) hx hb hts (fun _ h => List.mem_cons_of_mem _ (List.mem_append_left _ (List.mem_append_left _ (List.mem_append_right _ h)))) hown hG.1 hP 0 rfl rfl 0 (by decide) (hts (.fieldLink RX0 14 "CatalogueLoader$Catalogue" "there" "LCatalogueLoader$Row;") (List.mem_of_getElem? (i := 4) rfl)) (fun _ h9 => h9) rfl dX0_join_125 ?_
                  refine lv_iload_n hx hb dX0_join_128 rfl (lv_at hl 2 rfl) ?_
                  refine lv_iconst (v := 0) hx hb dX0_join_129 (by decide) ?_
                  refine cq_WV (R := (cq_rm 3 64)) (args := ([.ref (act 0), .int record, .int other] : List Value).toArray) (y := yX4_set) (bytes := cX4_set) (cc := cX0_join) (maxL := 3) (nL := 4) (n := 2) (index := 66) (ret := none) (ws := wsX4_set) (rm := cq_rm 0 0) (Ts := wsX0_join) (own := RX0) (D := D) (Y := Y) (W0 := cl_row Y (act 1) (act 2) 80 fin_5.1) (wl := cl_cat Y act fin_5) (v := none) (st0 := [.int 0, .int record, .ref (act 1)]) (As := [.int record, .int 0]) (rest := []) (W1 := cl_row Y (act 1) (act 2) 80 (m_X4_set 80 fin_5.1 record 0)) (C := RX4) (b := act 1) (cl_cat Y act (m_X4_set 80 fin_5.1 record 0, fin_5.2.1, fin_5.2.2.1, fin_5.2.2.2.1, fin_5.2.2.2.2.1, fin_5.2.2.2.2.2.1, fin_5.2.2.2.2.2.2)) [0, 3, 4, 5, 6, 7, 8, 9, 10, 11, 12, 13, 14] ⟨hx, hb, hml, hown, hts⟩ (ct_X4_set l D Y (act 1) (act 2) 80 fin_5.1 record 0 (by decide)) (cwV 2 hts gX0_join_X4_set rfl rfl rfl (by decide +kernel) ⟨Nat.le_of_ble_eq_true rfl, Nat.le_of_ble_eq_true rfl⟩) hG hP hD hS [1, 2] rfl (by decide +kernel) ⟨rfl, ⟨[(act 0, .inr (0, [.ref (act 1), .ref (act 3), .ref (act 5), .ref (act 7), .ref (act 9), .ref (act 11), .ref (act 13)])), (act 3, .inr (1, [.int 80, .int 3, .ref (act 4)])), (act 4, .inl (Y.1, 240, .inl fin_5.2.1)), (act 5, .inr (1, [.int 80, .int 4, .ref (act 6)])), (act 6, .inl (Y.1, 320, .inl fin_5.2.2.1)), (act 7, .inr (1, [.int 80, .int 4, .ref (act 8)])), (act 8, .inl (Y.1, 320, .inl fin_5.2.2.2.1)), (act 9, .inr (1, [.int 80, .int 4, .ref (act 10)])), (act 10, .inl (Y.1, 320, .inl fin_5.2.2.2.2.1)), (act 11, .inr (4, [.ref (act 12)])), (act 12, .inl (Y.1, 80, .inl fin_5.2.2.2.2.2.1)), (act 13, .inr (4, [.ref (act 14)])), (act 14, .inl (Y.1, 80, .inl fin_5.2.2.2.2.2.2))], rfl, rfl⟩, 15, rfl, by decide +kernel⟩ ⟨[act 1, act 2], rfl, rfl⟩ 1 4 (qc := (RX4, TX4, 1)) (fs := [.ref (act 2)]) rfl rfl rfl rfl hl.1 rfl (Nat.le_of_ble_eq_true rfl) dX0_join_130 ⟨Nat.zero_le _, Nat.zero_le _⟩ (fun H locs hP hD hS => ?_)
                  change W _ _ _ _ _ _ _ _ _ _ _ _ _ _ _ (F0 m 133 _ [])
                  refine lv_aload_n hx hb dX0_join_133 rfl (lv_at hl 1 rfl) ?_
                  refine lv_iload_n hx hb dX0_join_134 rfl (lv_at hl 3 rfl) ?_
                  refine lv_aload_n hx hb dX0_join_135 rfl (lv_at hl 1 rfl) ?_
                  refine va_get (D := D) (ci := 0) (v := .ref (act 11)) (C := RX0) (T := TX0) (N := 7) hx hb hts (fun _ h => List.mem_cons_of_mem _ (List.mem_append_left _ (List.mem_append_left _ (List.mem_append_right _ h)))) hown hG.1 hP 0 rfl rfl 5 (by decide) (hts (.fieldLink RX0 38 "CatalogueLoader$Catalogue" "held" "LCatalogueLoader$Row;") (List.mem_of_getElem? (i := 5) rfl)) (fun _ h9 => h9) rfl dX0_join_136 ?_
                  refine lv_iload_n hx hb dX0_join_139 rfl (lv_at hl 2 rfl) ?_
                  refine cq_RV (R := (cq_rm 3 64)) (args := ([.ref (act 0), .int record, .int other] : List Value).toArray) (y := yX4_get) (bytes := cX4_get) (cc := cX0_join) (maxL := 2) (nL := 4) (n := 1) (index := 49) (ret := (some .int)) (ws := wsX4_get) (rm := cq_rm 0 0) (Ts := wsX0_join) (own := RX0) (D := D) (Y := Y) (W0 := cl_row Y (act 11) (act 12) 80 fin_5.2.2.2.2.2.1) (wl := cl_cat Y act (m_X4_set 80 fin_5.1 record 0, fin_5.2.1, fin_5.2.2.1, fin_5.2.2.2.1, fin_5.2.2.2.2.1, fin_5.2.2.2.2.2.1, fin_5.2.2.2.2.2.2)) (v := some (.int (m_X4_get 80 fin_5.2.2.2.2.2.1 record))) (st0 := [.int record, .ref (act 11), .int other, .ref (act 0)]) (As := [.int record]) (rest := [.int other, .ref (act 0)]) (C := RX4) (b := act 11) ⟨hx, hb, hml, hown, hts⟩ (ct_X4_get l D Y (act 11) (act 12) 80 fin_5.2.2.2.2.2.1 record (by decide)) (cwV 1 hts gX0_join_X4_get rfl rfl rfl (by decide +kernel) ⟨Nat.le_of_ble_eq_true rfl, Nat.le_of_ble_eq_true rfl⟩) hG hP hD [11, 12] rfl (by decide +kernel) 11 4 (qc := (RX4, TX4, 1)) (fs := [.ref (act 12)]) rfl rfl rfl rfl hl.1 rfl (Nat.le_of_ble_eq_true rfl) dX0_join_140 ⟨Nat.zero_le _, Nat.zero_le _⟩ ?_
                  change W _ _ _ _ _ _ _ _ _ _ _ _ _ _ _ (F0 m 143 _ (.int (m_X4_get 80 fin_5.2.2.2.2.2.1 record) :: [.int other, .ref (act 0)]))
                  refine cq_WV (R := (cq_rm 3 64)) (args := ([.ref (act 0), .int record, .int other] : List Value).toArray) (y := yX0_addHoldings) (bytes := cX0_addHoldings) (cc := cX0_join) (maxL := 3) (nL := 4) (n := 2) (index := 98) (ret := (some .int)) (ws := wsX0_addHoldings) (rm := cq_rm 2 42) (Ts := wsX0_join) (own := RX0) (D := D) (Y := Y) (W0 := cl_cat Y act (m_X4_set 80 fin_5.1 record 0, fin_5.2.1, fin_5.2.2.1, fin_5.2.2.2.1, fin_5.2.2.2.2.1, fin_5.2.2.2.2.2.1, fin_5.2.2.2.2.2.2)) (wl := cl_cat Y act (m_X4_set 80 fin_5.1 record 0, fin_5.2.1, fin_5.2.2.1, fin_5.2.2.2.1, fin_5.2.2.2.2.1, fin_5.2.2.2.2.2.1, fin_5.2.2.2.2.2.2)) (v := some (.int ((m_X0_addHoldings (m_X4_set 80 fin_5.1 record 0, fin_5.2.1, fin_5.2.2.1, fin_5.2.2.2.1, fin_5.2.2.2.2.1, fin_5.2.2.2.2.2.1, fin_5.2.2.2.2.2.2) other (m_X4_get 80 fin_5.2.2.2.2.2.1 record)).2))) (st0 := [.int (m_X4_get 80 fin_5.2.2.2.2.2.1 record), .int other, .ref (act 0)]) (As := [.int other, .int (m_X4_get 80 fin_5.2.2.2.2.2.1 record)]) (rest := []) (W1 := cl_cat Y act ((m_X0_addHoldings (m_X4_set 80 fin_5.1 record 0, fin_5.2.1, fin_5.2.2.1, fin_5.2.2.2.1, fin_5.2.2.2.2.1, fin_5.2.2.2.2.2.1, fin_5.2.2.2.2.2.2) other (m_X4_get 80 fin_5.2.2.2.2.2.1 record)).1)) (C := RX0) (b := act 0) (cl_cat Y act ((m_X0_addHoldings (m_X4_set 80 fin_5.1 record 0, fin_5.2.1, fin_5.2.2.1, fin_5.2.2.2.1, fin_5.2.2.2.2.1, fin_5.2.2.2.2.2.1, fin_5.2.2.2.2.2.2) other (m_X4_get 80 fin_5.2.2.2.2.2.1 record)).1)) [] ⟨hx, hb, hml, hown, hts⟩ (ct_X0_addHoldings l D Y act (m_X4_set 80 fin_5.1 record 0, fin_5.2.1, fin_5.2.2.1, fin_5.2.2.2.1, fin_5.2.2.2.2.1, fin_5.2.2.2.2.2.1, fin_5.2.2.2.2.2.2) other (m_X4_get 80 fin_5.2.2.2.2.2.1 record)) (cwV 2 hts gX0_join_X0_addHoldings rfl rfl rfl (by decide +kernel) ⟨Nat.le_of_ble_eq_true rfl, Nat.le_of_ble_eq_true rfl⟩) hG hP hD hS [0, 1, 2, 3, 4, 5, 6, 7, 8, 9, 10, 11, 12, 13, 14] rfl (by decide +kernel) ⟨rfl, ⟨[], rfl, rfl⟩, 15, rfl, by decide +kernel⟩ ⟨[act 0, act 1, act 2, act 3, act 4, act 5, act 6, act 7, act 8, act 9, act 10, act 11, act 12, act 13, act 14], rfl, rfl⟩ 0 0 (qc := (RX0, TX0, 7)) (fs := [.ref (act 1), .ref (act 3), .ref (act 5), .ref (act 7), .ref (act 9), .ref (act 11), .ref (act 13)]) rfl rfl rfl rfl hl.1 rfl (Nat.le_of_ble_eq_true rfl) dX0_join_143 ⟨Nat.zero_le _, Nat.zero_le _⟩ (fun H locs hP hD hS => ?_)
                  obtain ⟨c_7, ec_7⟩ : ∃ z, z = (m_X0_addHoldings (m_X4_set 80 fin_5.1 record 0, fin_5.2.1, fin_5.2.2.1, fin_5.2.2.2.1, fin_5.2.2.2.2.1, fin_5.2.2.2.2.2.1, fin_5.2.2.2.2.2.2) other (m_X4_get 80 fin_5.2.2.2.2.2.1 record)).1 := ⟨_, rfl⟩
                  rw [← ec_7] at hP hD
                  change W _ _ _ _ _ _ _ _ _ _ _ _ _ _ _ (F0 m 146 _ (.int ((m_X0_addHoldings (m_X4_set 80 fin_5.1 record 0, fin_5.2.1, fin_5.2.2.1, fin_5.2.2.2.1, fin_5.2.2.2.2.1, fin_5.2.2.2.2.2.1, fin_5.2.2.2.2.2.2) other (m_X4_get 80 fin_5.2.2.2.2.2.1 record)).2) :: []))
                  exact cq_wI (wl := cl_cat Y act c_7) hx hb hr hlocks (vp_nar_int _) hP hS (by subst ec_7; subst efin_5; subst efin_3; simp only [m_X0_join, eq_false c_1, eq_false c_2, ↓reduceIte, if_true, if_false]) (by subst ec_7; subst efin_5; subst efin_3; simp only [m_X0_join, eq_false c_1, eq_false c_2, ↓reduceIte, if_true, if_false]) dX0_join_146
                · exact absurd hz c_6
              | succ n64 ih64 =>
                intro k64 s0_64 H locs ls hkn hres64 hP hD hS hl
                have hz : ¬ (4 ≤ nI k64) := cq_s (N := 4) rfl (by omega) (by omega)
                refine lv_iload_n hx hb dX0_join_64 rfl (lv_at hl 0 rfl) ?_
                refine lv_iconst (v := 4) hx hb dX0_join_65 (by decide) ?_
                refine lv_icmp_ge (tgt := 124) hx hb dX0_join_66 (by decide) (fun c_8 => ?_) (fun c_8 => ?_)
                · exact absurd c_8 hz
                · refine lv_aload_n hx hb dX0_join_69 rfl (lv_at hl 1 rfl) ?_
                  refine va_get (D := D) (ci := 0) (v := .ref (act 5)) (C := RX0) (T := TX0) (N := 7) hx hb hts (fun _ h => List.mem_cons_of_mem _ (List.mem_append_left _ (List.mem_append_left _ (List.mem_append_right _ h)))) hown hG.1 hP 0 rfl rfl 2 (by decide) (hts (.fieldLink RX0 29 "CatalogueLoader$Catalogue" "fields" "LCatalogueLoader$Grid;") (List.mem_of_getElem? (i := 2) rfl)) (fun _ h9 => h9) rfl dX0_join_70 ?_
                  refine lv_iload_n hx hb dX0_join_73 rfl (lv_at hl 3 rfl) ?_
                  refine lv_iload_n hx hb dX0_join_74 rfl (lv_at hl 0 rfl) ?_
                  refine cq_RV (R := (cq_rm 3 64)) (args := ([.ref (act 0), .int record, .int other] : List Value).toArray) (y := yX1_get) (bytes := cX1_get) (cc := cX0_join) (maxL := 4) (nL := 4) (n := 2) (index := 83) (ret := (some .int)) (ws := wsX1_get) (rm := cq_rm 0 0) (Ts := wsX0_join) (own := RX0) (D := D) (Y := Y) (W0 := cl_grd Y (act 5) (act 6) 80 4 320 s0_64.2.2.1) (wl := cl_cat Y act s0_64) (v := some (.int (m_X1_get 80 4 320 s0_64.2.2.1 other (nI k64)))) (st0 := [.int (nI k64), .int other, .ref (act 5)]) (As := [.int other, .int (nI k64)]) (rest := []) (C := RX1) (b := act 5) ⟨hx, hb, hml, hown, hts⟩ (ct_X1_get l D Y (act 5) (act 6) 80 4 320 s0_64.2.2.1 other (nI k64) (by decide)) (cwV 2 hts gX0_join_X1_get rfl rfl rfl (by decide +kernel) ⟨Nat.le_of_ble_eq_true rfl, Nat.le_of_ble_eq_true rfl⟩) hG hP hD [5, 6] rfl (by decide +kernel) 5 1 (qc := (RX1, TX1, 3)) (fs := [.int 80, .int 4, .ref (act 6)]) rfl rfl rfl rfl hl.1 rfl (Nat.le_of_ble_eq_true rfl) dX0_join_75 ⟨Nat.zero_le _, Nat.zero_le _⟩ ?_
                  change W _ _ _ _ _ _ _ _ _ _ _ _ _ _ _ (F0 m 78 _ (.int (m_X1_get 80 4 320 s0_64.2.2.1 other (nI k64)) :: []))
                  refine lv_iconst (v := (-1)) hx hb dX0_join_78 (by decide) ?_
                  refine lv_icmp_ne (tgt := 118) hx hb dX0_join_79 (by decide) (fun c_9 => ?_) (fun c_9 => ?_)
                  · refine lv_iinc (v := nI (k64 + 1)) (lv' := [(3, .int (nI (k64 + 1))), (0, .ref (act 0)), (1, .int record), (2, .int other)]) hx hb dX0_join_118 hl (k := 0) rfl (nI_1 k64) (by decide) rfl (fun ls hl => ?_)
                    refine lv_goto (tgt := 64) hx hb dX0_join_121 (by decide) ?_
                    exact ih64 (k64 + 1) s0_64 _ _ _ (by omega) (Eq.trans (by subst efin_3; simp only [m_X0_join_lp64, eq_false c_1, eq_false c_2, eq_false c_9, ↓reduceIte, if_true, if_false]) hres64) hP hD hS (lv_sub hl [0, 1, 2, 3] rfl)
                  · refine lv_aload_n hx hb dX0_join_82 rfl (lv_at hl 1 rfl) ?_
                    refine va_get (D := D) (ci := 0) (v := .ref (act 5)) (C := RX0) (T := TX0) (N := 7) hx hb hts (fun _ h => List.mem_cons_of_mem _ (List.mem_append_left _ (List.mem_append_left _ (List.mem_append_right _ h)))) hown hG.1 hP 0 rfl rfl 2 (by decide) (hts (.fieldLink RX0 29 "CatalogueLoader$Catalogue" "fields" "LCatalogueLoader$Grid;") (List.mem_of_getElem? (i := 2) rfl)) (fun _ h9 => h9) rfl dX0_join_83 ?_
                    refine lv_iload_n hx hb dX0_join_86 rfl (lv_at hl 3 rfl) ?_
                    refine lv_iload_n hx hb dX0_join_87 rfl (lv_at hl 0 rfl) ?_
                    refine lv_aload_n hx hb dX0_join_88 rfl (lv_at hl 1 rfl) ?_
                    refine va_get (D := D) (ci := 0) (v := .ref (act 5)) (C := RX0) (T := TX0) (N := 7) hx hb hts (fun _ h => List.mem_cons_of_mem _ (List.mem_append_left _ (List.mem_append_left _ (List.mem_append_right _ h)))) hown hG.1 hP 0 rfl rfl 2 (by decide) (hts (.fieldLink RX0 29 "CatalogueLoader$Catalogue" "fields" "LCatalogueLoader$Grid;") (List.mem_of_getElem? (i := 2) rfl)) (fun _ h9 => h9) rfl dX0_join_89 ?_
                    refine lv_iload_n hx hb dX0_join_92 rfl (lv_at hl 2 rfl) ?_
                    refine lv_iload_n hx hb dX0_join_93 rfl (lv_at hl 0 rfl) ?_
                    refine cq_RV (R := (cq_rm 3 64)) (args := ([.ref (act 0), .int record, .int other] : List Value).toArray) (y := yX1_get) (bytes := cX1_get) (cc := cX0_join) (maxL := 4) (nL := 4) (n := 2) (index := 83) (ret := (some .int)) (ws := wsX1_get) (rm := cq_rm 0 0) (Ts := wsX0_join) (own := RX0) (D := D) (Y := Y) (W0 := cl_grd Y (act 5) (act 6) 80 4 320 s0_64.2.2.1) (wl := cl_cat Y act s0_64) (v := some (.int (m_X1_get 80 4 320 s0_64.2.2.1 record (nI k64)))) (st0 := [.int (nI k64), .int record, .ref (act 5), .int (nI k64), .int other, .ref (act 5)]) (As := [.int record, .int (nI k64)]) (rest := [.int (nI k64), .int other, .ref (act 5)]) (C := RX1) (b := act 5) ⟨hx, hb, hml, hown, hts⟩ (ct_X1_get l D Y (act 5) (act 6) 80 4 320 s0_64.2.2.1 record (nI k64) (by decide)) (cwV 2 hts gX0_join_X1_get rfl rfl rfl (by decide +kernel) ⟨Nat.le_of_ble_eq_true rfl, Nat.le_of_ble_eq_true rfl⟩) hG hP hD [5, 6] rfl (by decide +kernel) 5 1 (qc := (RX1, TX1, 3)) (fs := [.int 80, .int 4, .ref (act 6)]) rfl rfl rfl rfl hl.1 rfl (Nat.le_of_ble_eq_true rfl) dX0_join_94 ⟨Nat.zero_le _, Nat.zero_le _⟩ ?_
                    change W _ _ _ _ _ _ _ _ _ _ _ _ _ _ _ (F0 m 97 _ (.int (m_X1_get 80 4 320 s0_64.2.2.1 record (nI k64)) :: [.int (nI k64), .int other, .ref (act 5)]))
                    refine cq_WV (R := (cq_rm 3 64)) (args := ([.ref (act 0), .int record, .int other] : List Value).toArray) (y := yX1_set) (bytes := cX1_set) (cc := cX0_join) (maxL := 5) (nL := 4) (n := 3) (index := 89) (ret := none) (ws := wsX1_set) (rm := cq_rm 0 0) (Ts := wsX0_join) (own := RX0) (D := D) (Y := Y) (W0 := cl_grd Y (act 5) (act 6) 80 4 320 s0_64.2.2.1) (wl := cl_cat Y act s0_64) (v := none) (st0 := [.int (m_X1_get 80 4 320 s0_64.2.2.1 record (nI k64)), .int (nI k64), .int other, .ref (act 5)]) (As := [.int other, .int (nI k64), .int (m_X1_get 80 4 320 s0_64.2.2.1 record (nI k64))]) (rest := []) (W1 := cl_grd Y (act 5) (act 6) 80 4 320 (m_X1_set 80 4 320 s0_64.2.2.1 other (nI k64) (m_X1_get 80 4 320 s0_64.2.2.1 record (nI k64)))) (C := RX1) (b := act 5) (cl_cat Y act (s0_64.1, s0_64.2.1, m_X1_set 80 4 320 s0_64.2.2.1 other (nI k64) (m_X1_get 80 4 320 s0_64.2.2.1 record (nI k64)), s0_64.2.2.2.1, s0_64.2.2.2.2.1, s0_64.2.2.2.2.2.1, s0_64.2.2.2.2.2.2)) [0, 1, 2, 3, 4, 7, 8, 9, 10, 11, 12, 13, 14] ⟨hx, hb, hml, hown, hts⟩ (ct_X1_set l D Y (act 5) (act 6) 80 4 320 s0_64.2.2.1 other (nI k64) (m_X1_get 80 4 320 s0_64.2.2.1 record (nI k64)) (by decide)) (cwV 3 hts gX0_join_X1_set rfl rfl rfl (by decide +kernel) ⟨Nat.le_of_ble_eq_true rfl, Nat.le_of_ble_eq_true rfl⟩) hG hP hD hS [5, 6] rfl (by decide +kernel) ⟨rfl, ⟨[(act 0, .inr (0, [.ref (act 1), .ref (act 3), .ref (act 5), .ref (act 7), .ref (act 9), .ref (act 11), .ref (act 13)])), (act 1, .inr (4, [.ref (act 2)])), (act 2, .inl (Y.1, 80, .inl s0_64.1)), (act 3, .inr (1, [.int 80, .int 3, .ref (act 4)])), (act 4, .inl (Y.1, 240, .inl s0_64.2.1)), (act 7, .inr (1, [.int 80, .int 4, .ref (act 8)])), (act 8, .inl (Y.1, 320, .inl s0_64.2.2.2.1)), (act 9, .inr (1, [.int 80, .int 4, .ref (act 10)])), (act 10, .inl (Y.1, 320, .inl s0_64.2.2.2.2.1)), (act 11, .inr (4, [.ref (act 12)])), (act 12, .inl (Y.1, 80, .inl s0_64.2.2.2.2.2.1)), (act 13, .inr (4, [.ref (act 14)])), (act 14, .inl (Y.1, 80, .inl s0_64.2.2.2.2.2.2))], rfl, rfl⟩, 15, rfl, by decide +kernel⟩ ⟨[act 5, act 6], rfl, rfl⟩ 5 1 (qc := (RX1, TX1, 3)) (fs := [.int 80, .int 4, .ref (act 6)]) rfl rfl rfl rfl hl.1 rfl (Nat.le_of_ble_eq_true rfl) dX0_join_97 ⟨Nat.zero_le _, Nat.zero_le _⟩ (fun H locs hP hD hS => ?_)
                    change W _ _ _ _ _ _ _ _ _ _ _ _ _ _ _ (F0 m 100 _ [])
                    refine lv_aload_n hx hb dX0_join_100 rfl (lv_at hl 1 rfl) ?_
                    refine va_get (D := D) (ci := 0) (v := .ref (act 7)) (C := RX0) (T := TX0) (N := 7) hx hb hts (fun _ h => List.mem_cons_of_mem _ (List.mem_append_left _ (List.mem_append_left _ (List.mem_append_right _ h)))) hown hG.1 hP 0 rfl rfl 3 (by decide) (hts (.fieldLink RX0 32 "CatalogueLoader$Catalogue" "sources" "LCatalogueLoader$Grid;") (List.mem_of_getElem? (i := 3) rfl)) (fun _ h9 => h9) rfl dX0_join_101 ?_
                    refine lv_iload_n hx hb dX0_join_104 rfl (lv_at hl 3 rfl) ?_
                    refine lv_iload_n hx hb dX0_join_105 rfl (lv_at hl 0 rfl) ?_
                    refine lv_aload_n hx hb dX0_join_106 rfl (lv_at hl 1 rfl) ?_
                    refine va_get (D := D) (ci := 0) (v := .ref (act 7)) (C := RX0) (T := TX0) (N := 7) hx hb hts (fun _ h => List.mem_cons_of_mem _ (List.mem_append_left _ (List.mem_append_left _ (List.mem_append_right _ h)))) hown hG.1 hP 0 rfl rfl 3 (by decide) (hts (.fieldLink RX0 32 "CatalogueLoader$Catalogue" "sources" "LCatalogueLoader$Grid;") (List.mem_of_getElem? (i := 3) rfl)) (fun _ h9 => h9) rfl dX0_join_107 ?_
                    refine lv_iload_n hx hb dX0_join_110 rfl (lv_at hl 2 rfl) ?_
                    refine lv_iload_n hx hb dX0_join_111 rfl (lv_at hl 0 rfl) ?_
                    refine cq_RV (R := (cq_rm 3 64)) (args := ([.ref (act 0), .int record, .int other] : List Value).toArray) (y := yX1_get) (bytes := cX1_get) (cc := cX0_join) (maxL := 4) (nL := 4) (n := 2) (index := 83) (ret := (some .int)) (ws := wsX1_get) (rm := cq_rm 0 0) (Ts := wsX0_join) (own := RX0) (D := D) (Y := Y) (W0 := cl_grd Y (act 7) (act 8) 80 4 320 s0_64.2.2.2.1) (wl := cl_cat Y act (s0_64.1, s0_64.2.1, m_X1_set 80 4 320 s0_64.2.2.1 other (nI k64) (m_X1_get 80 4 320 s0_64.2.2.1 record (nI k64)), s0_64.2.2.2.1, s0_64.2.2.2.2.1, s0_64.2.2.2.2.2.1, s0_64.2.2.2.2.2.2)) (v := some (.int (m_X1_get 80 4 320 s0_64.2.2.2.1 record (nI k64)))) (st0 := [.int (nI k64), .int record, .ref (act 7), .int (nI k64), .int other, .ref (act 7)]) (As := [.int record, .int (nI k64)]) (rest := [.int (nI k64), .int other, .ref (act 7)]) (C := RX1) (b := act 7) ⟨hx, hb, hml, hown, hts⟩ (ct_X1_get l D Y (act 7) (act 8) 80 4 320 s0_64.2.2.2.1 record (nI k64) (by decide)) (cwV 2 hts gX0_join_X1_get rfl rfl rfl (by decide +kernel) ⟨Nat.le_of_ble_eq_true rfl, Nat.le_of_ble_eq_true rfl⟩) hG hP hD [7, 8] rfl (by decide +kernel) 7 1 (qc := (RX1, TX1, 3)) (fs := [.int 80, .int 4, .ref (act 8)]) rfl rfl rfl rfl hl.1 rfl (Nat.le_of_ble_eq_true rfl) dX0_join_112 ⟨Nat.zero_le _, Nat.zero_le _⟩ ?_
                    change W _ _ _ _ _ _ _ _ _ _ _ _ _ _ _ (F0 m 115 _ (.int (m_X1_get 80 4 320 s0_64.2.2.2.1 record (nI k64)) :: [.int (nI k64), .int other, .ref (act 7)]))
                    refine cq_WV (R := (cq_rm 3 64)) (args := ([.ref (act 0), .int record, .int other] : List Value).toArray) (y := yX1_set) (bytes := cX1_set) (cc := cX0_join) (maxL := 5) (nL := 4) (n := 3) (index := 89) (ret := none) (ws := wsX1_set) (rm := cq_rm 0 0) (Ts := wsX0_join) (own := RX0) (D := D) (Y := Y) (W0 := cl_grd Y (act 7) (act 8) 80 4 320 s0_64.2.2.2.1) (wl := cl_cat Y act (s0_64.1, s0_64.2.1, m_X1_set 80 4 320 s0_64.2.2.1 other (nI k64) (m_X1_get 80 4 320 s0_64.2.2.1 record (nI k64)), s0_64.2.2.2.1, s0_64.2.2.2.2.1, s0_64.2.2.2.2.2.1, s0_64.2.2.2.2.2.2)) (v := none) (st0 := [.int (m_X1_get 80 4 320 s0_64.2.2.2.1 record (nI k64)), .int (nI k64), .int other, .ref (act 7)]) (As := [.int other, .int (nI k64), .int (m_X1_get 80 4 320 s0_64.2.2.2.1 record (nI k64))]) (rest := []) (W1 := cl_grd Y (act 7) (act 8) 80 4 320 (m_X1_set 80 4 320 s0_64.2.2.2.1 other (nI k64) (m_X1_get 80 4 320 s0_64.2.2.2.1 record (nI k64)))) (C := RX1) (b := act 7) (cl_cat Y act (s0_64.1, s0_64.2.1, m_X1_set 80 4 320 s0_64.2.2.1 other (nI k64) (m_X1_get 80 4 320 s0_64.2.2.1 record (nI k64)), m_X1_set 80 4 320 s0_64.2.2.2.1 other (nI k64) (m_X1_get 80 4 320 s0_64.2.2.2.1 record (nI k64)), s0_64.2.2.2.2.1, s0_64.2.2.2.2.2.1, s0_64.2.2.2.2.2.2)) [0, 1, 2, 3, 4, 5, 6, 9, 10, 11, 12, 13, 14] ⟨hx, hb, hml, hown, hts⟩ (ct_X1_set l D Y (act 7) (act 8) 80 4 320 s0_64.2.2.2.1 other (nI k64) (m_X1_get 80 4 320 s0_64.2.2.2.1 record (nI k64)) (by decide)) (cwV 3 hts gX0_join_X1_set rfl rfl rfl (by decide +kernel) ⟨Nat.le_of_ble_eq_true rfl, Nat.le_of_ble_eq_true rfl⟩) hG hP hD hS [7, 8] rfl (by decide +kernel) ⟨rfl, ⟨[(act 0, .inr (0, [.ref (act 1), .ref (act 3), .ref (act 5), .ref (act 7), .ref (act 9), .ref (act 11), .ref (act 13)])), (act 1, .inr (4, [.ref (act 2)])), (act 2, .inl (Y.1, 80, .inl s0_64.1)), (act 3, .inr (1, [.int 80, .int 3, .ref (act 4)])), (act 4, .inl (Y.1, 240, .inl s0_64.2.1)), (act 5, .inr (1, [.int 80, .int 4, .ref (act 6)])), (act 6, .inl (Y.1, 320, .inl (m_X1_set 80 4 320 s0_64.2.2.1 other (nI k64) (m_X1_get 80 4 320 s0_64.2.2.1 record (nI k64))))), (act 9, .inr (1, [.int 80, .int 4, .ref (act 10)])), (act 10, .inl (Y.1, 320, .inl s0_64.2.2.2.2.1)), (act 11, .inr (4, [.ref (act 12)])), (act 12, .inl (Y.1, 80, .inl s0_64.2.2.2.2.2.1)), (act 13, .inr (4, [.ref (act 14)])), (act 14, .inl (Y.1, 80, .inl s0_64.2.2.2.2.2.2))], rfl, rfl⟩, 15, rfl, by decide +kernel⟩ ⟨[act 7, act 8], rfl, rfl⟩ 7 1 (qc := (RX1, TX1, 3)) (fs := [.int 80, .int 4, .ref (act 8)]) rfl rfl rfl rfl hl.1 rfl (Nat.le_of_ble_eq_true rfl) dX0_join_115 ⟨Nat.zero_le _, Nat.zero_le _⟩ (fun H locs hP hD hS => ?_)
                    change W _ _ _ _ _ _ _ _ _ _ _ _ _ _ _ (F0 m 118 _ [])
                    refine lv_iinc (v := nI (k64 + 1)) (lv' := [(3, .int (nI (k64 + 1))), (0, .ref (act 0)), (1, .int record), (2, .int other)]) hx hb dX0_join_118 hl (k := 0) rfl (nI_1 k64) (by decide) rfl (fun ls hl => ?_)
                    refine lv_goto (tgt := 64) hx hb dX0_join_121 (by decide) ?_
                    exact ih64 (k64 + 1) (s0_64.1, s0_64.2.1, m_X1_set 80 4 320 s0_64.2.2.1 other (nI k64) (m_X1_get 80 4 320 s0_64.2.2.1 record (nI k64)), m_X1_set 80 4 320 s0_64.2.2.2.1 other (nI k64) (m_X1_get 80 4 320 s0_64.2.2.2.1 record (nI k64)), s0_64.2.2.2.2.1, s0_64.2.2.2.2.2.1, s0_64.2.2.2.2.2.2) _ _ _ (by omega) (Eq.trans (by subst efin_3; simp only [m_X0_join_lp64, eq_false c_1, eq_false c_2, eq_true c_9, ↓reduceIte, if_true, if_false]) hres64) hP hD hS (lv_sub hl [0, 1, 2, 3] rfl)
            exact lp64 4 0 fin_3 _ _ _ (Nat.zero_add _) efin_5.symm hP hD hS (lv_sub hl [0, 1, 2, 3] rfl)
          · exact absurd hz c_4
        | succ n20 ih20 =>
          intro k20 s0_20 H locs ls hkn hres20 hP hD hS hl
          have hz : ¬ (3 ≤ nI k20) := cq_s (N := 3) rfl (by omega) (by omega)
          refine lv_iload_n hx hb dX0_join_20 rfl (lv_at hl 0 rfl) ?_
          refine lv_iconst (v := 3) hx hb dX0_join_21 (by decide) ?_
          refine lv_icmp_ge (tgt := 62) hx hb dX0_join_22 (by decide) (fun c_10 => ?_) (fun c_10 => ?_)
          · exact absurd c_10 hz
          · refine lv_aload_n hx hb dX0_join_25 rfl (lv_at hl 1 rfl) ?_
            refine va_get (D := D) (ci := 0) (v := .ref (act 3)) (C := RX0) (T := TX0) (N := 7) hx hb hts (fun _ h => List.mem_cons_of_mem _ (List.mem_append_left _ (List.mem_append_left _ (List.mem_append_right _ h)))) hown hG.1 hP 0 rfl rfl 1 (by decide) (hts (.fieldLink RX0 25 "CatalogueLoader$Catalogue" "keys" "LCatalogueLoader$Grid;") (List.mem_of_getElem? (i := 1) rfl)) (fun _ h9 => h9) rfl dX0_join_26 ?_
            refine lv_iload_n hx hb dX0_join_29 rfl (lv_at hl 3 rfl) ?_
            refine lv_iload_n hx hb dX0_join_30 rfl (lv_at hl 0 rfl) ?_
            refine cq_RV (R := (cq_rm 3 64)) (args := ([.ref (act 0), .int record, .int other] : List Value).toArray) (y := yX1_get) (bytes := cX1_get) (cc := cX0_join) (maxL := 4) (nL := 4) (n := 2) (index := 83) (ret := (some .int)) (ws := wsX1_get) (rm := cq_rm 0 0) (Ts := wsX0_join) (own := RX0) (D := D) (Y := Y) (W0 := cl_grd Y (act 3) (act 4) 80 3 240 s0_20.2.1) (wl := cl_cat Y act s0_20) (v := some (.int (m_X1_get 80 3 240 s0_20.2.1 other (nI k20)))) (st0 := [.int (nI k20), .int other, .ref (act 3)]) (As := [.int other, .int (nI k20)]) (rest := []) (C := RX1) (b := act 3) ⟨hx, hb, hml, hown, hts⟩ (ct_X1_get l D Y (act 3) (act 4) 80 3 240 s0_20.2.1 other (nI k20) (by decide)) (cwV 2 hts gX0_join_X1_get rfl rfl rfl (by decide +kernel) ⟨Nat.le_of_ble_eq_true rfl, Nat.le_of_ble_eq_true rfl⟩) hG hP hD [3, 4] rfl (by decide +kernel) 3 1 (qc := (RX1, TX1, 3)) (fs := [.int 80, .int 3, .ref (act 4)]) rfl rfl rfl rfl hl.1 rfl (Nat.le_of_ble_eq_true rfl) dX0_join_31 ⟨Nat.zero_le _, Nat.zero_le _⟩ ?_
            change W _ _ _ _ _ _ _ _ _ _ _ _ _ _ _ (F0 m 34 _ (.int (m_X1_get 80 3 240 s0_20.2.1 other (nI k20)) :: []))
            refine lv_iconst (v := (-1)) hx hb dX0_join_34 (by decide) ?_
            refine lv_icmp_ne (tgt := 56) hx hb dX0_join_35 (by decide) (fun c_11 => ?_) (fun c_11 => ?_)
            · refine lv_iinc (v := nI (k20 + 1)) (lv' := [(3, .int (nI (k20 + 1))), (0, .ref (act 0)), (1, .int record), (2, .int other)]) hx hb dX0_join_56 hl (k := 0) rfl (nI_1 k20) (by decide) rfl (fun ls hl => ?_)
              refine lv_goto (tgt := 20) hx hb dX0_join_59 (by decide) ?_
              exact ih20 (k20 + 1) s0_20 _ _ _ (by omega) (Eq.trans (by simp only [m_X0_join_lp20, eq_false c_1, eq_false c_2, eq_false c_11, ↓reduceIte, if_true, if_false]) hres20) hP hD hS (lv_sub hl [0, 1, 2, 3] rfl)
            · refine lv_aload_n hx hb dX0_join_38 rfl (lv_at hl 1 rfl) ?_
              refine va_get (D := D) (ci := 0) (v := .ref (act 3)) (C := RX0) (T := TX0) (N := 7) hx hb hts (fun _ h => List.mem_cons_of_mem _ (List.mem_append_left _ (List.mem_append_left _ (List.mem_append_right _ h)))) hown hG.1 hP 0 rfl rfl 1 (by decide) (hts (.fieldLink RX0 25 "CatalogueLoader$Catalogue" "keys" "LCatalogueLoader$Grid;") (List.mem_of_getElem? (i := 1) rfl)) (fun _ h9 => h9) rfl dX0_join_39 ?_
              refine lv_iload_n hx hb dX0_join_42 rfl (lv_at hl 3 rfl) ?_
              refine lv_iload_n hx hb dX0_join_43 rfl (lv_at hl 0 rfl) ?_
              refine lv_aload_n hx hb dX0_join_44 rfl (lv_at hl 1 rfl) ?_
              refine va_get (D := D) (ci := 0) (v := .ref (act 3)) (C := RX0) (T := TX0) (N := 7) hx hb hts (fun _ h => List.mem_cons_of_mem _ (List.mem_append_left _ (List.mem_append_left _ (List.mem_append_right _ h)))) hown hG.1 hP 0 rfl rfl 1 (by decide) (hts (.fieldLink RX0 25 "CatalogueLoader$Catalogue" "keys" "LCatalogueLoader$Grid;") (List.mem_of_getElem? (i := 1) rfl)) (fun _ h9 => h9) rfl dX0_join_45 ?_
              refine lv_iload_n hx hb dX0_join_48 rfl (lv_at hl 2 rfl) ?_
              refine lv_iload_n hx hb dX0_join_49 rfl (lv_at hl 0 rfl) ?_
              refine cq_RV (R := (cq_rm 3 64)) (args := ([.ref (act 0), .int record, .int other] : List Value).toArray) (y := yX1_get) (bytes := cX1_get) (cc := cX0_join) (maxL := 4) (nL := 4) (n := 2) (index := 83) (ret := (some .int)) (ws := wsX1_get) (rm := cq_rm 0 0) (Ts := wsX0_join) (own := RX0) (D := D) (Y := Y) (W0 := cl_grd Y (act 3) (act 4) 80 3 240 s0_20.2.1) (wl := cl_cat Y act s0_20) (v := some (.int (m_X1_get 80 3 240 s0_20.2.1 record (nI k20)))) (st0 := [.int (nI k20), .int record, .ref (act 3), .int (nI k20), .int other, .ref (act 3)]) (As := [.int record, .int (nI k20)]) (rest := [.int (nI k20), .int other, .ref (act 3)]) (C := RX1) (b := act 3) ⟨hx, hb, hml, hown, hts⟩ (ct_X1_get l D Y (act 3) (act 4) 80 3 240 s0_20.2.1 record (nI k20) (by decide)) (cwV 2 hts gX0_join_X1_get rfl rfl rfl (by decide +kernel) ⟨Nat.le_of_ble_eq_true rfl, Nat.le_of_ble_eq_true rfl⟩) hG hP hD [3, 4] rfl (by decide +kernel) 3 1 (qc := (RX1, TX1, 3)) (fs := [.int 80, .int 3, .ref (act 4)]) rfl rfl rfl rfl hl.1 rfl (Nat.le_of_ble_eq_true rfl) dX0_join_50 ⟨Nat.zero_le _, Nat.zero_le _⟩ ?_
              change W _ _ _ _ _ _ _ _ _ _ _ _ _ _ _ (F0 m 53 _ (.int (m_X1_get 80 3 240 s0_20.2.1 record (nI k20)) :: [.int (nI k20), .int other, .ref (act 3)]))
              refine cq_WV (R := (cq_rm 3 64)) (args := ([.ref (act 0), .int record, .int other] : List Value).toArray) (y := yX1_set) (bytes := cX1_set) (cc := cX0_join) (maxL := 5) (nL := 4) (n := 3) (index := 89) (ret := none) (ws := wsX1_set) (rm := cq_rm 0 0) (Ts := wsX0_join) (own := RX0) (D := D) (Y := Y) (W0 := cl_grd Y (act 3) (act 4) 80 3 240 s0_20.2.1) (wl := cl_cat Y act s0_20) (v := none) (st0 := [.int (m_X1_get 80 3 240 s0_20.2.1 record (nI k20)), .int (nI k20), .int other, .ref (act 3)]) (As := [.int other, .int (nI k20), .int (m_X1_get 80 3 240 s0_20.2.1 record (nI k20))]) (rest := []) (W1 := cl_grd Y (act 3) (act 4) 80 3 240 (m_X1_set 80 3 240 s0_20.2.1 other (nI k20) (m_X1_get 80 3 240 s0_20.2.1 record (nI k20)))) (C := RX1) (b := act 3) (cl_cat Y act (s0_20.1, m_X1_set 80 3 240 s0_20.2.1 other (nI k20) (m_X1_get 80 3 240 s0_20.2.1 record (nI k20)), s0_20.2.2.1, s0_20.2.2.2.1, s0_20.2.2.2.2.1, s0_20.2.2.2.2.2.1, s0_20.2.2.2.2.2.2)) [0, 1, 2, 5, 6, 7, 8, 9, 10, 11, 12, 13, 14] ⟨hx, hb, hml, hown, hts⟩ (ct_X1_set l D Y (act 3) (act 4) 80 3 240 s0_20.2.1 other (nI k20) (m_X1_get 80 3 240 s0_20.2.1 record (nI k20)) (by decide)) (cwV 3 hts gX0_join_X1_set rfl rfl rfl (by decide +kernel) ⟨Nat.le_of_ble_eq_true rfl, Nat.le_of_ble_eq_true rfl⟩) hG hP hD hS [3, 4] rfl (by decide +kernel) ⟨rfl, ⟨[(act 0, .inr (0, [.ref (act 1), .ref (act 3), .ref (act 5), .ref (act 7), .ref (act 9), .ref (act 11), .ref (act 13)])), (act 1, .inr (4, [.ref (act 2)])), (act 2, .inl (Y.1, 80, .inl s0_20.1)), (act 5, .inr (1, [.int 80, .int 4, .ref (act 6)])), (act 6, .inl (Y.1, 320, .inl s0_20.2.2.1)), (act 7, .inr (1, [.int 80, .int 4, .ref (act 8)])), (act 8, .inl (Y.1, 320, .inl s0_20.2.2.2.1)), (act 9, .inr (1, [.int 80, .int 4, .ref (act 10)])), (act 10, .inl (Y.1, 320, .inl s0_20.2.2.2.2.1)), (act 11, .inr (4, [.ref (act 12)])), (act 12, .inl (Y.1, 80, .inl s0_20.2.2.2.2.2.1)), (act 13, .inr (4, [.ref (act 14)])), (act 14, .inl (Y.1, 80, .inl s0_20.2.2.2.2.2.2))], rfl, rfl⟩, 15, rfl, by decide +kernel⟩ ⟨[act 3, act 4], rfl, rfl⟩ 3 1 (qc := (RX1, TX1, 3)) (fs := [.int 80, .int 3, .ref (act 4)]) rfl rfl rfl rfl hl.1 rfl (Nat.le_of_ble_eq_true rfl) dX0_join_53 ⟨Nat.zero_le _, Nat.zero_le _⟩ (fun H locs hP hD hS => ?_)
              change W _ _ _ _ _ _ _ _ _ _ _ _ _ _ _ (F0 m 56 _ [])
              refine lv_iinc (v := nI (k20 + 1)) (lv' := [(3, .int (nI (k20 + 1))), (0, .ref (act 0)), (1, .int record), (2, .int other)]) hx hb dX0_join_56 hl (k := 0) rfl (nI_1 k20) (by decide) rfl (fun ls hl => ?_)
              refine lv_goto (tgt := 20) hx hb dX0_join_59 (by decide) ?_
              exact ih20 (k20 + 1) (s0_20.1, m_X1_set 80 3 240 s0_20.2.1 other (nI k20) (m_X1_get 80 3 240 s0_20.2.1 record (nI k20)), s0_20.2.2.1, s0_20.2.2.2.1, s0_20.2.2.2.2.1, s0_20.2.2.2.2.2.1, s0_20.2.2.2.2.2.2) _ _ _ (by omega) (Eq.trans (by simp only [m_X0_join_lp20, eq_false c_1, eq_false c_2, eq_true c_11, ↓reduceIte, if_true, if_false]) hres20) hP hD hS (lv_sub hl [0, 1, 2, 3] rfl)
      exact lp20 3 0 ct _ _ _ (Nat.zero_add _) efin_3.symm hP hD hS (lv_sub hl [0, 1, 2, 3] rfl)
    · refine lv_iconst (v := 0) hx hb dX0_join_16 (by decide) ?_
      exact cq_wI (wl := cl_cat Y act ct) hx hb hr hlocks (vp_nar_int _) hP hS (by simp only [m_X0_join, eq_false c_1, eq_true c_2, ↓reduceIte, if_true, if_false]) (by simp only [m_X0_join, eq_false c_1, eq_true c_2, ↓reduceIte, if_true, if_false]) dX0_join_17
end
