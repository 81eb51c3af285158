/-! THE LAW'S BODY: the look at the catalogue; the state at a place of the loop -/
theorem qz_as {a b c d e f g : va_W} : a ++ (b ++ (c ++ (d ++ (e ++ (f ++ g))))) = (a ++ (b ++ (c ++ (d ++ (e ++ f))))) ++ g := by simp only [List.append_assoc]
abbrev qz_5 (Y : cq_Y) (ar : Nat → Nat) (v : FL) (h nn t uu : FI) : va_W := [(ar 0, .inl (Y.2.2, 40, .inr (.inl v))), (ar 1, .inl (Y.1, 40, .inl h)), (ar 3, .inl (Y.1, 4, .inl nn)), (ar 7, .inl (Y.1, 40, .inl t)), (ar 8, .inl (Y.1, 1, .inl uu))]
section QK
variable {p : Program} {l : Launch} {e : Env} {s : State} {m : MethodId} {below : List Frame} {meth : Method} {c : Code} {H : Heap} {locs : List Loc} {cells slots : Nat} {Q : State → Prop} {ls : Array Slot} {D : va_G} {Y : cq_Y} {b L : Nat} {xs : Nat → Int32} {o0 : Nat} {ast ald ahi act acd ar : Nat → Nat}
variable {n bt d U : Nat} {st : SetS} {ld : LodS} {hi : HisS} {ct cd : CatS} {u : MdlS} {v li : FL} {h ev nn qq bb t uu : FI} {dr : Int64}
set_option maxHeartbeats 4000000 in
set_option maxRecDepth 100000 in
theorem qz_cat {pc : Nat} (X : qz_X p l s m meth c b L xs D Y o0 ast ald ahi act acd ar) (I : IV n bt d U st ld hi ct cd u v h ev nn qq li bb t uu dr) (hP : va_P D vwCl (qz_A Y ar v h ev nn qq li bb t uu) H) (hPK : va_P D vwCl (lz_K Y o0 ast ald ahi act acd st ld hi ct cd) H) (hS : va_S (fun q => s.heap.size ≤ q) s.heap H locs) (hls : ls.size = 23) (hdg : decode code pc = .ok (.invokestatic 139, 3)) (hc : cells + 2000 ≤ 600130) (hs : slots + 12000 ≤ 7301080)
    (kk : ∀ (cd' : CatS) (u' : MdlS) (H1 : Heap) (locs1 : List Loc), IV n bt d U st ld hi ct cd' u' v h ev nn qq li bb t uu dr → va_P D vwCl (qz_A Y ar v h ev nn qq li bb t uu) H1 → va_P D vwCl (lz_K Y o0 ast ald ahi act acd st ld hi ct cd') H1 → va_S (fun q => s.heap.size ≤ q) s.heap H1 locs1 → W p l e room_1 s m #[Value.ref b] below meth c H1 locs1 (cells + 970) (slots + 5820) Q (F0 m (pc + 3) ls [.int 1])) :
    W p l e room_1 s m #[Value.ref b] below meth c H locs cells slots Q (F0 m pc ls [.ref (ar 8), .ref (ar 7), .ref (ar 3), .ref (ar 1), .ref (ar 0), .ref o0]) := by
  obtain ⟨C0, hl0, hG, hB, hNC, hap⟩ := id X
  obtain ⟨R, hR, hQ, hD, hE, hV, hN, i8, i9⟩ := id I
  have g := R.2.2.2.2.2.1
  obtain ⟨f9, u', I'⟩ := rd_f9 I
  have hM := ct_L_isCatalogue l D Y o0 ast st ald ld ahi hi act ct acd cd (ar 0) v (ar 1) h (ar 3) nn (ar 7) t (ar 8) uu n bt U i8.1 R.1.2.1 hV.2.1 hN.1 hN.2.1 hV.1 g.2.2.2.1 g.2.2.1 (many_eq hR i8.1) (rd_f4 hR) (rd_f5 hR i8.1 g.2.2.1) (rd_f6 hR) (rd_f7 g.2.2.2.1 R.1.2.1 hV) (sum_dgl hR i8.1) f9 hl0
  have hP5 : va_P D vwCl (qz_5 Y ar v h nn t uu) H := cq_sub_P (ps := [0, 1, 3, 7, 8]) hP rfl
  have hP4 : va_P D vwCl [(ar 2, .inl (Y.1, 64, .inl ev)), (ar 4, .inl (Y.1, 12, .inl qq)), (ar 5, .inl (Y.2.2, 40, .inr (.inl li))), (ar 6, .inl (Y.1, 40, .inl bb))] H := cq_sub_P (ps := [2, 4, 5, 6]) hP rfl
  have hP0 := lz_paP hPK hP5
  have hmem : ∀ x, x ∈ [ar 0, ar 1, ar 3, ar 7, ar 8] → x ∈ qz_aA ar := fun x hx => by
    simp only [List.mem_cons, List.not_mem_nil, or_false] at hx
    simp only [qz_aA, List.mem_cons, List.not_mem_nil, or_false]
    rcases hx with h1 | h1 | h1 | h1 | h1 <;> simp [h1]
  have ap9 := hap.app.1
  have apK := hap.app.2.1
  have hsw := hap.swap
  have inj : ∀ (i j : Nat), i < 9 → j < 9 → ar i = ar j → i = j := fun i j hi hj e9 => ap9.1 i j (ar i) (by
    rcases (show i = 0 ∨ i = 1 ∨ i = 2 ∨ i = 3 ∨ i = 4 ∨ i = 5 ∨ i = 6 ∨ i = 7 ∨ i = 8 by omega) with rfl | rfl | rfl | rfl | rfl | rfl | rfl | rfl | rfl <;> rfl) (by
    rw [e9]
    rcases (show j = 0 ∨ j = 1 ∨ j = 2 ∨ j = 3 ∨ j = 4 ∨ j = 5 ∨ j = 6 ∨ j = 7 ∨ j = 8 by omega) with rfl | rfl | rfl | rfl | rfl | rfl | rfl | rfl | rfl <;> rfl)
  have ap5 : lz_ap (fun q => s.heap.size ≤ q) [ar 0, ar 1, ar 3, ar 7, ar 8] := by
    have hd5 : va_D (fun q => s.heap.size ≤ q) (qz_5 Y ar v h nn t uu) := (ap9.D (qz_eA (Y := Y) (v := v) (h := h) (e := ev) (nn := nn) (qq := qq) (l := li) (bb := bb) (t := t) (uu := uu))).sub [0, 1, 3, 7, 8] (by decide +kernel) rfl
    exact lz_ap.of hd5
  have ap0 : lz_ap (fun q => s.heap.size ≤ q) (lz_aK o0 ast ald ahi act acd ++ [ar 0, ar 1, ar 3, ar 7, ar 8]) := apK.join ap5 (fun x hx => hsw x (hmem x hx))
  have hdis : ∀ x ∈ [ar 2, ar 4, ar 5, ar 6], x ∉ lz_aK o0 ast ald ahi act acd ++ [ar 0, ar 1, ar 3, ar 7, ar 8] := fun x hx h9 => by
    have hx9 : x ∈ qz_aA ar := by
      simp only [List.mem_cons, List.not_mem_nil, or_false] at hx
      simp only [qz_aA, List.mem_cons, List.not_mem_nil, or_false]
      rcases hx with h1 | h1 | h1 | h1 <;> simp [h1]
    rcases List.mem_append.mp h9 with h1 | h1
    · exact hsw x hx9 h1
    · simp only [List.mem_cons, List.not_mem_nil, or_false] at hx h1
      rcases hx with h2 | h2 | h2 | h2 <;> rcases h1 with h3 | h3 | h3 | h3 | h3 <;> exact absurd (inj _ _ (by decide) (by decide) (h2.symm.trans h3)) (by decide)
  have e0 : (lz_K Y o0 ast ald ahi act acd st ld hi ct cd ++ (qz_5 Y ar v h nn t uu)).map (·.1) = lz_aK o0 ast ald ahi act acd ++ [ar 0, ar 1, ar 3, ar 7, ar 8] := by
    rw [List.map_append, lz_eK]; rfl
  rw [qz_as] at hM
  refine qz_callX (l := l) (pc := pc) (n := 6) (Wr := [(ar 2, .inl (Y.1, 64, .inl ev)), (ar 4, .inl (Y.1, 12, .inl qq)), (ar 5, .inl (Y.2.2, 40, .inr (.inl li))), (ar 6, .inl (Y.1, 40, .inl bb))]) (ar9 := [ar 2, ar 4, ar 5, ar 6]) (rest := []) () rfl C0 hG hB ap0 e0 rfl hdis hM gL_law_L_isCatalogue rfl rfl rfl (by decide +kernel) ⟨Nat.le_of_ble_eq_true rfl, Nat.le_of_ble_eq_true rfl⟩ rfl hls rfl (Nat.le_of_ble_eq_true rfl) hdg ⟨qz_f1 hc (by decide), qz_f2 hs (by decide)⟩ hP0 hP4 hS (fun H1 locs1 hP1 hP2 hS1 => ?_)
  rw [qz_as] at hP1
  obtain ⟨hK1, hA5⟩ := lz_apP hP1
  have hA9 : va_P D vwCl (qz_A Y ar v h ev nn qq li bb t uu) H1 := cq_sub_P (ps := [0, 1, 5, 2, 6, 7, 8, 3, 4]) (lz_paP hA5 hP2) rfl
  exact kk _ u' H1 locs1 I' hA9 hK1 hS1
/-- the law, from a place in its loop, whatever the state is -/
def qz_go (p : Program) (l : Launch) (e : Env) (s : State) (m : MethodId) (below : List Frame) (meth : Method) (c : Code) (b : Nat) (D : va_G) (Y : cq_Y) (o0 : Nat) (ast ald ahi act acd ar : Nat → Nat) (Q : State → Prop) (pc tn : Nat) (N : Nat → Prop) (cells slots : Nat) : Prop :=
  ∀ (n bt d U : Nat) (st : SetS) (ld : LodS) (hi : HisS) (ct cd : CatS) (u : MdlS) (v : FL) (h ev nn qq : FI) (li : FL) (bb t uu : FI) (dr : Int64) (H : Heap) (locs : List Loc) (ls : Array Slot), N n → IV n bt d U st ld hi ct cd u v h ev nn qq li bb t uu dr → va_P D vwCl (qz_A Y ar v h ev nn qq li bb t uu) H → va_P D vwCl (lz_K Y o0 ast ald ahi act acd st ld hi ct cd) H → va_S (fun q => s.heap.size ≤ q) s.heap H locs → lv_has ls 23 [(0, .ref b), (1, .ref o0), (2, .ref (ar 0)), (3, .ref (ar 1)), (4, .ref (ar 2)), (5, .ref (ar 5)), (6, .ref (ar 6)), (7, .ref (ar 7)), (8, .ref (ar 3)), (9, .ref (ar 8)), (10, .ref (ar 4)), (11, .long dr), (13, .int 1), (14, .int (nI tn))] → W p l e room_1 s m #[Value.ref b] below meth c H locs cells slots Q (F0 m pc ls [])
end QK
