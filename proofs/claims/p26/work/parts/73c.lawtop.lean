section LAW
variable {p : Program} {l : Launch} {e : Env} {s : State} {m : MethodId} {below : List Frame} {meth : Method} {c : Code} {H : Heap} {locs : List Loc} {cells slots : Nat} {Q : State → Prop} {ls : Array Slot} {D : va_G} {Y : cq_Y} {b L : Nat} {xs : Nat → Int32} {o0 : Nat} {ast ald ahi act acd ar : Nat → Nat}
variable {n bt d U tn K y r : Nat} {st : SetS} {ld : LodS} {hi : HisS} {ct cd : CatS} {u : MdlS} {v li : FL} {h ev nn qq bb t uu : FI} {dr : Int64}
set_option maxHeartbeats 4000000 in
set_option maxRecDepth 100000 in
theorem qz_loop (X : qz_X p l s m meth c b L xs D Y o0 ast ald ahi act acd ar) (hL : L ≤ 260) : ∀ (q tn : Nat), tn + q = 130 → qz_go p l e s m below meth c b D Y o0 ast ald ahi act acd ar (lw_Z below #[Value.ref b] s) 135 tn (fun n => tn ≤ 6 → n = 0) (2000 + 1000 * tn) (20000 + 6000 * tn) := by
  intro q
  induction q with
  | zero =>
    intro tn htq
    obtain rfl : tn = 130 := by omega
    intro n bt d U st ld hi ct cd u v h ev nn qq li bb t uu dr H locs ls hn9 I hP hPK hS hl
    obtain ⟨C0, hl0, hG, hB, hNC, hap⟩ := id X
    obtain ⟨hx, hb, hr, hml, hown, htb, hX, hbl, hlocks, hgv⟩ := id C0
    have hown : s.vm.findClass RL = some m.cls := hown
    have hts : ∀ w ∈ wsL_law, w.before #[Value.ref b] s = true := fun w h => htb w (wsL_law_in w h)
    have hD : va_D (fun q => s.heap.size ≤ q) (qz_A Y ar v h ev nn qq li bb t uu) := qz_apD hap qz_eA
    have hN := I.2.2.2.2.2.2.1
    have hn40 := I.2.2.2.2.2.2.2.1
    have hb10 := I.1.1.2.1
    refine lv_iload hx hb dL_law_135 (lv_at hl 13 rfl) ?_
    refine lv_sipush (v := 130) hx hb dL_law_137 (by decide) ?_
    refine lv_icmp_ge (tgt := 1555) hx hb dL_law_140 (by decide) (fun c_734 => ?_) (fun c_734 => ?_)
    · refine lv_iload hx hb dL_law_1555 (lv_at hl 12 rfl) ?_
      refine va_forget (fun q hq => hS.2.2 q hq) ?_
      refine W.widen (k := 600130) (n := 7301080) (by omega) (by omega) ?_
      exact lw_ret hx hb hr hlocks dL_law_1557
    · exact absurd (show (130 : Int32) ≤ nI 130 by decide) c_734
  | succ q ih =>
    intro tn htq
    have go : qz_go p l e s m below meth c b D Y o0 ast ald ahi act acd ar (lw_Z below #[Value.ref b] s) 1522 tn (fun n => tn + 1 ≤ 6 → n = 0) (2000 + 1000 * tn + 10) (20000 + 6000 * tn + 60) := by
      intro n bt d U st ld hi ct cd u v h ev nn qq li bb t uu dr H locs ls hn9 I hP hPK hS hl
      obtain ⟨C0, hl0, hG, hB, hNC, hap⟩ := id X
      obtain ⟨hx, hb, hr, hml, hown, htb, hX, hbl, hlocks, hgv⟩ := id C0
      have hown : s.vm.findClass RL = some m.cls := hown
      have hts : ∀ w ∈ wsL_law, w.before #[Value.ref b] s = true := fun w h => htb w (wsL_law_in w h)
      have hD : va_D (fun q => s.heap.size ≤ q) (qz_A Y ar v h ev nn qq li bb t uu) := qz_apD hap qz_eA
      have hN := I.2.2.2.2.2.2.1
      have hn40 := I.2.2.2.2.2.2.2.1
      have hb10 := I.1.1.2.1
      refine lv_iload hx hb dL_law_1522 (lv_at hl 12 rfl) ?_
      refine lv_if_eq (tgt := 1546) hx hb dL_law_1524 (by decide) (fun c_735 => ?_) (fun c_735 => ?_)
      · exact absurd c_735 (by decide)
      · refine lv_aload_n hx hb dL_law_1527 rfl (lv_at hl 1 rfl) ?_
        refine lv_aload_n hx hb dL_law_1528 rfl (lv_at hl 2 rfl) ?_
        refine lv_aload_n hx hb dL_law_1529 rfl (lv_at hl 3 rfl) ?_
        refine lv_aload hx hb dL_law_1530 (lv_at hl 8 rfl) ?_
        refine lv_aload hx hb dL_law_1532 (lv_at hl 7 rfl) ?_
        refine lv_aload hx hb dL_law_1534 (lv_at hl 9 rfl) ?_
        refine qz_cat X I hP hPK hS hl.1 dL_law_1536 (by omega) (by omega) (fun cd' u' H locs I hP hPK hS => ?_)
        have hP : va_P D vwCl (qz_A Y ar v h ev nn qq li bb t uu) H := hP
        have hD : va_D (fun q => s.heap.size ≤ q) (qz_A Y ar v h ev nn qq li bb t uu) := qz_apD hap qz_eA
        change W _ _ _ _ _ _ _ _ _ _ _ _ _ _ _ (F0 m 1539 _ [.int 1])
        refine lv_if_eq (tgt := 1546) hx hb dL_law_1539 (by decide) (fun c_736 => ?_) (fun c_736 => ?_)
        · exact absurd c_736 (by decide)
        · refine lv_iconst (v := 1) hx hb dL_law_1542 (by decide) ?_
          refine lv_goto (tgt := 1547) hx hb dL_law_1543 (by decide) ?_
          refine lv_istore (lv' := [(13, .int 1), (0, .ref b), (1, .ref o0), (2, .ref (ar 0)), (3, .ref (ar 1)), (4, .ref (ar 2)), (5, .ref (ar 5)), (6, .ref (ar 6)), (7, .ref (ar 7)), (8, .ref (ar 3)), (9, .ref (ar 8)), (10, .ref (ar 4)), (11, .long dr), (14, .int (nI tn))]) hx hb dL_law_1547 hl (by decide) rfl (fun ls hl => ?_)
          refine lv_iinc (v := nI (tn + 1)) (lv' := [(14, .int (nI (tn + 1))), (13, .int 1), (0, .ref b), (1, .ref o0), (2, .ref (ar 0)), (3, .ref (ar 1)), (4, .ref (ar 2)), (5, .ref (ar 5)), (6, .ref (ar 6)), (7, .ref (ar 7)), (8, .ref (ar 3)), (9, .ref (ar 8)), (10, .ref (ar 4)), (11, .long dr)]) hx hb dL_law_1549 hl (k := 13) rfl (nI_1 tn) (by decide) rfl (fun ls hl => ?_)
          refine lv_goto (tgt := 135) hx hb dL_law_1552 (by decide) ?_
          exact W.widen (by omega) (by omega) (ih (tn + 1) (by omega) _ _ _ _ _ _ _ _ _ _ _ _ _ _ _ _ _ _ _ _ H locs ls (fun h9 => hn9 (by omega)) I hP hPK hS (lv_sub hl [2, 3, 4, 5, 6, 7, 8, 9, 10, 11, 12, 13, 1, 0] rfl))
    intro n bt d U st ld hi ct cd u v h ev nn qq li bb t uu dr H locs ls hn9 I hP hPK hS hl
    have hc : 2000 + 1000 * tn + 4000 ≤ 600130 := by omega
    have hsl : 20000 + 6000 * tn + 24000 ≤ 7301080 := by omega
    obtain ⟨C0, hl0, hG, hB, hNC, hap⟩ := id X
    obtain ⟨hx, hb, hr, hml, hown, htb, hX, hbl, hlocks, hgv⟩ := id C0
    have hown : s.vm.findClass RL = some m.cls := hown
    have hts : ∀ w ∈ wsL_law, w.before #[Value.ref b] s = true := fun w h => htb w (wsL_law_in w h)
    have hD : va_D (fun q => s.heap.size ≤ q) (qz_A Y ar v h ev nn qq li bb t uu) := qz_apD hap qz_eA
    have hN := I.2.2.2.2.2.2.1
    have hn40 := I.2.2.2.2.2.2.2.1
    have hb10 := I.1.1.2.1
    refine lv_iload hx hb dL_law_135 (lv_at hl 13 rfl) ?_
    refine lv_sipush (v := 130) hx hb dL_law_137 (by decide) ?_
    refine lv_icmp_ge (tgt := 1555) hx hb dL_law_140 (by decide) (fun c_737 => ?_) (fun c_737 => ?_)
    · exact absurd c_737 (nI_ge (a := tn) (b := 130) (by omega) (by decide))
    · refine lv_iload hx hb dL_law_143 (lv_at hl 12 rfl) ?_
      refine lv_if_eq (tgt := 1555) hx hb dL_law_145 (by decide) (fun c_738 => ?_) (fun c_738 => ?_)
      · exact absurd c_738 (by decide)
      · exact qz_S1 X hc hsl I hP hPK hS hL (by omega) (fun xN ls hxN hl => qz_S2 X hc hsl I hP hPK hS hxN (by omega) (fun K ls g1 g2 g3 hl => qz_S3 X hc hsl I hP hPK hS hxN (fun y r ls hy hr9 hl => qz_D X hc hsl I hP hPK hS go hy hr9 g1 (fun h9 => hn9 (by omega)) (fun h9 => hn9 (by have := g2 h9; omega)) g3 hl) hl) hl) (lv_sub hl [0, 1, 2, 3, 4, 5, 6, 7, 8, 9, 10, 11, 12, 13] rfl)
end LAW
