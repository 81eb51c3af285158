/-! PURE: the turns: loads, acts, undoing -/
section TL
variable {n b d U : Nat} {st : SetS} {ld : LodS} {hi : HisS} {ct cd : CatS} {u : MdlS} {v l : FL} {h e nn qq bb t uu : FI} {dr : Int64}
theorem tv_load0 {s : Nat} (I : IV n b d U st ld hi ct cd u v h e nn qq l bb t uu dr) (hb : b = 0) (hs : s < 5) : m_X6_load st ld hi ct cd (nI s) = .inl "java/lang/IllegalStateException" := by
  have hB := I.1.2.2.2.2.2.1.2.2.2.1
  unfold m_X6_load
  rw [show m_X6_needIndex (nI s) 5 = .inr () from ix_ok hs (by decide), xb_r, hB, hb, if_pos (show nI 0 = 0 from rfl)]
theorem HE.snoc {d K o q : Nat} {hi hi' : HisS} {e : FI} (hE : HE d hi e) (h1 : ∀ k, k < d → hi'.1 k = hi.1 k ∧ hi'.2.1 k = hi.2.1 k ∧ hi'.2.2.1 k = hi.2.2.1 k ∧ hi'.2.2.2.1 k = hi.2.2.2.1 k) (ho : o < 40) (hq : q < 40) (hF : hi'.2.1 d = nI o)
    (hc : (K = 0 ∧ hi'.1 d = 0) ∨ (K = 1 ∧ hi'.1 d = 1 ∧ hi'.2.2.1 d = nI q ∧ hi'.2.2.2.1 d = 1 ∧ q < 4) ∨ (K = 2 ∧ hi'.1 d = 1 ∧ hi'.2.2.1 d = nI q ∧ hi'.2.2.2.1 d = 0 ∧ q < 4) ∨ (K = 3 ∧ hi'.1 d = 2) ∨ (K = 4 ∧ hi'.1 d = 3 ∧ hi'.2.2.1 d = nI q ∧ ¬ o = q)) :
    HE (d + 1) hi' (upd e d (nI (K + 8 * o + 1024 * q))) := by
  intro k hk
  by_cases e9 : k = d
  · subst e9
    exact ⟨K, o, q, ho, hq, pk_us, hF, hc⟩
  · obtain ⟨K', o', q', g1, g2, g3, g4, g5⟩ := hE k (by omega)
    obtain ⟨a1, a2, a3, a4⟩ := h1 k (by omega)
    refine ⟨K', o', q', g1, g2, by rw [pk_un e9]; exact g3, a2.trans g4, ?_⟩
    rw [a1, a3, a4]; exact g5
theorem tv_load {B s : Nat} {x : Int64} (I : IV n (B + 1) d U st ld hi ct cd u v h e nn qq l bb t uu dr) (hn : n < 40) (hd : d < 64) (hs : s < 5) (x1 : ix x = 0) (x2 : ∀ k, k < 3 → kx x k = kx dr k) (x3 : ∀ k, k < 4 → fx x k = fx dr k ∧ gx x k = 0 ∧ (¬ fx x k = 0 → sx x k = s)) (nn' : FI) (hN : NV (n + 1) (B + 1) (d + 1) nn') :
    ∃ v' h' t', m_L_makes v h (upd e d (nI (0 + 8 * n + 1024 * 0))) nn' qq (vp_updL l n x) (upd bb n (nI (B + 16 * s))) t uu = some (v', h', t') ∧ ∃ z u', m_X6_load st ld hi ct cd (nI s) = .inr z ∧ z.2 = t' n ∧ IV (n + 1) (B + 1) (d + 1) U st z.1.1 z.1.2.1 z.1.2.2 cd u' v' h' (upd e d (nI (0 + 8 * n + 1024 * 0))) nn' qq (vp_updL l n x) (upd bb n (nI (B + 16 * s))) t' uu 0 := by
  obtain ⟨R, hR, hQ, hD, hE, hV, i7, i8, i9⟩ := I
  have R0 := R
  obtain ⟨hL, hc, hO, hz, hct, ⟨g1, g2, g3, g4, g5, g6, g7⟩, h7, h8⟩ := R0
  have hb10 := hL.2.1
  have hin : m_X7_in (nI s) 0 4 = 1 := by
    unfold m_X7_in
    rw [if_neg (nI_pos (by omega)), if_neg (show ¬ (4 : Int32) < nI s from nI_nlt (a := 4) (b := s) (by omega) (by decide))]
  obtain ⟨u', -, -, q1, R'⟩ := R.load (s := s) hs (by omega) (by omega) hin
  have hpm : nI (B + 1) - 1 = nI B := nI_pred B
  have hEq : m_X6_load st ld hi ct cd (nI s) = .inr ((ldL ld n (B + 1) (nI s), ldH hi n d, (m_X0_take ct st (ldL ld n (B + 1) (nI s)) (nI n)).1), (m_X0_take ct st (ldL ld n (B + 1) (nI s)) (nI n)).2) := by
    have hcl : (m_X3_close ld (nI s)).1 = ldL ld n (B + 1) (nI s) := by
      unfold m_X3_close ldL
      dsimp only
      rw [g3, g4, pu_set (show n < 80 by omega) (by decide), pu_set (show n < 80 by omega) (by decide), nI_1]
    have hcx : (m_X3_close ld (nI s)).2 = nI n := g3
    have hap : m_X2_append hi 0 (nI n) (-1) (-1) = ldH hi n d := by
      unfold m_X2_append ldH
      rw [if_pos rfl, g1, g2, pu_set (show d < 180 by omega) (by decide), pu_set (show d < 180 by omega) (by decide), pu_set (show d < 180 by omega) (by decide), pu_set (show d < 180 by omega) (by decide), nI_1, nI_1]
    have e8 : ¬ ld.2.2.2.2.2.2 = 0 := by rw [g4]; exact fun h9 => absurd ((nI_eq (b := 0) (by omega) (by decide)).mp h9) (by omega)
    have e6 : ld.2.2.2.2.2.1 < 80 := by rw [g3]; exact nI_lt (b := 80) (by omega) (by decide)
    unfold m_X6_load
    rw [show m_X6_needIndex (nI s) 5 = .inr () from ix_ok hs (by decide), xb_r, if_neg e8, if_pos e6]
    dsimp only
    rw [hcl, hcx, hap]
  have hD' : LD (n + 1) (ldL ld n (B + 1) (nI s)) (vp_updL l n x) (upd bb n (nI (B + 16 * s))) := by
    intro i hi9
    by_cases e9 : i = n
    · subst e9
      rw [pk_uLs]
      refine ⟨x1, fun k hk => ?_, fun k hk => ⟨?_, (x3 k hk).2.1⟩, s, B, hs, by omega, pk_us, ?_, pk_us, fun k hk => (x3 k hk).2.2⟩
      · rw [x2 k hk]; exact i9.2.1 k hk
      · rw [(x3 k hk).1]; exact (i9.2.2 k hk).1
      · show upd ld.2.2.2.1 i (nI (B + 1) - 1) i = nI B
        rw [pk_us, hpm]
    · rw [pk_uLn e9]
      obtain ⟨d1, d2, d3, s', x', f1, f2, f3, f4, f5, f6⟩ := hD i (by omega)
      exact ⟨d1, d2, d3, s', x', f1, f2, (pk_un e9).trans f3, (pk_un e9).trans f4, (pk_un e9).trans f5, f6⟩
  have hE' : HE (d + 1) (ldH hi n d) (upd e d (nI (0 + 8 * n + 1024 * 0))) := hE.snoc (fun k hk => ⟨pk_un (by omega), pk_un (by omega), pk_un (by omega), pk_un (by omega)⟩) hn (by decide) pk_us (Or.inl ⟨rfl, pk_us⟩)
  obtain ⟨v', h', t', p1, p2⟩ := mk_all (v := v) (h := h) (t := t) R'.1 R'.2.2.1 hQ hD' hV.2.1 hV.1 hV.2.2 hE' hN.2.1 hN.2.2 (by omega) (by omega)
  rw [← R'.2.2.2.2.1] at p2
  refine ⟨v', h', t', p1, _, u', hEq, ?_, R', p2, hQ, hD', hE', hV, hN, ⟨by omega, by omega⟩, lq_0, fun k hk => ?_, fun k hk => ⟨?_, lq_0⟩⟩
  · show (m_X0_take ct st (ldL ld n (B + 1) (nI s)) (nI n)).2 = t' n
    rw [q1, ← p2.2.1 n (by omega)]
    exact (R'.2.1.2.2.1 n (by omega)).symm
  · have e9 : kx 0 k = 0 := lq_0
    rw [e9]
    exact h8.2.2.1 _ (by omega) (by omega)
  · have e9 : fx 0 k = 0 := lq_0
    rw [e9]
    exact h8.2.2.2.1 _ (by omega) (by omega)
theorem tv_app {K o q : Nat} {kk o2 o3 : Int32} {ct' : CatS} {u' : MdlS} (I : IV n b d U st ld hi ct cd u v h e nn qq l bb t uu dr) (hd : d < 64) (hk0 : ¬ kk = 0) (ho : o < 40) (hq : q < 40) (R' : Rel n b (d + 1) st ld (m_X2_append hi kk (nI o) o2 o3) ct' cd u')
    (hc : (K = 1 ∧ kk = 1 ∧ o2 = nI q ∧ o3 = 1 ∧ q < 4) ∨ (K = 2 ∧ kk = 1 ∧ o2 = nI q ∧ o3 = 0 ∧ q < 4) ∨ (K = 3 ∧ kk = 2) ∨ (K = 4 ∧ kk = 3 ∧ o2 = nI q ∧ ¬ o = q)) (nn' : FI) (hN : NV n b (d + 1) nn') :
    ∃ v' h' t', m_L_makes v h (upd e d (nI (K + 8 * o + 1024 * q))) nn' qq l bb t uu = some (v', h', t') ∧ IV n b (d + 1) U st ld (m_X2_append hi kk (nI o) o2 o3) ct' cd u' v' h' (upd e d (nI (K + 8 * o + 1024 * q))) nn' qq l bb t' uu dr := by
  obtain ⟨R, hR, hQ, hD, hE, hV, i7, i8, i9⟩ := I
  have hap := ap_eq (d := d) (hi := hi) (k := kk) (o1 := nI o) (o2 := o2) (o3 := o3) R.2.2.2.2.2.1.1 (by omega) hk0
  have hE' : HE (d + 1) (m_X2_append hi kk (nI o) o2 o3) (upd e d (nI (K + 8 * o + 1024 * q))) := by
    rw [hap]
    refine hE.snoc (fun k hk => ⟨pk_un (by omega), pk_un (by omega), pk_un (by omega), pk_un (by omega)⟩) ho hq pk_us ?_
    dsimp only
    rw [pk_us, pk_us, pk_us]
    rcases hc with ⟨h1, h2, h3, h4, h5⟩ | ⟨h1, h2, h3, h4, h5⟩ | ⟨h1, h2⟩ | ⟨h1, h2, h3, h4⟩
    · exact Or.inr (Or.inl ⟨h1, h2, h3, h4, h5⟩)
    · exact Or.inr (Or.inr (Or.inl ⟨h1, h2, h3, h4, h5⟩))
    · exact Or.inr (Or.inr (Or.inr (Or.inl ⟨h1, h2⟩)))
    · exact Or.inr (Or.inr (Or.inr (Or.inr ⟨h1, h2, h3, h4⟩)))
  obtain ⟨v', h', t', p1, p2⟩ := mk_all (v := v) (h := h) (t := t) R'.1 R'.2.2.1 hQ hD hV.2.1 hV.1 hV.2.2 hE' hN.2.1 hN.2.2 i8.1 (by omega)
  rw [← R'.2.2.2.2.1] at p2
  exact ⟨v', h', t', p1, R', p2, hQ, hD, hE', hV, hN, ⟨i8.1, by omega⟩, i9⟩
theorem tv_th (I : IV n b d U st ld hi ct cd u v h e nn qq l bb t uu dr) {r : Nat} (hr : r < 40) (h1 : ix (v r) = 1) : ct.1 r = 1 := by
  rcases I.2.1.1 r hr with ⟨-, a2, -⟩ | ⟨a1, -⟩
  · exact a2
  · rw [h1] at a1; exact absurd a1 (by decide)
theorem tv_nt (I : IV n b d U st ld hi ct cd u v h e nn qq l bb t uu dr) {r : Nat} (hr : r < 40) (h1 : ¬ ix (v r) = 1) : ¬ ct.1 r = 1 := fun h9 => h1 (I.2.1.in1 hr h9)
theorem tv_al (I : IV n b d U st ld hi ct cd u v h e nn qq l bb t uu dr) : m_X6_needActLeft st ld hi ct cd = .inr () := by
  obtain ⟨R, -, -, -, -, -, -, i8, -⟩ := I
  have h7 := R.2.2.2.2.2.2.1
  exact al_0 R.2.2.2.2.2.1.1 R.2.2.2.2.2.1.2.1 h7.1 (by omega)
theorem tv_hold0 {r : Nat} (I : IV n b d U st ld hi ct cd u v h e nn qq l bb t uu dr) (hr : r < 40) (h1 : ¬ ix (v r) = 1) : m_X6_hold st ld hi ct cd (nI r) = .inl "java/lang/IndexOutOfBoundsException" := by
  unfold m_X6_hold
  rw [rec_no (by omega) (tv_nt I hr h1), xb_l]
theorem tv_hold {r : Nat} (I : IV n b d U st ld hi ct cd u v h e nn qq l bb t uu dr) (hd : d < 64) (hr : r < 40) (h1 : ix (v r) = 1) (nn' : FI) (hN : NV n b (d + 1) nn') :
    ∃ v' h' t', m_L_makes v h (upd e d (nI (3 + 8 * r + 1024 * 0))) nn' qq l bb t uu = some (v', h', t') ∧ ∃ z u', m_X6_hold st ld hi ct cd (nI r) = .inr z ∧ z.2 = h' r ∧ IV n b (d + 1) U st ld z.1.1 z.1.2 cd u' v' h' (upd e d (nI (3 + 8 * r + 1024 * 0))) nn' qq l bb t' uu dr := by
  have ht := tv_th I hr h1
  have hE : m_X6_hold st ld hi ct cd (nI r) = .inr ((m_X2_append hi 2 (nI r) (-1) (-1), (ct.1, ct.2.1, ct.2.2.1, ct.2.2.2.1, ct.2.2.2.2.1, (upd ct.2.2.2.2.2.1 r (ct.2.2.2.2.2.1 r + 1)), ct.2.2.2.2.2.2)), ct.2.2.2.2.2.1 r + 1) := by
    unfold m_X6_hold
    rw [rec_ok (by omega) ht, xb_r, tv_al I, xb_r, pu_hold1 (by omega) ht]
  obtain ⟨u', r', -, ⟨-, hi', ct', q2, R'⟩ | ⟨-, ⟨-, q2⟩ | ⟨-, q2⟩⟩⟩ := op_hold I.1 (nI r)
  · rw [hE] at q2
    cases q2
    obtain ⟨v', h', t', p1, p2⟩ := tv_app (K := 3) (o := r) (q := 0) I hd (by decide) hr (by decide) R' (Or.inr (Or.inr (Or.inl ⟨rfl, rfl⟩))) nn' hN
    refine ⟨v', h', t', p1, _, u', hE, ?_, p2⟩
    rcases p2.2.1.1 r hr with ⟨-, -, -, -, a5⟩ | ⟨-, a2⟩
    · have a6 : upd ct.2.2.2.2.2.1 r (ct.2.2.2.2.2.1 r + 1) r = h' r := a5
      rw [pk_us] at a6
      exact a6
    · have a3 : ct.1 r = 0 := a2
      rw [ht] at a3; exact absurd a3 (by decide)
  · rw [hE] at q2; cases q2
  · rw [hE] at q2; cases q2
theorem tv_prot0 {r f : Nat} {w : Int32} (I : IV n b d U st ld hi ct cd u v h e nn qq l bb t uu dr) (hr : r < 40) (h1 : ¬ ix (v r) = 1) : m_X6_protect st ld hi ct cd (nI r) (nI f) w = .inl "java/lang/IndexOutOfBoundsException" := by
  unfold m_X6_protect
  rw [rec_no (by omega) (tv_nt I hr h1), xb_l]
/-- w is 1 and K is 1, or w is 0 and K is 2 -/
theorem tv_prot {r f K : Nat} {w : Int32} (I : IV n b d U st ld hi ct cd u v h e nn qq l bb t uu dr) (hd : d < 64) (hr : r < 40) (hf : f < 4) (h1 : ix (v r) = 1) (hw : (w = 1 ∧ K = 1) ∨ (w = 0 ∧ K = 2)) (nn' : FI) (hN : NV n b (d + 1) nn') :
    ∃ v' h' t', m_L_makes v h (upd e d (nI (K + 8 * r + 1024 * f))) nn' qq l bb t uu = some (v', h', t') ∧ ∃ z u', m_X6_protect st ld hi ct cd (nI r) (nI f) w = .inr z ∧ z.2 = nI (gx (v r) f) ∧ IV n b (d + 1) U st ld z.1.1 z.1.2 cd u' v' h' (upd e d (nI (K + 8 * r + 1024 * f))) nn' qq l bb t' uu dr := by
  have ht := tv_th I hr h1
  have hg : ct.2.2.2.2.1 (r * 4 + f) = nI (gx (v r) f) := by
    rcases I.2.1.1 r hr with ⟨-, -, -, a4, -⟩ | ⟨a1, -⟩
    · exact (a4 f hf).2.2.1
    · rw [h1] at a1; exact absurd a1 (by decide)
  have hgl := gx_lt (x := v r) (k := f)
  have hz : (if ct.2.2.2.2.1 (r * 4 + f) = 1 then (1 : Int32) else 0) = nI (gx (v r) f) := by
    rw [hg]
    rcases (show gx (v r) f = 0 ∨ gx (v r) f = 1 by omega) with h9 | h9 <;> rw [h9] <;> rfl
  have hE : m_X6_protect st ld hi ct cd (nI r) (nI f) w = .inr ((m_X2_append hi 1 (nI r) (nI f) w, (ct.1, ct.2.1, ct.2.2.1, ct.2.2.2.1, (upd ct.2.2.2.2.1 (r * 4 + f) w), ct.2.2.2.2.2.1, ct.2.2.2.2.2.2)), nI (gx (v r) f)) := by
    unfold m_X6_protect
    rw [rec_ok (by omega) ht, xb_r, show m_X6_needIndex (nI f) 4 = .inr () from ix_ok hf (by decide), xb_r, tv_al I, xb_r, pu_guard1 (by omega) hf ht, pu_guard1 (by omega) hf ht, ← hz]
    rcases hw with ⟨rfl, -⟩ | ⟨rfl, -⟩
    · rw [if_neg (show ¬ (1 : Int32) = 0 by decide)]
      dsimp only
      by_cases h9 : ct.2.2.2.2.1 (r * 4 + f) = 1
      · rw [if_pos h9, if_pos h9]
      · rw [if_neg h9, if_neg h9]
    · rw [if_pos (show (0 : Int32) = 0 from rfl)]
      dsimp only
      by_cases h9 : ct.2.2.2.2.1 (r * 4 + f) = 1
      · rw [if_pos h9, if_pos h9]
      · rw [if_neg h9, if_neg h9]
  obtain ⟨u', r', -, ⟨-, hi', ct', q2, R'⟩ | ⟨-, ⟨-, q2⟩ | ⟨-, q2⟩⟩⟩ := op_protect I.1 (nI r) (nI f) w
  · rw [hE] at q2
    cases q2
    obtain ⟨v', h', t', p1, p2⟩ := tv_app (K := K) (o := r) (q := f) I hd (by decide) hr (by omega) R' (hw.elim (fun h9 => Or.inl ⟨h9.2, rfl, rfl, h9.1, hf⟩) (fun h9 => Or.inr (Or.inl ⟨h9.2, rfl, rfl, h9.1, hf⟩))) nn' hN
    exact ⟨v', h', t', p1, _, u', hE, rfl, p2⟩
  · rw [hE] at q2; cases q2
  · rw [hE] at q2; cases q2
theorem tv_merge0 {r : Nat} {o : Int32} (I : IV n b d U st ld hi ct cd u v h e nn qq l bb t uu dr) (hr : r < 40) (h1 : ¬ ix (v r) = 1) : m_X6_merge st ld hi ct cd (nI r) o = .inl "java/lang/IndexOutOfBoundsException" := by
  unfold m_X6_merge
  rw [rec_no (by omega) (tv_nt I hr h1), xb_l]
theorem tv_merge1 {r o : Nat} (I : IV n b d U st ld hi ct cd u v h e nn qq l bb t uu dr) (hr : r < 40) (h1 : ix (v r) = 1) (ho : o < 40) (h2 : ¬ ix (v o) = 1) : m_X6_merge st ld hi ct cd (nI r) (nI o) = .inl "java/lang/IndexOutOfBoundsException" := by
  unfold m_X6_merge
  rw [rec_ok (by omega) (tv_th I hr h1), xb_r, rec_no (by omega) (tv_nt I ho h2), xb_l]
theorem tv_merge2 {r : Nat} (I : IV n b d U st ld hi ct cd u v h e nn qq l bb t uu dr) (hr : r < 40) (h1 : ix (v r) = 1) : m_X6_merge st ld hi ct cd (nI r) (nI r) = .inl "java/lang/IllegalArgumentException" := by
  unfold m_X6_merge
  rw [rec_ok (by omega) (tv_th I hr h1), xb_r, xb_r, if_pos rfl]
theorem tv_merge {r o : Nat} (I : IV n b d U st ld hi ct cd u v h e nn qq l bb t uu dr) (hd : d < 64) (hr : r < 40) (ho : o < 40) (h1 : ix (v r) = 1) (h2 : ix (v o) = 1) (hne : ¬ r = o) (nn' : FI) (hN : NV n b (d + 1) nn') :
    ∃ v' h' t', m_L_makes v h (upd e d (nI (4 + 8 * r + 1024 * o))) nn' qq l bb t uu = some (v', h', t') ∧ ∃ z u', m_X6_merge st ld hi ct cd (nI r) (nI o) = .inr z ∧ z.2 = h' o ∧ IV n b (d + 1) U st ld z.1.1 z.1.2 cd u' v' h' (upd e d (nI (4 + 8 * r + 1024 * o))) nn' qq l bb t' uu dr := by
  have ht := tv_th I hr h1
  have hto := tv_th I ho h2
  have hj := pu_join1 (ct := ct) (r := r) (o := o) (by omega) (by omega) hne ht hto
  have hE : m_X6_merge st ld hi ct cd (nI r) (nI o) = .inr ((m_X2_append hi 3 (nI r) (nI o) (-1), (m_X0_join ct (nI r) (nI o)).1), (m_X0_join ct (nI r) (nI o)).2) := by
    unfold m_X6_merge
    rw [rec_ok (by omega) ht, xb_r, rec_ok (by omega) hto, xb_r, if_neg (fun h9 => hne ((nI_eq (by omega) (by omega)).mp h9)), tv_al I, xb_r]
  obtain ⟨u', r', -, ⟨-, hi', ct', q2, R'⟩ | ⟨-, ⟨-, q2⟩ | ⟨-, q2⟩ | ⟨-, q2⟩⟩⟩ := op_merge I.1 (nI r) (nI o)
  · rw [hE] at q2
    have q3 := Sum.inr.inj q2
    have e1 : m_X2_append hi 3 (nI r) (nI o) (-1) = hi' := congrArg (fun z => z.1.1) q3
    have e2 : (m_X0_join ct (nI r) (nI o)).1 = ct' := congrArg (fun z => z.1.2) q3
    rw [← e1, ← e2] at R'
    obtain ⟨v', h', t', p1, p2⟩ := tv_app (K := 4) (o := r) (q := o) I hd (by decide) hr ho R' (Or.inr (Or.inr (Or.inr ⟨rfl, rfl, rfl, hne⟩))) nn' hN
    refine ⟨v', h', t', p1, _, u', hE, ?_, p2⟩
    have a0 := p2.2.1.1 o ho
    show (m_X0_join ct (nI r) (nI o)).2 = h' o
    rw [hj] at a0 ⊢
    rcases a0 with ⟨-, -, -, -, a5⟩ | ⟨-, a2⟩
    · have a6 : upd ct.2.2.2.2.2.1 o (ct.2.2.2.2.2.1 o + ct.2.2.2.2.2.1 r) o = h' o := a5
      rw [pk_us] at a6
      exact a6
    · have a3 : upd ct.1 r 0 o = 0 := a2
      rw [pk_un (fun e9 => hne e9.symm), hto] at a3; exact absurd a3 (by decide)
  · rw [hE] at q2; cases q2
  · rw [hE] at q2; cases q2
  · rw [hE] at q2; cases q2
theorem uxor : ∀ U, U < 1024 → ∀ x, x < 10 → nI U ^^^ ((1 : Int32) <<< (nI x &&& 31)) = nI (U ^^^ 2 ^ x) := by decide +kernel
theorem uxor_lt {U x : Nat} (hU : U < 1024) (hx : x < 10) : U ^^^ 2 ^ x < 1024 := Nat.xor_lt_two_pow (n := 10) hU (show 2 ^ x < 2 ^ 10 from Nat.pow_lt_pow_right (by decide) hx)
theorem tv_undo0 {w : Int32} (I : IV n b d U st ld hi ct cd u v h e nn qq l bb t uu dr) (hb : b = 0) : m_X6_undo st ld hi ct cd 0 w = .inl "java/lang/IndexOutOfBoundsException" := by
  have hB := I.1.2.2.2.2.2.1.2.2.2.1
  unfold m_X6_undo
  have e9 : m_X6_needIndex 0 ld.2.2.2.2.2.2 = .inl "java/lang/IndexOutOfBoundsException" := by
    rw [hB, hb]
    unfold m_X6_needIndex
    rw [if_neg (by decide), if_neg (by decide)]
  rw [e9, xb_l]
theorem tv_undo1 {x : Nat} {w : Int32} (I : IV n b d U st ld hi ct cd u v h e nn qq l bb t uu dr) (hx : x < b) (hw : (w = 1 ∧ U.testBit x = true) ∨ (w = 0 ∧ ¬ U.testBit x = true)) : m_X6_undo st ld hi ct cd (nI x) w = .inl "java/lang/IllegalStateException" := by
  have hB := I.1.2.2.2.2.2.1.2.2.2.1
  have hb := I.1.1.2.1
  have hlu := I.2.2.2.2.2.1.2.2 x (by omega)
  unfold m_X6_undo
  rw [hB, ix_ok hx (by omega), xb_r, pu_get (show x < 10 by omega) (by decide), hlu]
  rcases hw with ⟨rfl, h9⟩ | ⟨rfl, h9⟩
  · rw [if_neg (show ¬ (1 : Int32) = 0 by decide), if_pos h9, if_pos rfl]
  · rw [if_pos (show (0 : Int32) = 0 from rfl), if_neg h9, if_pos rfl]
theorem tv_undo {x : Nat} {w : Int32} (I : IV n b d U st ld hi ct cd u v h e nn qq l bb t uu dr) (hx : x < b) (hw : (w = 1 ∧ ¬ U.testBit x = true) ∨ (w = 0 ∧ U.testBit x = true)) (uu' : FI) (hu' : uu' 0 = nI (U ^^^ 2 ^ x)) :
    ∃ v' h' t', m_L_makes v h e nn qq l bb t uu' = some (v', h', t') ∧ ∃ z u', m_X6_undo st ld hi ct cd (nI x) w = .inr z ∧ m_L_many v' = some z.2 ∧ IV n b d (U ^^^ 2 ^ x) st z.1.1 hi z.1.2 cd u' v' h' e nn qq l bb t' uu' dr := by
  have I0 := I
  obtain ⟨R, hR, hQ, hD, hE, hV, i7, i8, i9⟩ := I0
  have hB := R.2.2.2.2.2.1.2.2.2.1
  have hb := R.1.2.1
  have hlu := hV.2.2 x (by omega)
  have hzc := R.JZct
  have hN := R.2.2.2.2.2.1.1
  have hO := R.2.2.1
  have hEq : m_X6_undo st ld hi ct cd (nI x) w = .inr (((ld.1, ld.2.1, ld.2.2.1, ld.2.2.2.1, (upd ld.2.2.2.2.1 x w), ld.2.2.2.2.2.1, ld.2.2.2.2.2.2), RP st (ld.1, ld.2.1, ld.2.2.1, ld.2.2.2.1, (upd ld.2.2.2.2.1 x w), ld.2.2.2.2.2.1, ld.2.2.2.2.2.2) hi d), m_X0_count (RP st (ld.1, ld.2.1, ld.2.2.1, ld.2.2.2.1, (upd ld.2.2.2.2.1 x w), ld.2.2.2.2.2.1, ld.2.2.2.2.2.2) hi d)) := by
    have hda := daa_eq (st := st) (ld := (ld.1, ld.2.1, ld.2.2.1, ld.2.2.2.1, (upd ld.2.2.2.2.1 x w), ld.2.2.2.2.2.1, ld.2.2.2.2.2.2)) hzc hN hO.1
    unfold m_X6_undo
    have q0 : m_X6_needIndex (nI x) ld.2.2.2.2.2.2 = .inr () := by rw [hB]; exact ix_ok hx (by omega)
    rw [q0, xb_r, pu_get (show x < 10 by omega) (by decide), pu_set (show x < 10 by omega) (by decide), pu_set (show x < 10 by omega) (by decide), hlu, ← hda]
    rcases hw with ⟨rfl, h9⟩ | ⟨rfl, h9⟩
    · rw [if_neg (show ¬ (1 : Int32) = 0 by decide), if_neg h9, if_neg (show ¬ (0 : Int32) = 1 by decide)]
    · rw [if_pos (show (0 : Int32) = 0 from rfl), if_pos h9, if_neg (show ¬ (1 : Int32) = 0 by decide)]
  have hw01 : w = 0 ∨ w = 1 := hw.elim (fun h9 => Or.inr h9.1) (fun h9 => Or.inl h9.1)
  obtain ⟨u', r', -, ⟨-, ld', ct', q2, R'⟩ | ⟨-, ⟨-, q2⟩ | ⟨-, q2⟩⟩⟩ := op_undo R (nI x) w hw01
  · rw [hEq] at q2
    have q3 := Sum.inr.inj q2
    have e1 : ((ld.1, ld.2.1, ld.2.2.1, ld.2.2.2.1, (upd ld.2.2.2.2.1 x w), ld.2.2.2.2.2.1, ld.2.2.2.2.2.2) : LodS) = ld' := congrArg (fun z => z.1.1) q3
    have e2 : RP st (ld.1, ld.2.1, ld.2.2.1, ld.2.2.2.1, (upd ld.2.2.2.2.1 x w), ld.2.2.2.2.2.1, ld.2.2.2.2.2.2) hi d = ct' := congrArg (fun z => z.1.2) q3
    rw [← e1, ← e2] at R'
    have hV' : LV (ld.1, ld.2.1, ld.2.2.1, ld.2.2.2.1, (upd ld.2.2.2.2.1 x w), ld.2.2.2.2.2.1, ld.2.2.2.2.2.2) uu' (U ^^^ 2 ^ x) := by
      refine ⟨hu', uxor_lt hV.2.1 (by omega), fun y hy => ?_⟩
      show upd ld.2.2.2.2.1 x w y = if (U ^^^ 2 ^ x).testBit y then 1 else 0
      rw [Nat.testBit_xor, Nat.testBit_two_pow]
      by_cases e9 : y = x
      · subst e9
        rw [pk_us, decide_eq_true rfl]
        rcases hw with ⟨rfl, h9⟩ | ⟨rfl, h9⟩
        · have h8 : U.testBit y = false := by simpa using h9
          rw [h8]; rfl
        · rw [h9]; rfl
      · rw [pk_un e9, decide_eq_false (fun h8 => e9 h8.symm), Bool.xor_false]
        exact hV.2.2 y hy
    have hD' : LD n (ld.1, ld.2.1, ld.2.2.1, ld.2.2.2.1, (upd ld.2.2.2.2.1 x w), ld.2.2.2.2.2.1, ld.2.2.2.2.2.2) l bb := hD
    obtain ⟨v', h', t', p1, p2⟩ := mk_all (v := v) (h := h) (t := t) R'.1 R'.2.2.1 hQ hD' hV'.2.1 hV'.1 hV'.2.2 hE i7.2.1 i7.2.2 i8.1 i8.2
    refine ⟨v', h', t', p1, _, u', hEq, many_eq p2 i8.1, R', p2, hQ, hD', hE, hV', i7, i8, i9⟩
  · rw [hEq] at q2; cases q2
  · rw [hEq] at q2; cases q2
end TL
