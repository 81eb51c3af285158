/-! PURE: the turns: settings, drafts, batches -/
section TU
variable {n b d U : Nat} {st : SetS} {ld : LodS} {hi : HisS} {ct cd : CatS} {u : MdlS} {v l : FL} {h e nn qq bb t uu : FI} {dr : Int64}
theorem val_ok {a L B : Int32} (h1 : ¬ a < L) (h2 : a < B) : m_X6_needValue a L B = .inr () := by
  unfold m_X6_needValue
  rw [if_neg h1, if_pos h2]
theorem tv_rank {a w : Nat} (I : IV n b d U st ld hi ct cd u v h e nn qq l bb t uu dr) (hn : n = 0) (ha : a < 5) (hw : w < 10) :
    ∃ z u', m_X6_setRank st ld hi ct cd (nI a) (nI w) = .inr z ∧ z.2 = qq a ∧ IV n b d U z.1 ld hi ct cd u' v h e nn (upd qq a (nI w)) l bb t uu dr := by
  obtain ⟨R, hR, hQ, i4, i5, i6, i7, i8, i9⟩ := I
  have hC := R.2.2.2.2.2.1.2.2.1
  have hE : m_X6_setRank st ld hi ct cd (nI a) (nI w) = .inr (((upd st.1 a (nI w)), st.2.1, st.2.2), st.1 a) := by
    unfold m_X6_setRank
    rw [show m_X6_needIndex (nI a) 5 = .inr () from ix_ok ha (by decide), xb_r, val_ok (a := nI w) (L := 0) (B := 10) (nI_pos (by omega)) (nI_lt (a := w) (b := 10) hw (by decide)), xb_r, nl_0 hC hn, xb_r, pu_set ha (by decide), pu_get ha (by decide)]
  obtain ⟨u', r, -, ⟨-, st', q2, R'⟩ | ⟨-, ⟨-, q2⟩ | ⟨-, q2⟩ | ⟨-, q2⟩⟩⟩ := op_setRank R (nI a) (nI w)
  · rw [hE] at q2
    cases q2
    refine ⟨_, u', hE, (hQ.1 a ha).symm, R', hR, ⟨fun i hi => ?_, fun i hi => ?_, fun i hi => ?_⟩, i4, i5, i6, i7, i8, i9⟩
    · show upd qq a (nI w) i = upd st.1 a (nI w) i
      by_cases e9 : i = a
      · rw [e9, pk_us, pk_us]
      · rw [pk_un e9, pk_un e9]; exact hQ.1 i hi
    · rw [pk_un (by omega)]; exact hQ.2.1 i hi
    · rw [pk_un (by omega)]; exact hQ.2.2 i hi
  · rw [hE] at q2; cases q2
  · rw [hE] at q2; cases q2
  · rw [hE] at q2; cases q2
theorem tv_rank1 {a w : Nat} (I : IV n b d U st ld hi ct cd u v h e nn qq l bb t uu dr) (hn : ¬ n = 0) (ha : a < 5) (hw : w < 10) :
    m_X6_setRank st ld hi ct cd (nI a) (nI w) = .inl "java/lang/IllegalStateException" := by
  have hC := I.1.2.2.2.2.2.1.2.2.1
  unfold m_X6_setRank
  rw [show m_X6_needIndex (nI a) 5 = .inr () from ix_ok ha (by decide), xb_r, val_ok (a := nI w) (L := 0) (B := 10) (nI_pos (by omega)) (nI_lt (a := w) (b := 10) hw (by decide)), xb_r, nl_1 hC hn (by have := I.2.2.2.2.2.2.2.1; omega), xb_l]
theorem tv_rule {a w : Nat} (I : IV n b d U st ld hi ct cd u v h e nn qq l bb t uu dr) (hn : n = 0) (ha : a < 4) (hw : w < 3) :
    ∃ z u', m_X6_setRule st ld hi ct cd (nI a) (nI w) = .inr z ∧ z.2 = qq (5 + a) ∧ IV n b d U z.1 ld hi ct cd u' v h e nn (upd qq (5 + a) (nI w)) l bb t uu dr := by
  obtain ⟨R, hR, hQ, i4, i5, i6, i7, i8, i9⟩ := I
  have hC := R.2.2.2.2.2.1.2.2.1
  have hE : m_X6_setRule st ld hi ct cd (nI a) (nI w) = .inr ((st.1, (upd st.2.1 a (nI w)), st.2.2), st.2.1 a) := by
    unfold m_X6_setRule
    rw [show m_X6_needIndex (nI a) 4 = .inr () from ix_ok ha (by decide), xb_r, val_ok (a := nI w) (L := 0) (B := 3) (nI_pos (by omega)) (nI_lt (a := w) (b := 3) hw (by decide)), xb_r, nl_0 hC hn, xb_r, pu_set ha (by decide), pu_get ha (by decide)]
  obtain ⟨u', r, -, ⟨-, st', q2, R'⟩ | ⟨-, ⟨-, q2⟩ | ⟨-, q2⟩ | ⟨-, q2⟩⟩⟩ := op_setRule R (nI a) (nI w)
  · rw [hE] at q2
    cases q2
    refine ⟨_, u', hE, (hQ.2.1 a ha).symm, R', hR, ⟨fun i hi => ?_, fun i hi => ?_, fun i hi => ?_⟩, i4, i5, i6, i7, i8, i9⟩
    · rw [pk_un (by omega)]; exact hQ.1 i hi
    · show upd qq (5 + a) (nI w) (5 + i) = upd st.2.1 a (nI w) i
      by_cases e9 : i = a
      · rw [e9, pk_us, pk_us]
      · rw [pk_un e9, pk_un (by omega)]; exact hQ.2.1 i hi
    · rw [pk_un (by omega)]; exact hQ.2.2 i hi
  · rw [hE] at q2; cases q2
  · rw [hE] at q2; cases q2
  · rw [hE] at q2; cases q2
theorem tv_order {f s w : Nat} (I : IV n b d U st ld hi ct cd u v h e nn qq l bb t uu dr) (hn : n = 0) (hf : f < 3) (hs : s < 3) (hw : w < 3) (e1 : ¬ f = s) (e2 : ¬ s = w) (e3 : ¬ f = w) :
    ∃ z u', m_X6_setOrder st ld hi ct cd (nI f) (nI s) (nI w) = .inr z ∧ IV n b d U z ld hi ct cd u' v h e nn (upd (upd (upd qq 9 (nI f)) 10 (nI s)) 11 (nI w)) l bb t uu dr := by
  obtain ⟨R, hR, hQ, i4, i5, i6, i7, i8, i9⟩ := I
  have hC := R.2.2.2.2.2.1.2.2.1
  have s0 : ∀ (g : FI) (x : Int32), m_X4_set 3 g 0 x = upd g 0 x := fun g x => pu_set (i := 0) (by decide) (by decide)
  have s1 : ∀ (g : FI) (x : Int32), m_X4_set 3 g 1 x = upd g 1 x := fun g x => pu_set (i := 1) (by decide) (by decide)
  have s2 : ∀ (g : FI) (x : Int32), m_X4_set 3 g 2 x = upd g 2 x := fun g x => pu_set (i := 2) (by decide) (by decide)
  have hE : m_X6_setOrder st ld hi ct cd (nI f) (nI s) (nI w) = .inr (st.1, st.2.1, (upd (upd (upd st.2.2 0 (nI f)) 1 (nI s)) 2 (nI w))) := by
    unfold m_X6_setOrder
    rw [val_ok (a := nI f) (L := 0) (B := 3) (nI_pos (by omega)) (nI_lt (a := f) (b := 3) hf (by decide)), xb_r, val_ok (a := nI s) (L := 0) (B := 3) (nI_pos (by omega)) (nI_lt (a := s) (b := 3) hs (by decide)), xb_r, val_ok (a := nI w) (L := 0) (B := 3) (nI_pos (by omega)) (nI_lt (a := w) (b := 3) hw (by decide)), xb_r, if_neg (fun h9 => e1 ((nI_eq (by omega) (by omega)).mp h9)), if_neg (fun h9 => e2 ((nI_eq (by omega) (by omega)).mp h9)), if_neg (fun h9 => e3 ((nI_eq (by omega) (by omega)).mp h9)), nl_0 hC hn, xb_r, s0, s1, s2]
  obtain ⟨u', -, ⟨-, st', q2, R'⟩ | ⟨-, ⟨-, q2⟩ | ⟨-, q2⟩⟩⟩ := op_setOrder R (nI f) (nI s) (nI w)
  · rw [hE] at q2
    cases q2
    refine ⟨_, u', hE, R', hR, ⟨fun i hi => ?_, fun i hi => ?_, fun i hi => ?_⟩, i4, i5, i6, i7, i8, i9⟩
    · rw [pk_un (by omega), pk_un (by omega), pk_un (by omega)]; exact hQ.1 i hi
    · rw [pk_un (by omega), pk_un (by omega), pk_un (by omega)]; exact hQ.2.1 i hi
    · show upd (upd (upd qq 9 (nI f)) 10 (nI s)) 11 (nI w) (9 + i) = upd (upd (upd st.2.2 0 (nI f)) 1 (nI s)) 2 (nI w) i
      rcases (show i = 0 ∨ i = 1 ∨ i = 2 by omega) with rfl | rfl | rfl
      · rw [pk_un (show 9 + 0 ≠ 11 by decide), pk_un (show 9 + 0 ≠ 10 by decide), pk_un (show 0 ≠ 2 by decide), pk_un (show 0 ≠ 1 by decide), pk_us]
        exact pk_us.symm
      · rw [pk_un (show 9 + 1 ≠ 11 by decide), pk_un (show 1 ≠ 2 by decide), pk_us]
        exact pk_us.symm
      · rw [pk_us]
        exact pk_us.symm
  · rw [hE] at q2; cases q2
  · rw [hE] at q2; cases q2
theorem tv_batch (I : IV n b d U st ld hi ct cd u v h e nn qq l bb t uu dr) (hb : ¬ b = 10) :
    ∃ z u', m_X6_beginBatch st ld hi ct cd = .inr z ∧ z.2 = nI b ∧ ∀ nn' : FI, NV n (b + 1) d nn' → IV n (b + 1) d U st z.1 hi ct cd u' v h e nn' qq l bb t uu dr := by
  obtain ⟨R, hR, hQ, hD, i5, hV, i7, i8, i9⟩ := I
  have hB := R.2.2.2.2.2.1.2.2.2.1
  have hb10 := R.1.2.1
  have hE : m_X6_beginBatch st ld hi ct cd = .inr ((ld.1, ld.2.1, ld.2.2.1, ld.2.2.2.1, ld.2.2.2.2.1, ld.2.2.2.2.2.1, (ld.2.2.2.2.2.2 + 1)), nI b) := by
    unfold m_X6_beginBatch
    have hlt : nI b < 10 := nI_lt (b := 10) (by omega) (by decide)
    rw [hB, if_pos hlt]
    unfold m_X3_begin
    dsimp only
    rw [hB]
  obtain ⟨u', r, -, ⟨-, ld', q2, R'⟩ | ⟨-, -, q2⟩⟩ := op_beginBatch R
  · rw [hE] at q2
    cases q2
    exact ⟨_, u', hE, rfl, fun nn' hN => ⟨R', hR, hQ, hD, i5, hV, hN, i8, i9⟩⟩
  · rw [hE] at q2; cases q2
theorem tv_batch1 (I : IV n b d U st ld hi ct cd u v h e nn qq l bb t uu dr) (hb : b = 10) : m_X6_beginBatch st ld hi ct cd = .inl "java/lang/IllegalStateException" := by
  have hB := I.1.2.2.2.2.2.1.2.2.2.1
  unfold m_X6_beginBatch
  rw [hB, hb, if_neg (show ¬ nI 10 < 10 by decide)]
theorem tv_key {k a : Nat} (I : IV n b d U st ld hi ct cd u v h e nn qq l bb t uu dr) (hk : k < 3) (ha : a < 50) :
    ∃ z u', m_X6_key st ld hi ct cd (nI k) (nI a - 1) = .inr z ∧ z.2 = nI (kx dr k) - 1 ∧ IV n b d U st z.1 hi ct cd u' v h e nn qq l bb t uu (m_L_withKey dr (nI k) (nI a)) := by
  obtain ⟨R, hR, hQ, hD, i5, hV, i7, i8, i9⟩ := I
  have hC := R.2.2.2.2.2.1.2.2.1
  have hn := i8.1
  have hv1 : ¬ nI a - 1 < -1 := by
    rcases Nat.eq_zero_or_pos a with rfl | h1
    · decide
    · obtain ⟨c, rfl⟩ : ∃ c, a = c + 1 := ⟨a - 1, by omega⟩
      rw [nI_pred]
      exact fun h9 => absurd (Int32.lt_trans h9 (show (-1 : Int32) < 0 by decide)) (nI_pos (by omega))
  have hv2 : nI a - 1 < 50 := by
    rcases Nat.eq_zero_or_pos a with rfl | h1
    · decide
    · obtain ⟨c, rfl⟩ : ∃ c, a = c + 1 := ⟨a - 1, by omega⟩
      rw [nI_pred]
      exact nI_lt (b := 50) (by omega) (by decide)
  have hE : m_X6_key st ld hi ct cd (nI k) (nI a - 1) = .inr (((upd ld.1 (n * 3 + k) (nI a - 1)), ld.2.1, ld.2.2.1, ld.2.2.2.1, ld.2.2.2.2.1, ld.2.2.2.2.2.1, ld.2.2.2.2.2.2), nI (kx dr k) - 1) := by
    unfold m_X6_key
    rw [show m_X6_needIndex (nI k) 3 = .inr () from ix_ok hk (by decide), xb_r, val_ok hv1 hv2, xb_r]
    dsimp only
    rw [hC, g813 (by omega) hk, s813 (by omega) hk, i9.2.1 k hk]
  obtain ⟨u', r, -, ⟨-, ld', q2, R'⟩ | ⟨-, ⟨-, q2⟩ | ⟨-, q2⟩⟩⟩ := op_key R (nI k) (nI a - 1)
  · rw [hE] at q2
    cases q2
    refine ⟨_, u', hE, rfl, R', hR, hQ, fun i hi => ?_, i5, hV, i7, i8, (wk_i hk (by omega)).trans i9.1, fun j hj => ?_, fun j hj => ?_⟩
    · obtain ⟨d1, d2, d3⟩ := hD i hi
      refine ⟨d1, fun j hj => ?_, d3⟩
      show upd ld.1 (n * 3 + k) (nI a - 1) (i * 3 + j) = _
      rw [pk_un (by omega)]; exact d2 j hj
    · show upd ld.1 (n * 3 + k) (nI a - 1) (n * 3 + j) = _
      rw [wk_k hk (by omega) hj]
      by_cases e9 : j = k
      · rw [e9, pk_us, if_pos rfl]
      · rw [pk_un (by omega), if_neg e9]; exact i9.2.1 j hj
    · rw [wk_f hk (by omega) hj, wk_g hk (by omega) hj]; exact i9.2.2 j hj
  · rw [hE] at q2; cases q2
  · rw [hE] at q2; cases q2
theorem tv_field {k a : Nat} (I : IV n b d U st ld hi ct cd u v h e nn qq l bb t uu dr) (hk : k < 4) (ha : a < 101) :
    ∃ z u', m_X6_field st ld hi ct cd (nI k) (nI a - 1) = .inr z ∧ z.2 = nI (fx dr k) - 1 ∧ IV n b d U st z.1 hi ct cd u' v h e nn qq l bb t uu (m_L_withField dr (nI k) (nI a) 0) := by
  obtain ⟨R, hR, hQ, hD, i5, hV, i7, i8, i9⟩ := I
  have hC := R.2.2.2.2.2.1.2.2.1
  have hn := i8.1
  have hv1 : ¬ nI a - 1 < -1 := by
    rcases Nat.eq_zero_or_pos a with rfl | h1
    · decide
    · obtain ⟨c, rfl⟩ : ∃ c, a = c + 1 := ⟨a - 1, by omega⟩
      rw [nI_pred]
      exact fun h9 => absurd (Int32.lt_trans h9 (show (-1 : Int32) < 0 by decide)) (nI_pos (by omega))
  have hv2 : nI a - 1 < 100 := by
    rcases Nat.eq_zero_or_pos a with rfl | h1
    · decide
    · obtain ⟨c, rfl⟩ : ∃ c, a = c + 1 := ⟨a - 1, by omega⟩
      rw [nI_pred]
      exact nI_lt (b := 100) (by omega) (by decide)
  have hE : m_X6_field st ld hi ct cd (nI k) (nI a - 1) = .inr ((ld.1, (upd ld.2.1 (n * 4 + k) (nI a - 1)), ld.2.2.1, ld.2.2.2.1, ld.2.2.2.2.1, ld.2.2.2.2.2.1, ld.2.2.2.2.2.2), nI (fx dr k) - 1) := by
    unfold m_X6_field
    rw [show m_X6_needIndex (nI k) 4 = .inr () from ix_ok hk (by decide), xb_r, val_ok hv1 hv2, xb_r]
    dsimp only
    rw [hC, g814 (by omega) hk, s814 (by omega) hk, (i9.2.2 k hk).1]
  obtain ⟨u', r, -, ⟨-, ld', q2, R'⟩ | ⟨-, ⟨-, q2⟩ | ⟨-, q2⟩⟩⟩ := op_field R (nI k) (nI a - 1)
  · rw [hE] at q2
    cases q2
    have w1 : ∀ j, j < 3 → kx (m_L_withField dr (nI k) (nI a) 0) j = kx dr j := fun j hj => wf_k (s := 0) hk (by omega) (by decide) hj
    have w2 : ∀ j, j < 4 → fx (m_L_withField dr (nI k) (nI a) 0) j = if j = k then a else fx dr j := fun j hj => wf_f (s := 0) hk (by omega) (by decide) hj
    have w3 : ∀ j, j < 4 → gx (m_L_withField dr (nI k) (nI a) 0) j = gx dr j := fun j hj => wf_g (s := 0) hk (by omega) (by decide) hj
    have w4 : ix (m_L_withField dr (nI k) (nI a) 0) = ix dr := wf_i (s := 0) hk (by omega) (by decide)
    refine ⟨_, u', hE, rfl, R', hR, hQ, fun i hi => ?_, i5, hV, i7, i8, w4.trans i9.1, fun j hj => ?_, fun j hj => ⟨?_, ?_⟩⟩
    · obtain ⟨d1, d2, d3, d4⟩ := hD i hi
      refine ⟨d1, d2, fun j hj => ⟨?_, (d3 j hj).2⟩, d4⟩
      show upd ld.2.1 (n * 4 + k) (nI a - 1) (i * 4 + j) = _
      rw [pk_un (by omega)]; exact (d3 j hj).1
    · exact (i9.2.1 j hj).trans (by rw [w1 j hj])
    · show upd ld.2.1 (n * 4 + k) (nI a - 1) (n * 4 + j) = _
      rw [w2 j hj]
      by_cases e9 : j = k
      · rw [e9, pk_us, if_pos rfl]
      · rw [pk_un (by omega), if_neg e9]; exact (i9.2.2 j hj).1
    · exact (w3 j hj).trans (i9.2.2 j hj).2
  · rw [hE] at q2; cases q2
  · rw [hE] at q2; cases q2
end TU
