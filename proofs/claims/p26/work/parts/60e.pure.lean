/-! PURE: the relation, tests of arguments, the reads -/
def Rel (n b d : Nat) (st : SetS) (ld : LodS) (hi : HisS) (ct cd : CatS) (u : MdlS) : Prop :=
  LR n b st ld u ∧ CR n n ct u ∧ HO d n hi u ∧ JZ cd ∧ ct = RP st ld hi d ∧
  (hi.2.2.2.2.1 = nI d ∧ hi.2.2.2.2.2 = nI n ∧ ld.2.2.2.2.2.1 = nI n ∧ ld.2.2.2.2.2.2 = nI b ∧ u.2.2.2.2.2.1 = nI b ∧ u.2.2.2.2.2.2.2.1 = nI n ∧ u.2.2.2.2.2.2.2.2.2.2.2.2.2.1 = nI (d - n)) ∧
  (n ≤ d ∧ d ≤ n + 100 ∧ (n = 0 → d = 0) ∧ (b = 0 → n = 0)) ∧
  ((∀ k, k < 3 → ld.1 (n * 3 + k) = u.2.2.2.1 k ∧ -1 ≤ ld.1 (n * 3 + k)) ∧ (∀ k, k < 4 → ld.2.1 (n * 4 + k) = u.2.2.2.2.1 k ∧ -1 ≤ ld.2.1 (n * 4 + k)) ∧ (∀ j, n * 3 + 3 ≤ j → j < 243 → ld.1 j = -1) ∧ (∀ j, n * 4 + 4 ≤ j → j < 324 → ld.2.1 j = -1) ∧ (∀ x, b ≤ x → x < 10 → ld.2.2.2.2.1 x = 0))
theorem Rel.thrown {n b d : Nat} {st : SetS} {ld : LodS} {hi : HisS} {ct cd : CatS} {u : MdlS} (x : Int32) (h : Rel n b d st ld hi ct cd u) : Rel n b d st ld hi ct cd (u.1, u.2.1, u.2.2.1, u.2.2.2.1, u.2.2.2.2.1, u.2.2.2.2.2.1, u.2.2.2.2.2.2.1, u.2.2.2.2.2.2.2.1, u.2.2.2.2.2.2.2.2.1, u.2.2.2.2.2.2.2.2.2.1, u.2.2.2.2.2.2.2.2.2.2.1, u.2.2.2.2.2.2.2.2.2.2.2.1, u.2.2.2.2.2.2.2.2.2.2.2.2.1, u.2.2.2.2.2.2.2.2.2.2.2.2.2.1, u.2.2.2.2.2.2.2.2.2.2.2.2.2.2.1, u.2.2.2.2.2.2.2.2.2.2.2.2.2.2.2.1, u.2.2.2.2.2.2.2.2.2.2.2.2.2.2.2.2.1, u.2.2.2.2.2.2.2.2.2.2.2.2.2.2.2.2.2.1, u.2.2.2.2.2.2.2.2.2.2.2.2.2.2.2.2.2.2.1, u.2.2.2.2.2.2.2.2.2.2.2.2.2.2.2.2.2.2.2.1, u.2.2.2.2.2.2.2.2.2.2.2.2.2.2.2.2.2.2.2.2.1, u.2.2.2.2.2.2.2.2.2.2.2.2.2.2.2.2.2.2.2.2.2.1, u.2.2.2.2.2.2.2.2.2.2.2.2.2.2.2.2.2.2.2.2.2.2.1, u.2.2.2.2.2.2.2.2.2.2.2.2.2.2.2.2.2.2.2.2.2.2.2.1, (x)) := h
theorem ix_cases (v : Int32) {N : Nat} (hN : N ≤ 1000) : (∃ a, a < N ∧ v = nI a ∧ m_X6_needIndex v (nI N) = .inr () ∧ m_X7_in v 0 (nI N - 1) = 1) ∨ (m_X6_needIndex v (nI N) = .inl "java/lang/IndexOutOfBoundsException" ∧ m_X7_in v 0 (nI N - 1) = 0) := by
  unfold m_X6_needIndex m_X7_in
  by_cases h : v < 0
  · right; rw [if_pos h, if_pos h]; exact ⟨rfl, rfl⟩
  · obtain ⟨a, ha, rfl⟩ := nI_of h
    by_cases h2 : a < N
    · left
      obtain ⟨M, rfl⟩ : ∃ M, N = M + 1 := ⟨N - 1, by omega⟩
      rw [nI_pred, if_neg h, if_neg h, if_pos (nI_lt h2 (by omega)), if_neg (nI_nlt (show a ≤ M by omega) (by omega))]
      exact ⟨a, h2, rfl, rfl, rfl⟩
    · right
      rw [if_neg h, if_neg h, if_neg (nI_nlt (by omega) ha)]
      refine ⟨rfl, ?_⟩
      rcases Nat.eq_zero_or_pos N with rfl | h0
      · rw [if_pos (show nI 0 - 1 < nI a from Int32.lt_of_lt_of_le (by decide) (nI_pos' ha))]
      · obtain ⟨M, rfl⟩ : ∃ M, N = M + 1 := ⟨N - 1, by omega⟩
        rw [nI_pred, if_pos (nI_lt (by omega) ha)]
theorem rec_cases {m h : Nat} {ct cd : CatS} {u : MdlS} {st : SetS} {ld : LodS} {hi : HisS} (hc : CR m h ct u) (v : Int32) : (∃ r, r < 80 ∧ v = nI r ∧ ct.1 r = 1 ∧ m_X6_needRecord st ld hi ct cd v = .inr () ∧ m_X7_isRecord u v = some 1 ∧ m_X0_has ct v = 1) ∨ (m_X6_needRecord st ld hi ct cd v = .inl "java/lang/IndexOutOfBoundsException" ∧ m_X7_isRecord u v = some 0 ∧ m_X0_has ct v = 0) := by
  have h1 := hc.1
  unfold m_X6_needRecord m_X7_isRecord
  rcases ix_cases v (show 80 ≤ 1000 by decide) with ⟨a, ha, rfl, -, h2⟩ | ⟨h2, h3⟩
  · have h4 : m_X7_in (nI a) 0 79 = 1 := h2
    rw [h4, if_neg (show ¬ (1 : Int32) = 0 by decide), if_pos (inb_n ha (by decide)), ncl (show a < 2147483648 by omega), ← (h1 a ha).1]
    by_cases ht : ct.1 a = 1
    · left
      rw [if_neg (pu_has1 ha ht), ht, if_neg (by decide), pu_has ha, if_pos ht]
      exact ⟨a, ha, rfl, ht, rfl, rfl, rfl⟩
    · right
      rw [if_pos (pu_has0 ha ht), if_pos ((h1 a ha).2.resolve_right ht), pu_has0 ha ht]
      exact ⟨rfl, rfl, rfl⟩
  · right
    have h4 : m_X7_in v 0 79 = 0 := h3
    have h5 : m_X0_has ct v = 0 := by
      unfold m_X0_has m_X4_get
      unfold m_X6_needIndex at h2
      by_cases h6 : v < 0
      · rw [if_pos h6]; rfl
      · rw [if_neg h6] at h2 ⊢
        have h7 : ¬ v < nI 80 := fun h8 => by rw [if_pos h8] at h2; cases h2
        rw [if_pos (Int32.not_lt.mp h7)]; rfl
    rw [h4, if_pos h5, if_pos (show (0 : Int32) = 0 from rfl), h5]
    exact ⟨rfl, rfl, rfl⟩
