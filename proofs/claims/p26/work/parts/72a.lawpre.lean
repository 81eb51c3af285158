/-! THE LAW'S BODY: the deeds -/
theorem qz_c143 : Cond.constant RL 143 2147483647 ∈ lw_tbl := by decide +kernel
theorem qz_c144 : Cond.constant RL 144 49003 ∈ lw_tbl := by decide +kernel
theorem tv_nn {n bt d U : Nat} {st : SetS} {ld : LodS} {hi : HisS} {ct cd : CatS} {u : MdlS} {v l : FL} {h e nn nn' qq bb t uu : FI} {dr : Int64} (I : IV n bt d U st ld hi ct cd u v h e nn qq l bb t uu dr) (hN : NV n bt d nn') : IV n bt d U st ld hi ct cd u v h e nn' qq l bb t uu dr :=
  ⟨I.1, I.2.1, I.2.2.1, I.2.2.2.1, I.2.2.2.2.1, I.2.2.2.2.2.1, hN, I.2.2.2.2.2.2.2⟩
theorem adds_eq {n bt d K o q : Nat} {ev nn : FI} (hN : NV n bt d nn) (hd : d < 64) : ∃ nn1, m_L_adds ev nn (nI K) (nI o) (nI q) = some (upd ev d (nI (K + 8 * o + 1024 * q)), nn1) ∧ NV n bt (d + 1) nn1 := by
  have e9 : nI K + 8 * nI o + 1024 * nI q = nI (K + 8 * o + 1024 * q) := by
    have a1 : (8 : Int32) * nI o = nI (8 * o) := pk_mul 8 o
    have a2 : (1024 : Int32) * nI q = nI (1024 * q) := pk_mul 1024 q
    rw [a1, a2, nI_add, nI_add]
  unfold m_L_adds
  rw [cl2, cl3, hN.2.2, if_pos (inb_n hd (by decide)), ncl (show d < 2147483648 by omega), e9]
  have hv : ∀ x : Int32, NV n bt (d + 1) (upd (upd nn 2 (nI d + 1)) 3 x) := fun x => ⟨(pk_un (by decide)).trans ((pk_un (by decide)).trans hN.1), (pk_un (by decide)).trans ((pk_un (by decide)).trans hN.2.1), (pk_un (by decide)).trans (pk_us.trans (nI_1 d))⟩
  by_cases hk : nI K ≤ 0
  · rw [if_pos hk]; exact ⟨_, rfl, hv _⟩
  · rw [if_neg hk]; exact ⟨_, rfl, hv _⟩
/-- a load's number, while its sources are laid -/
def PD (dr x : Int64) (s k : Nat) : Prop := ix x = 0 ∧ (∀ j, j < 3 → kx x j = kx dr j) ∧ (∀ j, j < 4 → fx x j = fx dr j ∧ gx x j = 0) ∧ ∀ j, j < k → j < 4 → ¬ fx x j = 0 → sx x j = s
theorem PD.step {dr x : Int64} {s s' k : Nat} (h : PD dr x s k) (hk : k < 4) (hs : s' < 8) (he : ¬ fx x k = 0 → s' = s) : PD dr (m_L_withField x (nI k) (nI (fx x k)) (nI s')) s (k + 1) := by
  obtain ⟨h1, h2, h3, h4⟩ := h
  refine ⟨(wf_i hk fx_lt hs).trans h1, fun j hj => (wf_k hk fx_lt hs hj).trans (h2 j hj), fun j hj => ⟨?_, (wf_g hk fx_lt hs hj).trans (h3 j hj).2⟩, fun j hj hj4 hf => ?_⟩
  · rw [wf_f hk fx_lt hs hj]
    by_cases e9 : j = k
    · rw [if_pos e9, ← e9]; exact (h3 j hj).1
    · rw [if_neg e9]; exact (h3 j hj).1
  · rw [wf_f hk fx_lt hs hj4] at hf
    rw [wf_s hk fx_lt hs hj4]
    by_cases e9 : j = k
    · rw [if_pos e9] at hf ⊢
      exact he hf
    · rw [if_neg e9] at hf ⊢
      exact h4 j (by omega) hj4 hf
