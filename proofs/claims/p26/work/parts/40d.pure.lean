/-! PURE: class and reference side by side: the catalogue, with m loads taken in; what a load rests on -/
def CR (m h : Nat) (c : CatS) (u : MdlS) : Prop :=
  (∀ r, r < 80 → c.1 r = u.2.2.2.2.2.2.2.2.2.2.2.2.2.2.2.2.2.2.1 r ∧ (c.1 r = 0 ∨ c.1 r = 1)) ∧
  (∀ r, r < 80 → c.1 r = 1 → (∀ k, k < 3 → c.2.1 (r * 3 + k) = u.2.2.2.2.2.2.2.2.2.2.2.2.2.2.2.2.2.2.2.1 (r * 3 + k)) ∧ (∀ k, k < 4 → c.2.2.1 (r * 4 + k) = u.2.2.2.2.2.2.2.2.2.2.2.2.2.2.2.2.2.2.2.2.1 (r * 4 + k) ∧ c.2.2.2.1 (r * 4 + k) = u.2.2.2.2.2.2.2.2.2.2.2.2.2.2.2.2.2.2.2.2.2.1 (r * 4 + k) ∧ c.2.2.2.2.1 (r * 4 + k) = u.2.2.2.2.2.2.2.2.2.2.2.2.2.2.2.2.2.2.2.2.2.2.1 (r * 4 + k)) ∧ c.2.2.2.2.2.1 r = u.2.2.2.2.2.2.2.2.2.2.2.2.2.2.2.2.2.2.2.2.2.2.2.1 r) ∧
  (∀ i, i < h → c.2.2.2.2.2.2 i = u.2.2.2.2.2.2.2.2.2.2.2.2.1 i) ∧
  (∀ r, m ≤ r → r < 80 → c.1 r = 0 ∧ (∀ k, k < 3 → c.2.1 (r * 3 + k) = -1) ∧ (∀ k, k < 4 → c.2.2.1 (r * 4 + k) = -1 ∧ c.2.2.2.1 (r * 4 + k) = -1 ∧ c.2.2.2.2.1 (r * 4 + k) = 0) ∧ c.2.2.2.2.2.1 r = 0) ∧
  (∀ j, j < 320 → (c.2.2.2.1 j = -1 ∨ ∃ s, s < 5 ∧ c.2.2.2.1 j = nI s) ∧ (c.2.2.2.2.1 j = 0 ∨ c.2.2.2.2.1 j = 1) ∧ -1 ≤ c.2.2.1 j) ∧
  (∀ j, j < 240 → -1 ≤ c.2.1 j)
def LR (n b : Nat) (st : SetS) (ld : LodS) (u : MdlS) : Prop :=
  n ≤ 80 ∧ b ≤ 10 ∧
  (∀ i, i < 5 → st.1 i = u.1 i ∧ 0 ≤ st.1 i) ∧
  (∀ k, k < 4 → st.2.1 k = u.2.1 k ∧ (st.2.1 k = 0 ∨ st.2.1 k = 1 ∨ st.2.1 k = 2)) ∧
  (∀ k, k < 3 → st.2.2 k = u.2.2.1 k ∧ ∃ o, o < 3 ∧ st.2.2 k = nI o) ∧
  (∀ i, i < n → (∀ k, k < 3 → ld.1 (i * 3 + k) = u.2.2.2.2.2.2.2.2.2.2.1 (i * 3 + k) ∧ -1 ≤ ld.1 (i * 3 + k)) ∧ (∀ k, k < 4 → ld.2.1 (i * 4 + k) = u.2.2.2.2.2.2.2.2.2.2.2.1 (i * 4 + k) ∧ -1 ≤ ld.2.1 (i * 4 + k)) ∧ ld.2.2.1 i = u.2.2.2.2.2.2.2.2.2.1 i ∧ (∃ s, s < 5 ∧ ld.2.2.1 i = nI s) ∧ ld.2.2.2.1 i = u.2.2.2.2.2.2.2.2.1 i ∧ ∃ x, x < b ∧ ld.2.2.2.1 i = nI x) ∧
  (∀ x, x < b → ld.2.2.2.2.1 x = u.2.2.2.2.2.2.1 x ∧ (ld.2.2.2.2.1 x = 0 ∨ ld.2.2.2.2.1 x = 1))
/-- nothing but the catalogue differs -/
def KU (u v : MdlS) : Prop :=
  v.1 = u.1 ∧ v.2.1 = u.2.1 ∧ v.2.2.1 = u.2.2.1 ∧ v.2.2.2.1 = u.2.2.2.1 ∧ v.2.2.2.2.1 = u.2.2.2.2.1 ∧ v.2.2.2.2.2.1 = u.2.2.2.2.2.1 ∧ v.2.2.2.2.2.2.1 = u.2.2.2.2.2.2.1 ∧ v.2.2.2.2.2.2.2.1 = u.2.2.2.2.2.2.2.1 ∧ v.2.2.2.2.2.2.2.2.1 = u.2.2.2.2.2.2.2.2.1 ∧ v.2.2.2.2.2.2.2.2.2.1 = u.2.2.2.2.2.2.2.2.2.1 ∧ v.2.2.2.2.2.2.2.2.2.2.1 = u.2.2.2.2.2.2.2.2.2.2.1 ∧ v.2.2.2.2.2.2.2.2.2.2.2.1 = u.2.2.2.2.2.2.2.2.2.2.2.1 ∧ v.2.2.2.2.2.2.2.2.2.2.2.2.2.1 = u.2.2.2.2.2.2.2.2.2.2.2.2.2.1 ∧ v.2.2.2.2.2.2.2.2.2.2.2.2.2.2.1 = u.2.2.2.2.2.2.2.2.2.2.2.2.2.2.1 ∧ v.2.2.2.2.2.2.2.2.2.2.2.2.2.2.2.1 = u.2.2.2.2.2.2.2.2.2.2.2.2.2.2.2.1 ∧ v.2.2.2.2.2.2.2.2.2.2.2.2.2.2.2.2.1 = u.2.2.2.2.2.2.2.2.2.2.2.2.2.2.2.2.1 ∧ v.2.2.2.2.2.2.2.2.2.2.2.2.2.2.2.2.2.1 = u.2.2.2.2.2.2.2.2.2.2.2.2.2.2.2.2.2.1 ∧ v.2.2.2.2.2.2.2.2.2.2.2.2.2.2.2.2.2.2.2.2.2.2.2.2 = u.2.2.2.2.2.2.2.2.2.2.2.2.2.2.2.2.2.2.2.2.2.2.2.2
theorem KU.rf {u : MdlS} : KU u u := ⟨rfl, rfl, rfl, rfl, rfl, rfl, rfl, rfl, rfl, rfl, rfl, rfl, rfl, rfl, rfl, rfl, rfl, rfl⟩
theorem KU.tr {u v w : MdlS} (h : KU u v) (k : KU v w) : KU u w := by
  obtain ⟨a1, a2, a3, a4, a5, a6, a7, a8, a9, a10, a11, a12, a13, a14, a15, a16, a17, a18⟩ := h
  obtain ⟨b1, b2, b3, b4, b5, b6, b7, b8, b9, b10, b11, b12, b13, b14, b15, b16, b17, b18⟩ := k
  exact ⟨b1.trans a1, b2.trans a2, b3.trans a3, b4.trans a4, b5.trans a5, b6.trans a6, b7.trans a7, b8.trans a8, b9.trans a9, b10.trans a10, b11.trans a11, b12.trans a12, b13.trans a13, b14.trans a14, b15.trans a15, b16.trans a16, b17.trans a17, b18.trans a18⟩
theorem LR.kept {n b : Nat} {st : SetS} {ld : LodS} {u v : MdlS} (h : LR n b st ld u) (k : KU u v) : LR n b st ld v := by
  obtain ⟨a1, a2, a3, a4, a5, a6, a7, a8, a9, a10, a11, a12, a13, a14, a15, a16, a17, a18⟩ := k
  unfold LR at *
  rw [a1, a2, a3, a7, a9, a10, a11, a12]
  exact h
theorem fm_neg {u : MdlS} {load : Int32} {k2 n k : Nat} {f M : Int32} : m_X7_match_lp32 u load k2 (-1) (n + 1) k f M = some (f, M) := by
  simp only [m_X7_match_lp32, if_true]
theorem nI_m1 {j : Nat} (h : j < 2147483648) : ¬ nI j = -1 := by
  intro e
  have h1 := nI_pos h
  rw [e] at h1
  exact h1 (by decide)
theorem nI_m2 {j : Nat} (h : j < 2147483648) : ¬ nI j = -2 := by
  intro e
  have h1 := nI_pos h
  rw [e] at h1
  exact h1 (by decide)
/-- the search for one key, side by side: M hits so far -/
theorem fm_lp {c : CatS} {u : MdlS} {m hh k2 o : Nat} {v load : Int32} (h : CR m hh c u) (hk2 : k2 < 3) (ho : o < 3) (hord : u.2.2.1 k2 = nI o) (hv : ¬ v = -1) : ∀ (n k M : Nat) (f : Int32), k + n = 80 → M ≤ k → (M = 0 → f = -1) → (M = 1 → ∃ j, j < 80 ∧ f = nI j ∧ c.1 j = 1) →
    ∃ (F : Int32) (M' : Nat), m_X7_match_lp32 u load k2 v n k f (nI M) = some (F, nI M') ∧ M ≤ M' ∧ M' ≤ 80 ∧ (M' = 1 → ∃ j, j < 80 ∧ F = nI j ∧ c.1 j = 1) ∧ (M ≤ 1 → m_X0_find_lp12 c (nI o) v n k f = if M' = 0 then -1 else if M' = 1 then F else -2) := by
  intro n
  induction n with
  | zero =>
    intro k M f hk hM h0 h1
    refine ⟨f, M, rfl, Nat.le_refl M, by omega, h1, fun hM1 => ?_⟩
    show f = _
    rcases (show M = 0 ∨ M = 1 by omega) with rfl | rfl
    · rw [if_pos rfl]; exact h0 rfl
    · rw [if_neg (by decide), if_pos rfl]
  | succ n ih =>
    intro k M f hk hM h0 h1
    have hk80 : k < 80 := by omega
    simp only [m_X7_match_lp32, m_X0_find_lp12]
    rw [if_neg hv, if_pos (inb_n hk80 (by decide)), ncl (show k < 2147483648 by omega), ncl (show k2 < 2147483648 by omega), hord, ix3, if_pos (inb_n (show k * 3 + o < 240 by omega) (by decide)), ncl (show k * 3 + o < 2147483648 by omega), pu_get hk80 (by decide), g803 hk80 ho]
    obtain ⟨e1, e2⟩ := h.1 k hk80
    by_cases ht : c.1 k = 1
    · have hne : ¬ u.2.2.2.2.2.2.2.2.2.2.2.2.2.2.2.2.2.2.1 k = 0 := by rw [← e1, ht]; decide
      rw [if_neg hne, if_pos ht, ← (h.2.1 k hk80 ht).1 o ho]
      by_cases hc : c.2.1 (k * 3 + o) = v
      · rw [if_pos hc, if_pos hc, nI_1]
        obtain ⟨F, M', q1, q2, q3, q4, q5⟩ := ih (k + 1) (M + 1) (nI k) (by omega) (by omega) (fun h9 => absurd h9 (by omega)) (fun _ => ⟨k, hk80, rfl, ht⟩)
        refine ⟨F, M', q1, by omega, q3, q4, fun hM1 => ?_⟩
        rcases (show M = 0 ∨ M = 1 by omega) with rfl | rfl
        · rw [if_pos (h0 rfl)]
          exact q5 (by omega)
        · obtain ⟨j, hj, rfl, -⟩ := h1 rfl
          rw [if_neg (nI_m1 (by omega)), if_neg (by omega), if_neg (by omega)]
      · rw [if_neg hc, if_neg hc]
        obtain ⟨F, M', q1, q2, q3, q4, q5⟩ := ih (k + 1) M f (by omega) (by omega) h0 h1
        exact ⟨F, M', q1, q2, q3, q4, q5⟩
    · have h9 : u.2.2.2.2.2.2.2.2.2.2.2.2.2.2.2.2.2.2.1 k = 0 := by rw [← e1]; exact e2.resolve_right ht
      rw [if_pos h9, if_neg ht]
      exact ih (k + 1) M f (by omega) (by omega) h0 h1
/-- the keys in their turn -/
theorem tm_lp {c : CatS} {u : MdlS} {st : SetS} {ld : LodS} {m hh n b i : Nat} (h : CR m hh c u) (hL : LR n b st ld u) (hi : i < n) : ∀ (q k : Nat), k + q = 3 →
    ∃ R : Int32, m_X7_match_lp2 u (nI i) q k = some R ∧ ((R = -1 ∧ m_X0_target_lp3 c st ld (nI i) q k = nI i) ∨ (R = -2 ∧ m_X0_target_lp3 c st ld (nI i) q k = -2) ∨ ∃ r, r < 80 ∧ R = nI r ∧ c.1 r = 1 ∧ m_X0_target_lp3 c st ld (nI i) q k = nI r) := by
  obtain ⟨hn, hb, -, -, hO, hLd, -⟩ := hL
  intro q
  induction q with
  | zero => intro k hk; exact ⟨-1, rfl, Or.inl ⟨rfl, rfl⟩⟩
  | succ q ih =>
    intro k hk
    have hk3 : k < 3 := by omega
    obtain ⟨hod, o, ho, hod2⟩ := hO k hk3
    have hmo : u.2.2.1 k = nI o := by rw [← hod, hod2]
    have hlk := (hLd i hi).1 o ho
    simp only [m_X7_match_lp2, m_X0_target_lp3]
    rw [if_pos (inb_n hk3 (by decide)), ncl (show k < 2147483648 by omega), hmo, ix3, if_pos (inb_n (show i * 3 + o < 240 by omega) (by decide)), ncl (show i * 3 + o < 2147483648 by omega), pu_get hk3 (by decide), hod2, g813 (by omega) ho, ← hlk.1]
    unfold m_X0_find
    by_cases hv : ld.1 (i * 3 + o) = -1
    · rw [if_pos hv, hv, fm_neg (n := 79), Option.bind_some]
      dsimp only
      rw [if_pos (by decide), if_pos rfl]
      exact ih (k + 1) (by omega)
    · rw [if_neg hv]
      obtain ⟨F, M', q1, q2, q3, q4, q5⟩ := fm_lp (load := nI i) h hk3 ho hmo hv 80 0 0 (-1) rfl (Nat.le_refl 0) (fun _ => rfl) (fun h9 => absurd h9 (by decide))
      have q6 : m_X7_match_lp32 u (nI i) k (ld.1 (i * 3 + o)) 80 0 (-1) 0 = some (F, nI M') := q1
      rw [q6, Option.bind_some]
      dsimp only
      rcases (show M' = 0 ∨ M' = 1 ∨ 2 ≤ M' by omega) with h9 | h9 | h9
      · have e5 : m_X0_find_lp12 c (nI o) (ld.1 (i * 3 + o)) 80 0 (-1) = -1 := by rw [q5 (by decide), if_pos h9]
        rw [e5, h9, if_pos (by decide), if_pos rfl]
        exact ih (k + 1) (by omega)
      · obtain ⟨j, hj, hj1, hj2⟩ := q4 h9
        have e5 : m_X0_find_lp12 c (nI o) (ld.1 (i * 3 + o)) 80 0 (-1) = nI j := by rw [q5 (by decide), if_neg (by omega), if_pos h9, hj1]
        rw [e5, h9, if_neg (by decide), if_pos (by decide), if_neg (nI_m1 (by omega)), hj1]
        exact ⟨nI j, rfl, Or.inr (Or.inr ⟨j, hj, rfl, hj2, rfl⟩)⟩
      · have e5 : m_X0_find_lp12 c (nI o) (ld.1 (i * 3 + o)) 80 0 (-1) = -2 := by rw [q5 (by decide), if_neg (by omega), if_neg (by omega)]
        have e1 : ¬ nI M' = 1 := fun e => absurd ((nI_eq (a := M') (b := 1) (by omega) (by decide)).mp e) (by omega)
        rw [e5, if_neg (nI_nle (by omega) (by omega)), if_neg e1, if_neg (by decide)]
        exact ⟨-2, rfl, Or.inr (Or.inl ⟨rfl, rfl⟩)⟩
