/-! PURE: what the class's own functions do, at places that are naturals -/
theorem pu_get {n i : Nat} {f : FI} (h : i < n) (hn : n < 2147483648) : m_X4_get n f (nI i) = f i := by
  unfold m_X4_get
  rw [if_neg (nI_pos (by omega)), if_neg (nI_ge h hn), nI_clamp (by omega)]
theorem pu_set {n i : Nat} {f : FI} {v : Int32} (h : i < n) (hn : n < 2147483648) : m_X4_set n f (nI i) v = upd f i v := by
  unfold m_X4_set
  rw [if_neg (nI_pos (by omega)), if_neg (nI_ge h hn), nI_clamp (by omega)]
theorem pu_ix {R C i j : Nat} (hi : i < R) (hj : j < C) : i * C + j < R * C := by
  have h1 : (i + 1) * C ≤ R * C := Nat.mul_le_mul_right C hi
  rw [Nat.add_mul, Nat.one_mul] at h1
  omega
theorem pu_gget {R C n i j : Nat} {f : FI} (hi : i < R) (hj : j < C) (hn : n = R * C) (hR : R < 2147483648) (hC : C < 2147483648) (hn2 : n < 2147483648) : m_X1_get (nI R) (nI C) n f (nI i) (nI j) = f (i * C + j) := by
  have h1 := pu_ix hi hj
  have e : nI i * nI C + nI j = nI (i * C + j) := by rw [pk_mul, nI_add]
  unfold m_X1_get
  rw [if_neg (nI_pos (by omega)), if_neg (nI_ge hi hR), if_neg (nI_pos (by omega)), if_pos (nI_lt hj hC)]
  dsimp only
  rw [e, if_neg (nI_pos (by omega)), if_neg (nI_ge (by omega) hn2), nI_clamp (by omega)]
theorem pu_gset {R C n i j : Nat} {f : FI} {v : Int32} (hi : i < R) (hj : j < C) (hn : n = R * C) (hR : R < 2147483648) (hC : C < 2147483648) (hn2 : n < 2147483648) : m_X1_set (nI R) (nI C) n f (nI i) (nI j) v = upd f (i * C + j) v := by
  have h1 := pu_ix hi hj
  have e : nI i * nI C + nI j = nI (i * C + j) := by rw [pk_mul, nI_add]
  unfold m_X1_set
  rw [if_neg (nI_pos (by omega)), if_neg (nI_ge hi hR), if_neg (nI_pos (by omega)), if_pos (nI_lt hj hC)]
  dsimp only
  rw [e, if_neg (nI_pos (by omega)), if_neg (nI_ge (by omega) hn2), nI_clamp (by omega)]
theorem g803 {i j : Nat} {f : FI} (hi : i < 80) (hj : j < 3) : m_X1_get 80 3 240 f (nI i) (nI j) = f (i * 3 + j) := pu_gget (R := 80) (C := 3) hi hj rfl (by decide) (by decide) (by decide)
theorem g804 {i j : Nat} {f : FI} (hi : i < 80) (hj : j < 4) : m_X1_get 80 4 320 f (nI i) (nI j) = f (i * 4 + j) := pu_gget (R := 80) (C := 4) hi hj rfl (by decide) (by decide) (by decide)
theorem g813 {i j : Nat} {f : FI} (hi : i < 81) (hj : j < 3) : m_X1_get 81 3 243 f (nI i) (nI j) = f (i * 3 + j) := pu_gget (R := 81) (C := 3) hi hj rfl (by decide) (by decide) (by decide)
theorem g814 {i j : Nat} {f : FI} (hi : i < 81) (hj : j < 4) : m_X1_get 81 4 324 f (nI i) (nI j) = f (i * 4 + j) := pu_gget (R := 81) (C := 4) hi hj rfl (by decide) (by decide) (by decide)
theorem s803 {i j : Nat} {f : FI} {v : Int32} (hi : i < 80) (hj : j < 3) : m_X1_set 80 3 240 f (nI i) (nI j) v = upd f (i * 3 + j) v := pu_gset (R := 80) (C := 3) hi hj rfl (by decide) (by decide) (by decide)
theorem s804 {i j : Nat} {f : FI} {v : Int32} (hi : i < 80) (hj : j < 4) : m_X1_set 80 4 320 f (nI i) (nI j) v = upd f (i * 4 + j) v := pu_gset (R := 80) (C := 4) hi hj rfl (by decide) (by decide) (by decide)
theorem s813 {i j : Nat} {f : FI} {v : Int32} (hi : i < 81) (hj : j < 3) : m_X1_set 81 3 243 f (nI i) (nI j) v = upd f (i * 3 + j) v := pu_gset (R := 81) (C := 3) hi hj rfl (by decide) (by decide) (by decide)
theorem s814 {i j : Nat} {f : FI} {v : Int32} (hi : i < 81) (hj : j < 4) : m_X1_set 81 4 324 f (nI i) (nI j) v = upd f (i * 4 + j) v := pu_gset (R := 81) (C := 4) hi hj rfl (by decide) (by decide) (by decide)
theorem pu_fill_lp {n : Nat} {f0 : FI} {v : Int32} (hn : n < 2147483648) : ∀ (m k : Nat) (f : FI), k + m = n → m_J7_fill_53178_lp5 n f0 v m k f = fun j => if k ≤ j ∧ j < n then v else f j := by
  intro m
  induction m with
  | zero => intro k f h; show f = _; funext j; rw [if_neg (by omega)]
  | succ m ih =>
    intro k f h
    show m_J7_fill_53178_lp5 n f0 v m (k + 1) _ = _
    rw [ih (k + 1) _ (by omega), nI_clamp (by omega)]
    funext j
    by_cases hj : j = k
    · subst hj
      rw [if_neg (by omega), if_pos (by omega), pk_us]
    · rw [pk_un hj]
      by_cases h2 : k + 1 ≤ j ∧ j < n
      · rw [if_pos h2, if_pos (by omega)]
      · rw [if_neg h2, if_neg (by omega)]
theorem pu_fill {n : Nat} {f : FI} {v : Int32} (hn : n < 2147483648) : m_J7_fill_53178 n f v = fun j => if j < n then v else f j := by
  show m_J7_fill_53178_lp5 n f v n 0 f = _
  rw [pu_fill_lp hn n 0 f (by omega)]
  funext j
  by_cases h : j < n
  · rw [if_pos ⟨Nat.zero_le j, h⟩, if_pos h]
  · rw [if_neg (fun h2 => h h2.2), if_neg h]
/-- the keys are laid -/
theorem pu_layKeys_lp {ct : CatS} {ld : LodS} {i r : Nat} (hi : i < 81) (hr : r < 80) : ∀ (n k : Nat) (s : CatS), k + n = 3 → m_X0_layKeys_lp3 ct ld (nI i) (nI r) n k s = (s.1, (fun j => if r * 3 + k ≤ j ∧ j < r * 3 + 3 ∧ s.2.1 j = -1 then ld.1 (i * 3 + (j - r * 3)) else s.2.1 j), s.2.2.1, s.2.2.2.1, s.2.2.2.2.1, s.2.2.2.2.2.1, s.2.2.2.2.2.2) := by
  intro n
  induction n with
  | zero =>
    intro k s h
    have e : (fun j => if r * 3 + k ≤ j ∧ j < r * 3 + 3 ∧ s.2.1 j = -1 then ld.1 (i * 3 + (j - r * 3)) else s.2.1 j) = s.2.1 := by
      funext j; rw [if_neg (by omega)]
    rw [e]
    rfl
  | succ n ih =>
    intro k s h
    have hk : k < 3 := by omega
    simp only [m_X0_layKeys_lp3]
    rw [g803 hr hk, g813 hi hk, s803 hr hk]
    by_cases hc : s.2.1 (r * 3 + k) = -1
    · rw [if_pos hc, ih (k + 1) _ (by omega)]
      have e : (fun j => if r * 3 + (k + 1) ≤ j ∧ j < r * 3 + 3 ∧ (upd s.2.1 (r * 3 + k) (ld.1 (i * 3 + k))) j = -1 then ld.1 (i * 3 + (j - r * 3)) else (upd s.2.1 (r * 3 + k) (ld.1 (i * 3 + k))) j) = (fun j => if r * 3 + k ≤ j ∧ j < r * 3 + 3 ∧ s.2.1 j = -1 then ld.1 (i * 3 + (j - r * 3)) else s.2.1 j) := by
        funext j
        by_cases hj : j = r * 3 + k
        · rw [if_neg (by omega), if_pos ⟨by omega, by omega, by rw [hj]; exact hc⟩, hj, pk_us, show r * 3 + k - r * 3 = k by omega]
        · rw [pk_un hj]
          by_cases h2 : r * 3 + k ≤ j ∧ j < r * 3 + 3 ∧ s.2.1 j = -1
          · rw [if_pos h2, if_pos ⟨by omega, h2.2.1, h2.2.2⟩]
          · rw [if_neg h2, if_neg (fun h3 => h2 ⟨by omega, h3.2.1, h3.2.2⟩)]
      exact congrArg (fun F : FI => ((s.1, (F), s.2.2.1, s.2.2.2.1, s.2.2.2.2.1, s.2.2.2.2.2.1, s.2.2.2.2.2.2) : CatS)) e
    · rw [if_neg hc, ih (k + 1) _ (by omega)]
      have e : (fun j => if r * 3 + (k + 1) ≤ j ∧ j < r * 3 + 3 ∧ s.2.1 j = -1 then ld.1 (i * 3 + (j - r * 3)) else s.2.1 j) = (fun j => if r * 3 + k ≤ j ∧ j < r * 3 + 3 ∧ s.2.1 j = -1 then ld.1 (i * 3 + (j - r * 3)) else s.2.1 j) := by
        funext j
        by_cases h2 : r * 3 + k ≤ j ∧ j < r * 3 + 3 ∧ s.2.1 j = -1
        · have hj : j ≠ r * 3 + k := fun h3 => hc (by rw [← h3]; exact h2.2.2)
          rw [if_pos h2, if_pos ⟨by omega, h2.2.1, h2.2.2⟩]
        · rw [if_neg h2, if_neg (fun h3 => h2 ⟨by omega, h3.2.1, h3.2.2⟩)]
      exact congrArg (fun F : FI => ((s.1, (F), s.2.2.1, s.2.2.2.1, s.2.2.2.2.1, s.2.2.2.2.2.1, s.2.2.2.2.2.2) : CatS)) e
theorem pu_layKeys {ct : CatS} {ld : LodS} {i r : Nat} (hi : i < 81) (hr : r < 80) : m_X0_layKeys ct ld (nI i) (nI r) = (ct.1, (fun j => if r * 3 ≤ j ∧ j < r * 3 + 3 ∧ ct.2.1 j = -1 then ld.1 (i * 3 + (j - r * 3)) else ct.2.1 j), ct.2.2.1, ct.2.2.2.1, ct.2.2.2.2.1, ct.2.2.2.2.2.1, ct.2.2.2.2.2.2) :=
  pu_layKeys_lp hi hr 3 0 ct rfl
/-- where a field of a load is laid -/
abbrev pu_lc (st : SetS) (ld : LodS) (i : Nat) (x : Int32) (s : CatS) (r j : Nat) : Prop := ¬ ld.2.1 (i * 4 + (j - r * 4)) = -1 ∧ s.2.2.2.2.1 j = 0 ∧ (s.2.2.1 j = -1 ∨ ¬ m_X5_replaces st (nI (j - r * 4)) x (s.2.2.2.1 j) = 0)
theorem pu_layFields_lp {ct : CatS} {st : SetS} {ld : LodS} {i r : Nat} {x : Int32} (hi : i < 81) (hr : r < 80) : ∀ (n k : Nat) (s : CatS), k + n = 4 → m_X0_layFields_lp13 ct st ld (nI i) (nI r) x n k s = (s.1, s.2.1, (fun j => if r * 4 + k ≤ j ∧ j < r * 4 + 4 ∧ pu_lc st ld i x s r j then ld.2.1 (i * 4 + (j - r * 4)) else s.2.2.1 j), (fun j => if r * 4 + k ≤ j ∧ j < r * 4 + 4 ∧ pu_lc st ld i x s r j then x else s.2.2.2.1 j), s.2.2.2.2.1, s.2.2.2.2.2.1, s.2.2.2.2.2.2) := by
  intro n
  induction n with
  | zero =>
    intro k s h
    have e1 : (fun j => if r * 4 + k ≤ j ∧ j < r * 4 + 4 ∧ pu_lc st ld i x s r j then ld.2.1 (i * 4 + (j - r * 4)) else s.2.2.1 j) = s.2.2.1 := by
      funext j; rw [if_neg (by omega)]
    have e2 : (fun j => if r * 4 + k ≤ j ∧ j < r * 4 + 4 ∧ pu_lc st ld i x s r j then x else s.2.2.2.1 j) = s.2.2.2.1 := by
      funext j; rw [if_neg (by omega)]
    rw [e1, e2]
    rfl
  | succ n ih =>
    intro k s h
    have hk : k < 4 := by omega
    have hkk : r * 4 + k - r * 4 = k := by omega
    have skip : ¬ pu_lc st ld i x s r (r * 4 + k) → ((s.1, s.2.1, (fun j => if r * 4 + (k + 1) ≤ j ∧ j < r * 4 + 4 ∧ pu_lc st ld i x s r j then ld.2.1 (i * 4 + (j - r * 4)) else s.2.2.1 j), (fun j => if r * 4 + (k + 1) ≤ j ∧ j < r * 4 + 4 ∧ pu_lc st ld i x s r j then x else s.2.2.2.1 j), s.2.2.2.2.1, s.2.2.2.2.2.1, s.2.2.2.2.2.2) : CatS) = (s.1, s.2.1, (fun j => if r * 4 + k ≤ j ∧ j < r * 4 + 4 ∧ pu_lc st ld i x s r j then ld.2.1 (i * 4 + (j - r * 4)) else s.2.2.1 j), (fun j => if r * 4 + k ≤ j ∧ j < r * 4 + 4 ∧ pu_lc st ld i x s r j then x else s.2.2.2.1 j), s.2.2.2.2.1, s.2.2.2.2.2.1, s.2.2.2.2.2.2) := by
      intro hn
      have hiff : ∀ j, (r * 4 + (k + 1) ≤ j ∧ j < r * 4 + 4 ∧ pu_lc st ld i x s r j) ↔ (r * 4 + k ≤ j ∧ j < r * 4 + 4 ∧ pu_lc st ld i x s r j) := fun j =>
        ⟨fun h3 => ⟨by omega, h3.2⟩, fun h3 => ⟨by
          have : j ≠ r * 4 + k := fun h4 => hn (h4 ▸ h3.2.2)
          omega, h3.2⟩⟩
      simp only [hiff]
    have lay : pu_lc st ld i x s r (r * 4 + k) → ((s.1, s.2.1, (fun j => if r * 4 + (k + 1) ≤ j ∧ j < r * 4 + 4 ∧ pu_lc st ld i x (s.1, s.2.1, (upd s.2.2.1 (r * 4 + k) (ld.2.1 (i * 4 + k))), (upd s.2.2.2.1 (r * 4 + k) x), s.2.2.2.2.1, s.2.2.2.2.2.1, s.2.2.2.2.2.2) r j then ld.2.1 (i * 4 + (j - r * 4)) else (upd s.2.2.1 (r * 4 + k) (ld.2.1 (i * 4 + k))) j), (fun j => if r * 4 + (k + 1) ≤ j ∧ j < r * 4 + 4 ∧ pu_lc st ld i x (s.1, s.2.1, (upd s.2.2.1 (r * 4 + k) (ld.2.1 (i * 4 + k))), (upd s.2.2.2.1 (r * 4 + k) x), s.2.2.2.2.1, s.2.2.2.2.2.1, s.2.2.2.2.2.2) r j then x else (upd s.2.2.2.1 (r * 4 + k) x) j), s.2.2.2.2.1, s.2.2.2.2.2.1, s.2.2.2.2.2.2) : CatS) = (s.1, s.2.1, (fun j => if r * 4 + k ≤ j ∧ j < r * 4 + 4 ∧ pu_lc st ld i x s r j then ld.2.1 (i * 4 + (j - r * 4)) else s.2.2.1 j), (fun j => if r * 4 + k ≤ j ∧ j < r * 4 + 4 ∧ pu_lc st ld i x s r j then x else s.2.2.2.1 j), s.2.2.2.2.1, s.2.2.2.2.2.1, s.2.2.2.2.2.2) := by
      intro hp
      have e1 : (fun j => if r * 4 + (k + 1) ≤ j ∧ j < r * 4 + 4 ∧ pu_lc st ld i x (s.1, s.2.1, (upd s.2.2.1 (r * 4 + k) (ld.2.1 (i * 4 + k))), (upd s.2.2.2.1 (r * 4 + k) x), s.2.2.2.2.1, s.2.2.2.2.2.1, s.2.2.2.2.2.2) r j then ld.2.1 (i * 4 + (j - r * 4)) else (upd s.2.2.1 (r * 4 + k) (ld.2.1 (i * 4 + k))) j) = (fun j => if r * 4 + k ≤ j ∧ j < r * 4 + 4 ∧ pu_lc st ld i x s r j then ld.2.1 (i * 4 + (j - r * 4)) else s.2.2.1 j) := by
        funext j
        by_cases hj : j = r * 4 + k
        · rw [if_neg (by omega), if_pos ⟨by omega, by omega, by rw [hj]; exact hp⟩, hj, pk_us, hkk]
        · have hq : pu_lc st ld i x (s.1, s.2.1, (upd s.2.2.1 (r * 4 + k) (ld.2.1 (i * 4 + k))), (upd s.2.2.2.1 (r * 4 + k) x), s.2.2.2.2.1, s.2.2.2.2.2.1, s.2.2.2.2.2.2) r j ↔ pu_lc st ld i x s r j := by
            simp only [pu_lc, pk_un hj]
          rw [pk_un hj]
          by_cases h2 : r * 4 + k ≤ j ∧ j < r * 4 + 4 ∧ pu_lc st ld i x s r j
          · rw [if_pos h2, if_pos ⟨by omega, h2.2.1, hq.mpr h2.2.2⟩]
          · rw [if_neg h2, if_neg (fun h3 => h2 ⟨by omega, h3.2.1, hq.mp h3.2.2⟩)]
      have e2 : (fun j => if r * 4 + (k + 1) ≤ j ∧ j < r * 4 + 4 ∧ pu_lc st ld i x (s.1, s.2.1, (upd s.2.2.1 (r * 4 + k) (ld.2.1 (i * 4 + k))), (upd s.2.2.2.1 (r * 4 + k) x), s.2.2.2.2.1, s.2.2.2.2.2.1, s.2.2.2.2.2.2) r j then x else (upd s.2.2.2.1 (r * 4 + k) x) j) = (fun j => if r * 4 + k ≤ j ∧ j < r * 4 + 4 ∧ pu_lc st ld i x s r j then x else s.2.2.2.1 j) := by
        funext j
        by_cases hj : j = r * 4 + k
        · rw [if_neg (by omega), if_pos ⟨by omega, by omega, by rw [hj]; exact hp⟩, hj, pk_us]
        · have hq : pu_lc st ld i x (s.1, s.2.1, (upd s.2.2.1 (r * 4 + k) (ld.2.1 (i * 4 + k))), (upd s.2.2.2.1 (r * 4 + k) x), s.2.2.2.2.1, s.2.2.2.2.2.1, s.2.2.2.2.2.2) r j ↔ pu_lc st ld i x s r j := by
            simp only [pu_lc, pk_un hj]
          rw [pk_un hj]
          by_cases h2 : r * 4 + k ≤ j ∧ j < r * 4 + 4 ∧ pu_lc st ld i x s r j
          · rw [if_pos h2, if_pos ⟨by omega, h2.2.1, hq.mpr h2.2.2⟩]
          · rw [if_neg h2, if_neg (fun h3 => h2 ⟨by omega, h3.2.1, hq.mp h3.2.2⟩)]
      rw [e1, e2]
    simp only [m_X0_layFields_lp13]
    rw [g814 hi hk, g804 hr hk, g804 hr hk, g804 hr hk, s804 hr hk, s804 hr hk]
    by_cases h1 : ld.2.1 (i * 4 + k) = -1
    · rw [if_pos h1, ih (k + 1) _ (by omega)]
      exact skip (fun hp => hp.1 (by rw [hkk]; exact h1))
    · rw [if_neg h1]
      by_cases h2 : s.2.2.2.2.1 (r * 4 + k) = 0
      · rw [if_pos h2]
        by_cases h3 : s.2.2.1 (r * 4 + k) = -1
        · rw [if_pos h3, ih (k + 1) _ (by omega)]
          exact lay ⟨by rw [hkk]; exact h1, h2, Or.inl h3⟩
        · rw [if_neg h3]
          by_cases h4 : m_X5_replaces st (nI k) x (s.2.2.2.1 (r * 4 + k)) = 0
          · rw [if_pos h4, ih (k + 1) _ (by omega)]
            exact skip (fun hp => hp.2.2.elim h3 (fun h5 => h5 (by rw [hkk]; exact h4)))
          · rw [if_neg h4, ih (k + 1) _ (by omega)]
            exact lay ⟨by rw [hkk]; exact h1, h2, Or.inr (by rw [hkk]; exact h4)⟩
      · rw [if_neg h2, ih (k + 1) _ (by omega)]
        exact skip (fun hp => h2 hp.2.1)
theorem pu_layFields {ct : CatS} {st : SetS} {ld : LodS} {i r : Nat} (hi : i < 80) (hr : r < 80) : m_X0_layFields ct st ld (nI i) (nI r) = (ct.1, ct.2.1, (fun j => if r * 4 ≤ j ∧ j < r * 4 + 4 ∧ pu_lc st ld i (ld.2.2.1 i) ct r j then ld.2.1 (i * 4 + (j - r * 4)) else ct.2.2.1 j), (fun j => if r * 4 ≤ j ∧ j < r * 4 + 4 ∧ pu_lc st ld i (ld.2.2.1 i) ct r j then ld.2.2.1 i else ct.2.2.2.1 j), ct.2.2.2.2.1, ct.2.2.2.2.2.1, ct.2.2.2.2.2.2) := by
  show m_X0_layFields_lp13 ct st ld (nI i) (nI r) (m_X4_get 80 ld.2.2.1 (nI i)) 4 0 ct = _
  rw [pu_get hi (by decide)]
  exact pu_layFields_lp (by omega) hr 4 0 ct rfl
