/-! PURE: merging, protecting, holding; a load's effect in its three cases -/
theorem pu_2 {α : Type} {F F' G G' : FI} (f : FI → FI → α) (h1 : F = F') (h2 : G = G') : f F G = f F' G' := by rw [h1, h2]
theorem pu_3 {α : Type} {F F' G G' K K' : FI} (f : FI → FI → FI → α) (h1 : F = F') (h2 : G = G') (h3 : K = K') : f F G K = f F' G' K' := by rw [h1, h2, h3]
theorem pu_join20 {ct : CatS} {r o : Nat} (hr : r < 80) (ho : o < 80) (hne : r ≠ o) : ∀ (n k : Nat) (s : CatS), k + n = 3 → m_X0_join_lp20 ct (nI r) (nI o) n k s = (s.1, (fun j => if o * 3 + k ≤ j ∧ j < o * 3 + 3 ∧ s.2.1 j = -1 then s.2.1 (r * 3 + (j - o * 3)) else s.2.1 j), s.2.2.1, s.2.2.2.1, s.2.2.2.2.1, s.2.2.2.2.2.1, s.2.2.2.2.2.2) := by
  intro n
  induction n with
  | zero =>
    intro k s h
    have e : (fun j => if o * 3 + k ≤ j ∧ j < o * 3 + 3 ∧ s.2.1 j = -1 then s.2.1 (r * 3 + (j - o * 3)) else s.2.1 j) = s.2.1 := by
      funext j; rw [if_neg (by omega)]
    rw [e]
    rfl
  | succ n ih =>
    intro k s h
    have hk : k < 3 := by omega
    simp only [m_X0_join_lp20]
    rw [g803 ho hk, g803 hr hk, s803 ho hk]
    by_cases hc : s.2.1 (o * 3 + k) = -1
    · rw [if_pos hc, ih (k + 1) _ (by omega)]
      have e : (fun j => if o * 3 + (k + 1) ≤ j ∧ j < o * 3 + 3 ∧ (upd s.2.1 (o * 3 + k) (s.2.1 (r * 3 + k))) j = -1 then (upd s.2.1 (o * 3 + k) (s.2.1 (r * 3 + k))) (r * 3 + (j - o * 3)) else (upd s.2.1 (o * 3 + k) (s.2.1 (r * 3 + k))) j) = (fun j => if o * 3 + k ≤ j ∧ j < o * 3 + 3 ∧ s.2.1 j = -1 then s.2.1 (r * 3 + (j - o * 3)) else s.2.1 j) := by
        funext j
        by_cases hj : j = o * 3 + k
        · rw [if_neg (by omega), if_pos ⟨by omega, by omega, by rw [hj]; exact hc⟩, hj, pk_us, show o * 3 + k - o * 3 = k by omega]
        · rw [pk_un hj]
          by_cases h2 : o * 3 + k ≤ j ∧ j < o * 3 + 3 ∧ s.2.1 j = -1
          · rw [if_pos h2, if_pos ⟨by omega, h2.2.1, h2.2.2⟩, pk_un (by omega)]
          · rw [if_neg h2, if_neg (fun h3 => h2 ⟨by omega, h3.2.1, h3.2.2⟩)]
      exact congrArg (fun F : FI => ((s.1, (F), s.2.2.1, s.2.2.2.1, s.2.2.2.2.1, s.2.2.2.2.2.1, s.2.2.2.2.2.2) : CatS)) e
    · rw [if_neg hc, ih (k + 1) _ (by omega)]
      have e : (fun j => if o * 3 + (k + 1) ≤ j ∧ j < o * 3 + 3 ∧ s.2.1 j = -1 then s.2.1 (r * 3 + (j - o * 3)) else s.2.1 j) = (fun j => if o * 3 + k ≤ j ∧ j < o * 3 + 3 ∧ s.2.1 j = -1 then s.2.1 (r * 3 + (j - o * 3)) else s.2.1 j) := by
        funext j
        by_cases h2 : o * 3 + k ≤ j ∧ j < o * 3 + 3 ∧ s.2.1 j = -1
        · have hj : j ≠ o * 3 + k := fun h3 => hc (by rw [← h3]; exact h2.2.2)
          rw [if_pos h2, if_pos ⟨by omega, h2.2.1, h2.2.2⟩]
        · rw [if_neg h2, if_neg (fun h3 => h2 ⟨by omega, h3.2.1, h3.2.2⟩)]
      exact congrArg (fun F : FI => ((s.1, (F), s.2.2.1, s.2.2.2.1, s.2.2.2.2.1, s.2.2.2.2.2.1, s.2.2.2.2.2.2) : CatS)) e
theorem pu_join64 {ct fin : CatS} {r o : Nat} (hr : r < 80) (ho : o < 80) (hne : r ≠ o) : ∀ (n k : Nat) (s : CatS), k + n = 4 → m_X0_join_lp64 ct (nI r) (nI o) fin n k s = (s.1, s.2.1, (fun j => if o * 4 + k ≤ j ∧ j < o * 4 + 4 ∧ s.2.2.1 j = -1 then s.2.2.1 (r * 4 + (j - o * 4)) else s.2.2.1 j), (fun j => if o * 4 + k ≤ j ∧ j < o * 4 + 4 ∧ s.2.2.1 j = -1 then s.2.2.2.1 (r * 4 + (j - o * 4)) else s.2.2.2.1 j), s.2.2.2.2.1, s.2.2.2.2.2.1, s.2.2.2.2.2.2) := by
  intro n
  induction n with
  | zero =>
    intro k s h
    have e1 : (fun j => if o * 4 + k ≤ j ∧ j < o * 4 + 4 ∧ s.2.2.1 j = -1 then s.2.2.1 (r * 4 + (j - o * 4)) else s.2.2.1 j) = s.2.2.1 := by
      funext j; rw [if_neg (by omega)]
    have e2 : (fun j => if o * 4 + k ≤ j ∧ j < o * 4 + 4 ∧ s.2.2.1 j = -1 then s.2.2.2.1 (r * 4 + (j - o * 4)) else s.2.2.2.1 j) = s.2.2.2.1 := by
      funext j; rw [if_neg (by omega)]
    rw [e1, e2]
    rfl
  | succ n ih =>
    intro k s h
    have hk : k < 4 := by omega
    simp only [m_X0_join_lp64]
    rw [g804 ho hk, g804 hr hk, g804 hr hk, s804 ho hk, s804 ho hk]
    by_cases hc : s.2.2.1 (o * 4 + k) = -1
    · rw [if_pos hc, ih (k + 1) _ (by omega)]
      have e1 : (fun j => if o * 4 + (k + 1) ≤ j ∧ j < o * 4 + 4 ∧ (upd s.2.2.1 (o * 4 + k) (s.2.2.1 (r * 4 + k))) j = -1 then (upd s.2.2.1 (o * 4 + k) (s.2.2.1 (r * 4 + k))) (r * 4 + (j - o * 4)) else (upd s.2.2.1 (o * 4 + k) (s.2.2.1 (r * 4 + k))) j) = (fun j => if o * 4 + k ≤ j ∧ j < o * 4 + 4 ∧ s.2.2.1 j = -1 then s.2.2.1 (r * 4 + (j - o * 4)) else s.2.2.1 j) := by
        funext j
        by_cases hj : j = o * 4 + k
        · rw [if_neg (by omega), if_pos ⟨by omega, by omega, by rw [hj]; exact hc⟩, hj, pk_us, show o * 4 + k - o * 4 = k by omega]
        · rw [pk_un hj]
          by_cases h2 : o * 4 + k ≤ j ∧ j < o * 4 + 4 ∧ s.2.2.1 j = -1
          · rw [if_pos h2, if_pos ⟨by omega, h2.2.1, h2.2.2⟩, pk_un (by omega)]
          · rw [if_neg h2, if_neg (fun h3 => h2 ⟨by omega, h3.2.1, h3.2.2⟩)]
      have e2 : (fun j => if o * 4 + (k + 1) ≤ j ∧ j < o * 4 + 4 ∧ (upd s.2.2.1 (o * 4 + k) (s.2.2.1 (r * 4 + k))) j = -1 then (upd s.2.2.2.1 (o * 4 + k) (s.2.2.2.1 (r * 4 + k))) (r * 4 + (j - o * 4)) else (upd s.2.2.2.1 (o * 4 + k) (s.2.2.2.1 (r * 4 + k))) j) = (fun j => if o * 4 + k ≤ j ∧ j < o * 4 + 4 ∧ s.2.2.1 j = -1 then s.2.2.2.1 (r * 4 + (j - o * 4)) else s.2.2.2.1 j) := by
        funext j
        by_cases hj : j = o * 4 + k
        · rw [if_neg (by omega), if_pos ⟨by omega, by omega, by rw [hj]; exact hc⟩, hj, pk_us, show o * 4 + k - o * 4 = k by omega]
        · rw [pk_un hj, pk_un hj]
          by_cases h2 : o * 4 + k ≤ j ∧ j < o * 4 + 4 ∧ s.2.2.1 j = -1
          · rw [if_pos h2, if_pos ⟨by omega, h2.2.1, h2.2.2⟩, pk_un (by omega)]
          · rw [if_neg h2, if_neg (fun h3 => h2 ⟨by omega, h3.2.1, h3.2.2⟩)]
      exact pu_2 (fun (F G : FI) => ((s.1, s.2.1, (F), (G), s.2.2.2.2.1, s.2.2.2.2.2.1, s.2.2.2.2.2.2) : CatS)) e1 e2
    · rw [if_neg hc, ih (k + 1) _ (by omega)]
      have hiff : ∀ j, (o * 4 + (k + 1) ≤ j ∧ j < o * 4 + 4 ∧ s.2.2.1 j = -1) ↔ (o * 4 + k ≤ j ∧ j < o * 4 + 4 ∧ s.2.2.1 j = -1) := fun j =>
        ⟨fun h3 => ⟨by omega, h3.2⟩, fun h3 => ⟨by
          have : j ≠ o * 4 + k := fun h4 => hc (h4 ▸ h3.2.2)
          omega, h3.2⟩⟩
      simp only [hiff]
theorem pu_has {ct : CatS} {r : Nat} (hr : r < 80) : m_X0_has ct (nI r) = if ct.1 r = 1 then 1 else 0 := by
  unfold m_X0_has
  rw [pu_get hr (by decide)]
theorem pu_has1 {ct : CatS} {r : Nat} (hr : r < 80) (h : ct.1 r = 1) : ¬ m_X0_has ct (nI r) = 0 := by
  rw [pu_has hr, if_pos h]; decide
theorem pu_has0 {ct : CatS} {r : Nat} (hr : r < 80) (h : ¬ ct.1 r = 1) : m_X0_has ct (nI r) = 0 := by
  rw [pu_has hr, if_neg h]
theorem pu_hold1 {ct : CatS} {r : Nat} {more : Int32} (hr : r < 80) (h : ct.1 r = 1) : m_X0_addHoldings ct (nI r) more = ((ct.1, ct.2.1, ct.2.2.1, ct.2.2.2.1, ct.2.2.2.2.1, (upd ct.2.2.2.2.2.1 r (ct.2.2.2.2.2.1 r + more)), ct.2.2.2.2.2.2), ct.2.2.2.2.2.1 r + more) := by
  unfold m_X0_addHoldings
  rw [if_neg (pu_has1 hr h), pu_get hr (by decide), pu_set hr (by decide), pu_get hr (by decide), pk_us]
theorem pu_hold0 {ct : CatS} {r : Nat} {more : Int32} (hr : r < 80) (h : ¬ ct.1 r = 1) : m_X0_addHoldings ct (nI r) more = (ct, 0) := by
  unfold m_X0_addHoldings
  rw [if_pos (pu_has0 hr h)]
theorem pu_guard1 {ct : CatS} {r f : Nat} {flag : Int32} (hr : r < 80) (hf : f < 4) (h : ct.1 r = 1) : m_X0_guard ct (nI r) (nI f) flag = ((ct.1, ct.2.1, ct.2.2.1, ct.2.2.2.1, (upd ct.2.2.2.2.1 (r * 4 + f) flag), ct.2.2.2.2.2.1, ct.2.2.2.2.2.2), ct.2.2.2.2.1 (r * 4 + f)) := by
  unfold m_X0_guard
  rw [if_neg (pu_has1 hr h), g804 hr hf, s804 hr hf]
theorem pu_guard0 {ct : CatS} {r : Nat} {f flag : Int32} (hr : r < 80) (h : ¬ ct.1 r = 1) : m_X0_guard ct (nI r) f flag = (ct, 0) := by
  unfold m_X0_guard
  rw [if_pos (pu_has0 hr h)]
theorem pu_join1 {ct : CatS} {r o : Nat} (hr : r < 80) (ho : o < 80) (hne : r ≠ o) (h1 : ct.1 r = 1) (h2 : ct.1 o = 1) : m_X0_join ct (nI r) (nI o) = (((upd ct.1 r 0), (fun j => if o * 3 ≤ j ∧ j < o * 3 + 3 ∧ ct.2.1 j = -1 then ct.2.1 (r * 3 + (j - o * 3)) else ct.2.1 j), (fun j => if o * 4 ≤ j ∧ j < o * 4 + 4 ∧ ct.2.2.1 j = -1 then ct.2.2.1 (r * 4 + (j - o * 4)) else ct.2.2.1 j), (fun j => if o * 4 ≤ j ∧ j < o * 4 + 4 ∧ ct.2.2.1 j = -1 then ct.2.2.2.1 (r * 4 + (j - o * 4)) else ct.2.2.2.1 j), ct.2.2.2.2.1, (upd ct.2.2.2.2.2.1 o (ct.2.2.2.2.2.1 o + ct.2.2.2.2.2.1 r)), ct.2.2.2.2.2.2), ct.2.2.2.2.2.1 o + ct.2.2.2.2.2.1 r) := by
  unfold m_X0_join
  rw [if_neg (pu_has1 hr h1), if_neg (pu_has1 ho h2), pu_join20 hr ho hne 3 0 ct rfl]
  dsimp only
  rw [pu_join64 hr ho hne 4 0 _ rfl]
  dsimp only
  rw [pu_set hr (by decide), pu_get hr (by decide), pu_hold1 ho (by show upd ct.1 r 0 o = 1; rw [pk_un (Ne.symm hne)]; exact h2)]
  rfl
theorem pu_join0 {ct : CatS} {r : Nat} {o : Int32} (hr : r < 80) (h : ¬ ct.1 r = 1) : m_X0_join ct (nI r) o = (ct, 0) := by
  unfold m_X0_join
  rw [if_pos (pu_has0 hr h)]
theorem pu_join0' {ct : CatS} {r o : Nat} (hr : r < 80) (ho : o < 80) (h1 : ct.1 r = 1) (h : ¬ ct.1 o = 1) : m_X0_join ct (nI r) (nI o) = (ct, 0) := by
  unfold m_X0_join
  rw [if_neg (pu_has1 hr h1), if_pos (pu_has0 ho h)]
theorem pu_out {ld : LodS} {i x : Nat} (hi : i < 80) (hx : x < 10) (hb : ld.2.2.2.1 i = nI x) : m_X3_isLeftOut ld (nI i) = if ld.2.2.2.2.1 x = 1 then 1 else 0 := by
  unfold m_X3_isLeftOut
  rw [pu_get hi (by decide), hb, pu_get hx (by decide)]
theorem pu_take_out {ct : CatS} {st : SetS} {ld : LodS} {i x : Nat} (hi : i < 80) (hx : x < 10) (hb : ld.2.2.2.1 i = nI x) (h : ld.2.2.2.2.1 x = 1) : m_X0_take ct st ld (nI i) = ((ct.1, ct.2.1, ct.2.2.1, ct.2.2.2.1, ct.2.2.2.2.1, ct.2.2.2.2.2.1, (upd ct.2.2.2.2.2.2 i (-1))), -1) := by
  unfold m_X0_take
  rw [pu_out hi hx hb, if_pos h, if_neg (by decide), pu_set hi (by decide)]
theorem pu_take_neg {ct : CatS} {st : SetS} {ld : LodS} {i x : Nat} (hi : i < 80) (hx : x < 10) (hb : ld.2.2.2.1 i = nI x) (h : ¬ ld.2.2.2.2.1 x = 1) (ht : m_X0_target ct st ld (nI i) = -2) : m_X0_take ct st ld (nI i) = ((ct.1, ct.2.1, ct.2.2.1, ct.2.2.2.1, ct.2.2.2.2.1, ct.2.2.2.2.2.1, (upd ct.2.2.2.2.2.2 i (-2))), -2) := by
  unfold m_X0_take
  rw [pu_out hi hx hb, if_neg h, if_pos rfl, ht]
  dsimp only
  rw [if_pos (by decide), pu_set hi (by decide)]
theorem pu_take_rec {ct : CatS} {st : SetS} {ld : LodS} {i x r : Nat} (hi : i < 80) (hx : x < 10) (hb : ld.2.2.2.1 i = nI x) (h : ¬ ld.2.2.2.2.1 x = 1) (hr : r < 80) (ht : m_X0_target ct st ld (nI i) = nI r) : m_X0_take ct st ld (nI i) = (((upd ct.1 r 1), (fun j => if r * 3 ≤ j ∧ j < r * 3 + 3 ∧ ct.2.1 j = -1 then ld.1 (i * 3 + (j - r * 3)) else ct.2.1 j), (fun j => if r * 4 ≤ j ∧ j < r * 4 + 4 ∧ pu_lc st ld i (ld.2.2.1 i) ct r j then ld.2.1 (i * 4 + (j - r * 4)) else ct.2.2.1 j), (fun j => if r * 4 ≤ j ∧ j < r * 4 + 4 ∧ pu_lc st ld i (ld.2.2.1 i) ct r j then ld.2.2.1 i else ct.2.2.2.1 j), ct.2.2.2.2.1, ct.2.2.2.2.2.1, (upd ct.2.2.2.2.2.2 i (nI r))), nI r) := by
  unfold m_X0_take
  rw [pu_out hi hx hb, if_neg h, if_pos rfl, ht]
  dsimp only
  rw [if_neg (nI_pos (by omega)), pu_set hr (by decide), pu_layKeys (by omega) hr, pu_layFields hi hr, pu_set hi (by decide)]
