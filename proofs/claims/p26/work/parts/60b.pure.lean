/-! PURE: the history done anew -/
/-- loads below n are the same in both -/
def LE (n : Nat) (ld ld' : LodS) : Prop :=
  ∀ i, i < n → (∀ k, k < 3 → ld'.1 (i * 3 + k) = ld.1 (i * 3 + k)) ∧ (∀ k, k < 4 → ld'.2.1 (i * 4 + k) = ld.2.1 (i * 4 + k)) ∧ ld'.2.2.1 i = ld.2.2.1 i ∧ ∃ x, x < 10 ∧ ld.2.2.2.1 i = nI x ∧ ld'.2.2.2.1 i = nI x ∧ ld'.2.2.2.2.1 x = ld.2.2.2.2.1 x ∧ (ld.2.2.2.2.1 x = 0 ∨ ld.2.2.2.2.1 x = 1)
theorem tg_lp {c : CatS} {st : SetS} {ld ld' : LodS} {i : Nat} (hi : i < 80) (hO : ∀ k, k < 3 → ∃ o, o < 3 ∧ st.2.2 k = nI o) (hk : ∀ k, k < 3 → ld'.1 (i * 3 + k) = ld.1 (i * 3 + k)) : ∀ (q k : Nat), k + q = 3 → m_X0_target_lp3 c st ld' (nI i) q k = m_X0_target_lp3 c st ld (nI i) q k := by
  intro q
  induction q with
  | zero => intro k _; rfl
  | succ q ih =>
    intro k h3
    obtain ⟨o, ho, ho2⟩ := hO k (by omega)
    simp only [m_X0_target_lp3]
    rw [pu_get (show k < 3 by omega) (by decide), ho2, g813 (by omega) ho, g813 (by omega) ho, hk o ho, ih (k + 1) (by omega)]
/-- -2, or a record -/
theorem tg_range {m hh n b i : Nat} {c : CatS} {u : MdlS} {st : SetS} {ld : LodS} (h : CR m hh c u) (hL : LR n b st ld u) (hi : i < n) : m_X0_target c st ld (nI i) = -2 ∨ ∃ r, r < 80 ∧ m_X0_target c st ld (nI i) = nI r := by
  have hn := hL.1
  obtain ⟨R, -, hc⟩ := tm_lp h hL hi 3 0 rfl
  rcases hc with ⟨-, h2⟩ | ⟨-, h2⟩ | ⟨r, hr, -, -, h2⟩
  · exact Or.inr ⟨i, by omega, h2⟩
  · exact Or.inl h2
  · exact Or.inr ⟨r, hr, h2⟩
theorem tk_same {m hh n b i : Nat} {c : CatS} {u : MdlS} {st : SetS} {ld ld' : LodS} (h : CR m hh c u) (hL : LR n b st ld u) (hi : i < n) (hE : LE n ld ld') : m_X0_take c st ld' (nI i) = m_X0_take c st ld (nI i) := by
  have hn := hL.1
  have hi80 : i < 80 := by omega
  have hO : ∀ k, k < 3 → ∃ o, o < 3 ∧ st.2.2 k = nI o := fun k hk => (hL.2.2.2.2.1 k hk).2
  obtain ⟨e1, e2, e3, x, hx, e4, e5, e6, e7⟩ := hE i hi
  have ht : m_X0_target c st ld' (nI i) = m_X0_target c st ld (nI i) := tg_lp hi80 hO e1 3 0 rfl
  by_cases hout : ld.2.2.2.2.1 x = 1
  · rw [pu_take_out hi80 hx e4 hout, pu_take_out hi80 hx e5 (e6.trans hout)]
  · have hout' : ¬ ld'.2.2.2.2.1 x = 1 := by rw [e6]; exact hout
    rcases tg_range h hL hi with h2 | ⟨r, hr, h2⟩
    · rw [pu_take_neg hi80 hx e4 hout h2, pu_take_neg hi80 hx e5 hout' (ht.trans h2)]
    · rw [pu_take_rec hi80 hx e4 hout hr h2, pu_take_rec hi80 hx e5 hout' hr (ht.trans h2)]
      have f1 : (fun j => if r * 3 ≤ j ∧ j < r * 3 + 3 ∧ c.2.1 j = -1 then ld'.1 (i * 3 + (j - r * 3)) else c.2.1 j) = (fun j => if r * 3 ≤ j ∧ j < r * 3 + 3 ∧ c.2.1 j = -1 then ld.1 (i * 3 + (j - r * 3)) else c.2.1 j) := by
        funext j
        by_cases hc : r * 3 ≤ j ∧ j < r * 3 + 3 ∧ c.2.1 j = -1
        · rw [if_pos hc, if_pos hc]; exact e1 _ (by omega)
        · rw [if_neg hc, if_neg hc]
      have hp : ∀ j, r * 4 ≤ j ∧ j < r * 4 + 4 → (pu_lc st ld' i (ld'.2.2.1 i) c r j ↔ pu_lc st ld i (ld.2.2.1 i) c r j) := fun j hj => by
        unfold pu_lc
        rw [e2 (j - r * 4) (by omega), e3]
      have f2 : (fun j => if r * 4 ≤ j ∧ j < r * 4 + 4 ∧ pu_lc st ld' i (ld'.2.2.1 i) c r j then ld'.2.1 (i * 4 + (j - r * 4)) else c.2.2.1 j) = (fun j => if r * 4 ≤ j ∧ j < r * 4 + 4 ∧ pu_lc st ld i (ld.2.2.1 i) c r j then ld.2.1 (i * 4 + (j - r * 4)) else c.2.2.1 j) := by
        funext j
        by_cases hc : r * 4 ≤ j ∧ j < r * 4 + 4 ∧ pu_lc st ld i (ld.2.2.1 i) c r j
        · rw [if_pos hc, if_pos ⟨hc.1, hc.2.1, (hp j ⟨hc.1, hc.2.1⟩).mpr hc.2.2⟩]; exact e2 _ (by omega)
        · rw [if_neg hc, if_neg (fun h9 => hc ⟨h9.1, h9.2.1, (hp j ⟨h9.1, h9.2.1⟩).mp h9.2.2⟩)]
      have f3 : (fun j => if r * 4 ≤ j ∧ j < r * 4 + 4 ∧ pu_lc st ld' i (ld'.2.2.1 i) c r j then ld'.2.2.1 i else c.2.2.2.1 j) = (fun j => if r * 4 ≤ j ∧ j < r * 4 + 4 ∧ pu_lc st ld i (ld.2.2.1 i) c r j then ld.2.2.1 i else c.2.2.2.1 j) := by
        funext j
        by_cases hc : r * 4 ≤ j ∧ j < r * 4 + 4 ∧ pu_lc st ld i (ld.2.2.1 i) c r j
        · rw [if_pos hc, if_pos ⟨hc.1, hc.2.1, (hp j ⟨hc.1, hc.2.1⟩).mpr hc.2.2⟩]; exact e3
        · rw [if_neg hc, if_neg (fun h9 => hc ⟨h9.1, h9.2.1, (hp j ⟨h9.1, h9.2.1⟩).mp h9.2.2⟩)]
      rw [f1, f2, f3]
/-- the cleared catalogue -/
def c00 : CatS := (fun _ => 0, fun j => if j < 240 then -1 else 0, fun j => if j < 320 then -1 else 0, fun j => if j < 320 then -1 else 0, fun _ => 0, fun _ => 0, fun j => if j < 80 then -1 else 0)
/-- nothing beyond the arrays -/
def JZ (c : CatS) : Prop := (∀ j, 80 ≤ j → c.1 j = 0) ∧ (∀ j, 240 ≤ j → c.2.1 j = 0) ∧ (∀ j, 320 ≤ j → c.2.2.1 j = 0) ∧ (∀ j, 320 ≤ j → c.2.2.2.1 j = 0) ∧ (∀ j, 320 ≤ j → c.2.2.2.2.1 j = 0) ∧ (∀ j, 80 ≤ j → c.2.2.2.2.2.1 j = 0) ∧ (∀ j, 80 ≤ j → c.2.2.2.2.2.2 j = 0)
theorem fl_z {n : Nat} {f : FI} {v : Int32} (hn : n < 2147483648) (h : ∀ j, n ≤ j → f j = 0) : m_J7_fill_53178 n f v = fun j => if j < n then v else 0 := by
  rw [pu_fill hn]
  funext j
  by_cases hj : j < n
  · rw [if_pos hj, if_pos hj]
  · rw [if_neg hj, if_neg hj]; exact h j (by omega)
theorem if_z {n : Nat} : (fun j : Nat => if j < n then (0 : Int32) else 0) = fun _ => 0 := by
  funext j
  by_cases hj : j < n
  · rw [if_pos hj]
  · rw [if_neg hj]
theorem cl_c00 {c : CatS} (h : JZ c) : m_X0_clear c = c00 := by
  obtain ⟨h1, h2, h3, h4, h5, h6, h7⟩ := h
  unfold m_X0_clear m_X4_fill m_X1_fill c00
  rw [fl_z (by decide) h1, fl_z (by decide) h2, fl_z (by decide) h3, fl_z (by decide) h4, fl_z (by decide) h5, fl_z (by decide) h6, fl_z (by decide) h7, if_z, if_z]
theorem JZ.c0 : JZ c00 := ⟨fun _ _ => rfl, fun j hj => if_neg (by omega), fun j hj => if_neg (by omega), fun j hj => if_neg (by omega), fun _ _ => rfl, fun _ _ => rfl, fun j hj => if_neg (by omega)⟩
