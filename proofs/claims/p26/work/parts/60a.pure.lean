/-! PURE: an act, in the class and in the reference -/
theorem CR.guard {m h r f : Nat} {v : Int32} {c : CatS} {u : MdlS} (k : CR m h c u) (hr : r < 80) (hf : f < 4) (ht : c.1 r = 1) (hv : v = 0 ∨ v = 1) : CR m h (c.1, c.2.1, c.2.2.1, c.2.2.2.1, (upd c.2.2.2.2.1 (r * 4 + f) v), c.2.2.2.2.2.1, c.2.2.2.2.2.2) (u.1, u.2.1, u.2.2.1, u.2.2.2.1, u.2.2.2.2.1, u.2.2.2.2.2.1, u.2.2.2.2.2.2.1, u.2.2.2.2.2.2.2.1, u.2.2.2.2.2.2.2.2.1, u.2.2.2.2.2.2.2.2.2.1, u.2.2.2.2.2.2.2.2.2.2.1, u.2.2.2.2.2.2.2.2.2.2.2.1, u.2.2.2.2.2.2.2.2.2.2.2.2.1, u.2.2.2.2.2.2.2.2.2.2.2.2.2.1, u.2.2.2.2.2.2.2.2.2.2.2.2.2.2.1, u.2.2.2.2.2.2.2.2.2.2.2.2.2.2.2.1, u.2.2.2.2.2.2.2.2.2.2.2.2.2.2.2.2.1, u.2.2.2.2.2.2.2.2.2.2.2.2.2.2.2.2.2.1, u.2.2.2.2.2.2.2.2.2.2.2.2.2.2.2.2.2.2.1, u.2.2.2.2.2.2.2.2.2.2.2.2.2.2.2.2.2.2.2.1, u.2.2.2.2.2.2.2.2.2.2.2.2.2.2.2.2.2.2.2.2.1, u.2.2.2.2.2.2.2.2.2.2.2.2.2.2.2.2.2.2.2.2.2.1, (upd u.2.2.2.2.2.2.2.2.2.2.2.2.2.2.2.2.2.2.2.2.2.2.1 (r * 4 + f) v), u.2.2.2.2.2.2.2.2.2.2.2.2.2.2.2.2.2.2.2.2.2.2.2.1, u.2.2.2.2.2.2.2.2.2.2.2.2.2.2.2.2.2.2.2.2.2.2.2.2) := by
  obtain ⟨h1, h2, h3, h4, h5, h6⟩ := k
  refine ⟨h1, fun r' hr' ht' => ?_, h3, fun r' hr1 hr2 => ?_, fun j hj => ?_, h6⟩
  · obtain ⟨q1, q2, q3⟩ := h2 r' hr' ht'
    refine ⟨q1, fun x hx => ?_, q3⟩
    obtain ⟨g1, g2, g3⟩ := q2 x hx
    refine ⟨g1, g2, ?_⟩
    show upd c.2.2.2.2.1 (r * 4 + f) v (r' * 4 + x) = upd u.2.2.2.2.2.2.2.2.2.2.2.2.2.2.2.2.2.2.2.2.2.2.1 (r * 4 + f) v (r' * 4 + x)
    by_cases e : r' * 4 + x = r * 4 + f
    · rw [e, pk_us, pk_us]
    · rw [pk_un e, pk_un e]; exact g3
  · obtain ⟨q1, q2, q3, q4⟩ := h4 r' hr1 hr2
    refine ⟨q1, q2, fun x hx => ?_, q4⟩
    obtain ⟨g1, g2, g3⟩ := q3 x hx
    refine ⟨g1, g2, ?_⟩
    show upd c.2.2.2.2.1 (r * 4 + f) v (r' * 4 + x) = 0
    have hne : r' ≠ r := fun e => by subst e; rw [ht] at q1; exact absurd q1 (by decide)
    rw [pk_un (by omega)]; exact g3
  · obtain ⟨q1, q2, q3⟩ := h5 j hj
    refine ⟨q1, ?_, q3⟩
    show upd c.2.2.2.2.1 (r * 4 + f) v j = 0 ∨ upd c.2.2.2.2.1 (r * 4 + f) v j = 1
    by_cases e : j = r * 4 + f
    · rw [e, pk_us]; exact hv
    · rw [pk_un e]; exact q2
theorem CR.held {m h r : Nat} {c : CatS} {u : MdlS} (k : CR m h c u) (hr : r < 80) (ht : c.1 r = 1) : CR m h (c.1, c.2.1, c.2.2.1, c.2.2.2.1, c.2.2.2.2.1, (upd c.2.2.2.2.2.1 r (c.2.2.2.2.2.1 r + 1)), c.2.2.2.2.2.2) (u.1, u.2.1, u.2.2.1, u.2.2.2.1, u.2.2.2.2.1, u.2.2.2.2.2.1, u.2.2.2.2.2.2.1, u.2.2.2.2.2.2.2.1, u.2.2.2.2.2.2.2.2.1, u.2.2.2.2.2.2.2.2.2.1, u.2.2.2.2.2.2.2.2.2.2.1, u.2.2.2.2.2.2.2.2.2.2.2.1, u.2.2.2.2.2.2.2.2.2.2.2.2.1, u.2.2.2.2.2.2.2.2.2.2.2.2.2.1, u.2.2.2.2.2.2.2.2.2.2.2.2.2.2.1, u.2.2.2.2.2.2.2.2.2.2.2.2.2.2.2.1, u.2.2.2.2.2.2.2.2.2.2.2.2.2.2.2.2.1, u.2.2.2.2.2.2.2.2.2.2.2.2.2.2.2.2.2.1, u.2.2.2.2.2.2.2.2.2.2.2.2.2.2.2.2.2.2.1, u.2.2.2.2.2.2.2.2.2.2.2.2.2.2.2.2.2.2.2.1, u.2.2.2.2.2.2.2.2.2.2.2.2.2.2.2.2.2.2.2.2.1, u.2.2.2.2.2.2.2.2.2.2.2.2.2.2.2.2.2.2.2.2.2.1, u.2.2.2.2.2.2.2.2.2.2.2.2.2.2.2.2.2.2.2.2.2.2.1, (upd u.2.2.2.2.2.2.2.2.2.2.2.2.2.2.2.2.2.2.2.2.2.2.2.1 r (u.2.2.2.2.2.2.2.2.2.2.2.2.2.2.2.2.2.2.2.2.2.2.2.1 r + 1)), u.2.2.2.2.2.2.2.2.2.2.2.2.2.2.2.2.2.2.2.2.2.2.2.2) := by
  obtain ⟨h1, h2, h3, h4, h5, h6⟩ := k
  refine ⟨h1, fun r' hr' ht' => ?_, h3, fun r' hr1 hr2 => ?_, h5, h6⟩
  · obtain ⟨q1, q2, q3⟩ := h2 r' hr' ht'
    refine ⟨q1, q2, ?_⟩
    show upd c.2.2.2.2.2.1 r (c.2.2.2.2.2.1 r + 1) r' = upd u.2.2.2.2.2.2.2.2.2.2.2.2.2.2.2.2.2.2.2.2.2.2.2.1 r (u.2.2.2.2.2.2.2.2.2.2.2.2.2.2.2.2.2.2.2.2.2.2.2.1 r + 1) r'
    by_cases e : r' = r
    · rw [e, pk_us, pk_us, (h2 r hr ht).2.2]
    · rw [pk_un e, pk_un e]; exact q3
  · obtain ⟨q1, q2, q3, q4⟩ := h4 r' hr1 hr2
    refine ⟨q1, q2, q3, ?_⟩
    have hne : r' ≠ r := fun e => by subst e; rw [ht] at q1; exact absurd q1 (by decide)
    show upd c.2.2.2.2.2.1 r (c.2.2.2.2.2.1 r + 1) r' = 0
    rw [pk_un hne]; exact q4
theorem CR.joined {m h r o : Nat} {c : CatS} {u : MdlS} (k : CR m h c u) (hr : r < 80) (ho : o < 80) (hne : r ≠ o) (ht : c.1 r = 1) (hto : c.1 o = 1) :
    CR m h ((upd c.1 r 0), (fun j => if o * 3 ≤ j ∧ j < o * 3 + 3 ∧ c.2.1 j = -1 then c.2.1 (r * 3 + (j - o * 3)) else c.2.1 j), (fun j => if o * 4 ≤ j ∧ j < o * 4 + 4 ∧ c.2.2.1 j = -1 then c.2.2.1 (r * 4 + (j - o * 4)) else c.2.2.1 j), (fun j => if o * 4 ≤ j ∧ j < o * 4 + 4 ∧ c.2.2.1 j = -1 then c.2.2.2.1 (r * 4 + (j - o * 4)) else c.2.2.2.1 j), c.2.2.2.2.1, (upd c.2.2.2.2.2.1 o (c.2.2.2.2.2.1 o + c.2.2.2.2.2.1 r)), c.2.2.2.2.2.2)
      (u.1, u.2.1, u.2.2.1, u.2.2.2.1, u.2.2.2.2.1, u.2.2.2.2.2.1, u.2.2.2.2.2.2.1, u.2.2.2.2.2.2.2.1, u.2.2.2.2.2.2.2.2.1, u.2.2.2.2.2.2.2.2.2.1, u.2.2.2.2.2.2.2.2.2.2.1, u.2.2.2.2.2.2.2.2.2.2.2.1, u.2.2.2.2.2.2.2.2.2.2.2.2.1, u.2.2.2.2.2.2.2.2.2.2.2.2.2.1, u.2.2.2.2.2.2.2.2.2.2.2.2.2.2.1, u.2.2.2.2.2.2.2.2.2.2.2.2.2.2.2.1, u.2.2.2.2.2.2.2.2.2.2.2.2.2.2.2.2.1, u.2.2.2.2.2.2.2.2.2.2.2.2.2.2.2.2.2.1, (upd u.2.2.2.2.2.2.2.2.2.2.2.2.2.2.2.2.2.2.1 r 0), (fun j => if o * 3 ≤ j ∧ j < o * 3 + 3 ∧ u.2.2.2.2.2.2.2.2.2.2.2.2.2.2.2.2.2.2.2.1 j = -1 then u.2.2.2.2.2.2.2.2.2.2.2.2.2.2.2.2.2.2.2.1 (r * 3 + (j - o * 3)) else u.2.2.2.2.2.2.2.2.2.2.2.2.2.2.2.2.2.2.2.1 j), (fun j => if o * 4 ≤ j ∧ j < o * 4 + 4 ∧ u.2.2.2.2.2.2.2.2.2.2.2.2.2.2.2.2.2.2.2.2.1 j = -1 then u.2.2.2.2.2.2.2.2.2.2.2.2.2.2.2.2.2.2.2.2.1 (r * 4 + (j - o * 4)) else u.2.2.2.2.2.2.2.2.2.2.2.2.2.2.2.2.2.2.2.2.1 j), (fun j => if o * 4 ≤ j ∧ j < o * 4 + 4 ∧ u.2.2.2.2.2.2.2.2.2.2.2.2.2.2.2.2.2.2.2.2.1 j = -1 then u.2.2.2.2.2.2.2.2.2.2.2.2.2.2.2.2.2.2.2.2.2.1 (r * 4 + (j - o * 4)) else u.2.2.2.2.2.2.2.2.2.2.2.2.2.2.2.2.2.2.2.2.2.1 j), u.2.2.2.2.2.2.2.2.2.2.2.2.2.2.2.2.2.2.2.2.2.2.1, (upd u.2.2.2.2.2.2.2.2.2.2.2.2.2.2.2.2.2.2.2.2.2.2.2.1 o (u.2.2.2.2.2.2.2.2.2.2.2.2.2.2.2.2.2.2.2.2.2.2.2.1 o + u.2.2.2.2.2.2.2.2.2.2.2.2.2.2.2.2.2.2.2.2.2.2.2.1 r)), u.2.2.2.2.2.2.2.2.2.2.2.2.2.2.2.2.2.2.2.2.2.2.2.2) := by
  obtain ⟨h1, h2, h3, h4, h5, h6⟩ := k
  obtain ⟨r1, r2, r3⟩ := h2 r hr ht
  obtain ⟨o1, o2, o3⟩ := h2 o ho hto
  refine ⟨fun r' hr' => ?_, fun r' hr' ht' => ?_, h3, fun r' hr1 hr2 => ?_, fun j hj => ?_, fun j hj => ?_⟩
  · show upd c.1 r 0 r' = upd u.2.2.2.2.2.2.2.2.2.2.2.2.2.2.2.2.2.2.1 r 0 r' ∧ (upd c.1 r 0 r' = 0 ∨ upd c.1 r 0 r' = 1)
    by_cases e : r' = r
    · rw [e, pk_us, pk_us]; exact ⟨rfl, Or.inl rfl⟩
    · rw [pk_un e, pk_un e]; exact h1 r' hr'
  · have ht9 : upd c.1 r 0 r' = 1 := ht'
    have hrr : r' ≠ r := fun e => by rw [e, pk_us] at ht9; exact absurd ht9 (by decide)
    rw [pk_un hrr] at ht9
    obtain ⟨q1, q2, q3⟩ := h2 r' hr' ht9
    dsimp only
    by_cases e : r' = o
    · subst e
      refine ⟨fun x hx => ?_, fun x hx => ?_, ?_⟩
      · rw [← q1 x hx, show r' * 3 + x - r' * 3 = x by omega, ← r1 x hx]
      · obtain ⟨g1, g2, g3⟩ := q2 x hx
        obtain ⟨w1, w2, w3⟩ := r2 x hx
        rw [← g1, ← g2, show r' * 4 + x - r' * 4 = x by omega, ← w1, ← w2]
        by_cases hc : c.2.2.1 (r' * 4 + x) = -1
        · rw [if_pos ⟨by omega, by omega, hc⟩, if_pos ⟨by omega, by omega, hc⟩]
          exact ⟨rfl, rfl, g3⟩
        · rw [if_neg (fun h9 => hc h9.2.2), if_neg (fun h9 => hc h9.2.2)]
          exact ⟨rfl, rfl, g3⟩
      · rw [pk_us, pk_us, o3, r3]
    · refine ⟨fun x hx => ?_, fun x hx => ?_, ?_⟩
      · rw [if_neg (by omega), if_neg (by omega)]; exact q1 x hx
      · rw [if_neg (by omega), if_neg (by omega), if_neg (by omega), if_neg (by omega)]; exact q2 x hx
      · rw [pk_un e, pk_un e]; exact q3
  · obtain ⟨q1, q2, q3, q4⟩ := h4 r' hr1 hr2
    have e1 : r' ≠ r := fun e => by subst e; rw [ht] at q1; exact absurd q1 (by decide)
    have e2 : r' ≠ o := fun e => by subst e; rw [hto] at q1; exact absurd q1 (by decide)
    dsimp only
    refine ⟨by rw [pk_un e1]; exact q1, fun x hx => ?_, fun x hx => ?_, by rw [pk_un e2]; exact q4⟩
    · rw [if_neg (by omega)]; exact q2 x hx
    · rw [if_neg (by omega), if_neg (by omega)]; exact q3 x hx
  · obtain ⟨q1, q2, q3⟩ := h5 j hj
    dsimp only
    refine ⟨?_, q2, ?_⟩
    · split
      · rename_i h9; exact (h5 (r * 4 + (j - o * 4)) (by omega)).1
      · exact q1
    · split
      · rename_i h9; exact (h5 (r * 4 + (j - o * 4)) (by omega)).2.2
      · exact q3
  · dsimp only
    split
    · rename_i h9; exact h6 (r * 3 + (j - o * 3)) (by omega)
    · exact h6 j hj
/-- a line of the history, in both -/
def HRow (n k : Nat) (hi : HisS) (u : MdlS) : Prop :=
  (hi.1 k = 0 ∧ u.2.2.2.2.2.2.2.2.2.2.2.2.2.2.2.1 k = 0 ∧ ∃ i, i < n ∧ hi.2.1 k = nI i ∧ u.2.2.2.2.2.2.2.2.2.2.2.2.2.2.2.2.1 k = nI i) ∨
  (hi.1 k = 1 ∧ ((hi.2.2.2.1 k = 1 ∧ u.2.2.2.2.2.2.2.2.2.2.2.2.2.2.2.1 k = 1) ∨ (hi.2.2.2.1 k = 0 ∧ u.2.2.2.2.2.2.2.2.2.2.2.2.2.2.2.1 k = 2)) ∧ ∃ r f, r < 80 ∧ f < 4 ∧ hi.2.1 k = nI r ∧ u.2.2.2.2.2.2.2.2.2.2.2.2.2.2.2.2.1 k = nI r ∧ hi.2.2.1 k = nI f ∧ u.2.2.2.2.2.2.2.2.2.2.2.2.2.2.2.2.2.1 k = nI f) ∨
  (hi.1 k = 2 ∧ u.2.2.2.2.2.2.2.2.2.2.2.2.2.2.2.1 k = 3 ∧ ∃ r, r < 80 ∧ hi.2.1 k = nI r ∧ u.2.2.2.2.2.2.2.2.2.2.2.2.2.2.2.2.1 k = nI r) ∨
  (hi.1 k = 3 ∧ u.2.2.2.2.2.2.2.2.2.2.2.2.2.2.2.1 k = 4 ∧ ∃ r o, r < 80 ∧ o < 80 ∧ r ≠ o ∧ hi.2.1 k = nI r ∧ u.2.2.2.2.2.2.2.2.2.2.2.2.2.2.2.2.1 k = nI r ∧ hi.2.2.1 k = nI o ∧ u.2.2.2.2.2.2.2.2.2.2.2.2.2.2.2.2.2.1 k = nI o)
theorem st_act {m h n k : Nat} {c : CatS} {u : MdlS} {st : SetS} {ld : LodS} {hi : HisS} (q : CR m h c u) (hk : k < 180) (hrow : HRow n k hi u) (hno : ¬ hi.1 k = 0) :
    ∃ u', m_X7_perform u (nI k) = some u' ∧ KU u u' ∧ CR m h (m_X6_doStep st ld hi c (nI k)) u' := by
  have hq := q
  obtain ⟨h1, h2, h3, h4, h5, h6⟩ := hq
  unfold m_X7_perform m_X6_doStep
  rw [if_pos (inb_n hk (by decide)), ncl (show k < 2147483648 by omega), pu_get hk (by decide), pu_get hk (by decide), pu_get hk (by decide), pu_get hk (by decide)]
  dsimp only
  rcases hrow with ⟨e, -⟩ | ⟨e1, e2, r, f, hr, hf, a1, a2, a3, a4⟩ | ⟨e1, e2, r, hr, a1, a2⟩ | ⟨e1, e2, r, o, hr, ho, hne, a1, a2, a3, a4⟩
  · exact absurd e hno
  · have hk0 : ¬ u.2.2.2.2.2.2.2.2.2.2.2.2.2.2.2.1 k = 0 := by rcases e2 with ⟨-, e⟩ | ⟨-, e⟩ <;> rw [e] <;> decide
    have hk3 : ¬ u.2.2.2.2.2.2.2.2.2.2.2.2.2.2.2.1 k = 3 := by rcases e2 with ⟨-, e⟩ | ⟨-, e⟩ <;> rw [e] <;> decide
    have hk4 : ¬ u.2.2.2.2.2.2.2.2.2.2.2.2.2.2.2.1 k = 4 := by rcases e2 with ⟨-, e⟩ | ⟨-, e⟩ <;> rw [e] <;> decide
    rw [e1, if_neg hk0, if_neg (show ¬ (1 : Int32) = 0 by decide), if_pos rfl, a1, a2, a3, a4, if_pos (inb_n hr (by decide)), ncl (show r < 2147483648 by omega), ← (h1 r hr).1]
    by_cases ht : c.1 r = 1
    · rw [if_neg (by rw [ht]; decide), if_neg hk3, if_neg hk4, ix4, if_pos (inb_n (show r * 4 + f < 320 by omega) (by decide)), ncl (show r * 4 + f < 2147483648 by omega), pu_guard1 hr hf ht, vp0, vp1]
      rcases e2 with ⟨e3, e4⟩ | ⟨e3, e4⟩
      · rw [e3, e4, if_pos rfl]
        exact ⟨_, rfl, KU.rf, q.guard hr hf ht (Or.inr rfl)⟩
      · rw [e3, e4, if_neg (by decide), if_pos (inb_n (show r * 4 + f < 320 by omega) (by decide))]
        exact ⟨_, rfl, KU.rf, q.guard hr hf ht (Or.inl rfl)⟩
    · rw [if_pos ((h1 r hr).2.resolve_right ht), pu_guard0 hr ht]
      exact ⟨_, rfl, KU.rf, q⟩
  · rw [e1, e2, if_neg (show ¬ (3 : Int32) = 0 by decide), if_neg (show ¬ (2 : Int32) = 0 by decide), if_neg (show ¬ (2 : Int32) = 1 by decide), if_pos rfl, a1, a2, if_pos (inb_n hr (by decide)), ncl (show r < 2147483648 by omega), ← (h1 r hr).1]
    by_cases ht : c.1 r = 1
    · rw [if_neg (by rw [ht]; decide), if_pos rfl, pu_hold1 hr ht]
      exact ⟨_, rfl, KU.rf, q.held hr ht⟩
    · rw [if_pos ((h1 r hr).2.resolve_right ht), pu_hold0 hr ht]
      exact ⟨_, rfl, KU.rf, q⟩
  · rw [e1, e2, if_neg (show ¬ (4 : Int32) = 0 by decide), if_neg (show ¬ (3 : Int32) = 0 by decide), if_neg (show ¬ (3 : Int32) = 1 by decide), if_neg (show ¬ (3 : Int32) = 2 by decide), if_pos rfl, a1, a2, a3, a4, if_pos (inb_n hr (by decide)), ncl (show r < 2147483648 by omega), ← (h1 r hr).1]
    by_cases ht : c.1 r = 1
    · rw [if_neg (by rw [ht]; decide), if_neg (show ¬ (4 : Int32) = 3 by decide), if_pos rfl, if_pos (inb_n ho (by decide)), ncl (show o < 2147483648 by omega), ← (h1 o ho).1]
      by_cases hto : c.1 o = 1
      · rw [if_neg (by rw [hto]; decide), rf_mg hr ho hne, Option.bind_some, pu_join1 hr ho hne ht hto]
        exact ⟨_, rfl, KU.rf, q.joined hr ho hne ht hto⟩
      · rw [if_pos ((h1 o ho).2.resolve_right hto), pu_join0' hr ho ht hto]
        exact ⟨_, rfl, KU.rf, q⟩
    · rw [if_pos ((h1 r hr).2.resolve_right ht), pu_join0 hr ht]
      exact ⟨_, rfl, KU.rf, q⟩
