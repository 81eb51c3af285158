/-! PURE: acts, in the class and in the law -/
section MG
variable {v : FL} {h : FI} {one : Nat} {other : Int32} {x2 f3 : Int64}
theorem mg_8 (ho : one < 40) : ∀ (q k : Nat) (x : Int64), k + q = 3 → ∃ y, m_L_merges_lp8 v h (nI one) other x2 q k x = some y ∧ (∀ j, j < 3 → kx y j = if k ≤ j ∧ kx x j = 0 then kx (v one) j else kx x j) ∧ (∀ j, j < 4 → fx y j = fx x j ∧ sx y j = sx x j ∧ gx y j = gx x j) ∧ ix y = ix x := by
  intro q
  induction q with
  | zero => intro k x hk; exact ⟨x, rfl, fun j hj => by rw [if_neg (by omega)], fun j hj => ⟨rfl, rfl, rfl⟩, rfl⟩
  | succ q ih =>
    intro k x hk
    have hk3 : k < 3 := by omega
    simp only [m_L_merges_lp8]
    rw [if_pos (inb_n ho (by decide)), ncl (show one < 2147483648 by omega), L_key hk3, L_key hk3]
    have hxl : kx x k < 64 := kx_lt
    by_cases hc : kx x k = 0
    · rw [if_pos ((n0 (by omega)).mpr hc)]
      obtain ⟨y, a1, a2, a3, a4⟩ := ih (k + 1) (m_L_withKey x (nI k) (nI (kx (v one) k))) (by omega)
      refine ⟨y, a1, fun j hj => ?_, fun j hj => ?_, ?_⟩
      · rw [a2 j hj, wk_k hk3 kx_lt hj]
        by_cases hj2 : j = k
        · subst hj2
          rw [if_neg (by omega), if_pos rfl, if_pos ⟨Nat.le_refl _, hc⟩]
        · rw [if_neg hj2]
          by_cases h2 : k ≤ j ∧ kx x j = 0
          · rw [if_pos ⟨by omega, h2.2⟩, if_pos h2]
          · rw [if_neg (fun h3 => h2 ⟨by omega, h3.2⟩), if_neg h2]
      · obtain ⟨b1, b2, b3⟩ := a3 j hj
        exact ⟨b1.trans (wk_f hk3 kx_lt hj), b2.trans (wk_s hk3 kx_lt hj), b3.trans (wk_g hk3 kx_lt hj)⟩
      · exact a4.trans (wk_i hk3 kx_lt)
    · rw [if_neg (fun h9 => hc ((n0 (by omega)).mp h9))]
      obtain ⟨y, a1, a2, a3⟩ := ih (k + 1) x (by omega)
      refine ⟨y, a1, fun j hj => ?_, a3⟩
      rw [a2 j hj]
      by_cases h2 : k ≤ j ∧ kx x j = 0
      · have : j ≠ k := fun e => hc (e ▸ h2.2)
        rw [if_pos ⟨by omega, h2.2⟩, if_pos h2]
      · rw [if_neg (fun h3 => h2 ⟨by omega, h3.2⟩), if_neg h2]
theorem mg_55 (ho : one < 40) : ∀ (q k : Nat) (x : Int64), k + q = 4 → ∃ y, m_L_merges_lp55 v h (nI one) other x2 f3 q k x = some y ∧ (∀ j, j < 4 → fx y j = (if k ≤ j ∧ fx x j = 0 then fx (v one) j else fx x j) ∧ sx y j = (if k ≤ j ∧ fx x j = 0 then sx (v one) j else sx x j) ∧ gx y j = gx x j) ∧ (∀ j, j < 3 → kx y j = kx x j) ∧ ix y = ix x := by
  intro q
  induction q with
  | zero => intro k x hk; exact ⟨x, rfl, fun j hj => ⟨by rw [if_neg (by omega)], by rw [if_neg (by omega)], rfl⟩, fun j hj => rfl, rfl⟩
  | succ q ih =>
    intro k x hk
    have hk4 : k < 4 := by omega
    simp only [m_L_merges_lp55]
    rw [if_pos (inb_n ho (by decide)), ncl (show one < 2147483648 by omega), L_field hk4, L_field hk4, L_source hk4]
    have hxl : fx x k < 128 := fx_lt
    by_cases hc : fx x k = 0
    · rw [if_pos ((n0 (by omega)).mpr hc)]
      obtain ⟨y, a1, a2, a3, a4⟩ := ih (k + 1) (m_L_withField x (nI k) (nI (fx (v one) k)) (nI (sx (v one) k))) (by omega)
      refine ⟨y, a1, fun j hj => ?_, fun j hj => (a3 j hj).trans (wf_k hk4 fx_lt sx_lt hj), a4.trans (wf_i hk4 fx_lt sx_lt)⟩
      obtain ⟨b1, b2, b3⟩ := a2 j hj
      rw [b1, b2]
      have f1 := wf_f (x := x) (k := k) (a := fx (v one) k) (s := sx (v one) k) hk4 fx_lt sx_lt hj
      have f2 := wf_s (x := x) (k := k) (a := fx (v one) k) (s := sx (v one) k) hk4 fx_lt sx_lt hj
      have f3 := wf_g (x := x) (k := k) (a := fx (v one) k) (s := sx (v one) k) hk4 fx_lt sx_lt hj
      by_cases hj2 : j = k
      · subst hj2
        rw [if_pos rfl] at f1 f2
        have hno : ¬ (j + 1 ≤ j ∧ fx (m_L_withField x (nI j) (nI (fx (v one) j)) (nI (sx (v one) j))) j = 0) := fun h9 => absurd h9.1 (by omega)
        rw [if_neg hno, if_neg hno, if_pos ⟨Nat.le_refl _, hc⟩, if_pos ⟨Nat.le_refl _, hc⟩]
        exact ⟨f1, f2, b3.trans f3⟩
      · rw [if_neg hj2] at f1 f2
        rw [f1, f2]
        by_cases h2 : k ≤ j ∧ fx x j = 0
        · have h3 : k + 1 ≤ j ∧ fx x j = 0 := ⟨by omega, h2.2⟩
          rw [if_pos h3, if_pos h3, if_pos h2, if_pos h2]; exact ⟨rfl, rfl, b3.trans f3⟩
        · have h3 : ¬ (k + 1 ≤ j ∧ fx x j = 0) := fun h3 => h2 ⟨by omega, h3.2⟩
          rw [if_neg h3, if_neg h3, if_neg h2, if_neg h2]; exact ⟨rfl, rfl, b3.trans f3⟩
    · rw [if_neg (fun h9 => hc ((n0 (by omega)).mp h9))]
      obtain ⟨y, a1, a2, a3⟩ := ih (k + 1) x (by omega)
      refine ⟨y, a1, fun j hj => ?_, a3⟩
      obtain ⟨b1, b2, b3⟩ := a2 j hj
      rw [b1, b2]
      by_cases h2 : k ≤ j ∧ fx x j = 0
      · have : j ≠ k := fun e => hc (e ▸ h2.2)
        have h3 : k + 1 ≤ j ∧ fx x j = 0 := ⟨by omega, h2.2⟩
        rw [if_pos h3, if_pos h3, if_pos h2, if_pos h2]; exact ⟨rfl, rfl, b3⟩
      · have h3 : ¬ (k + 1 ≤ j ∧ fx x j = 0) := fun h3 => h2 ⟨by omega, h3.2⟩
        rw [if_neg h3, if_neg h3, if_neg h2, if_neg h2]; exact ⟨rfl, rfl, b3⟩
end MG
section AC
variable {m r o f : Nat} {c : CatS} {v : FL} {h t : FI}
theorem RC.in1 (hR : RC m c v h t) (hr : r < 40) (ht : c.1 r = 1) : ix (v r) = 1 := by
  rcases hR.1 r hr with ⟨a1, -⟩ | ⟨-, a2⟩
  · exact a1
  · rw [ht] at a2; exact absurd a2 (by decide)
theorem RC.in0 (hR : RC m c v h t) (hr : r < 40) (ht : ¬ c.1 r = 1) : ix (v r) = 0 := by
  rcases hR.1 r hr with ⟨-, a2, -⟩ | ⟨a1, -⟩
  · exact absurd a2 ht
  · exact a1
theorem RC.lt (hR : RC m c v h t) (hr : r < 40) (ht : c.1 r = 1) : r < m := by
  rcases Nat.lt_or_ge r m with h9 | h9
  · exact h9
  · have := (hR.2.2 r h9 (by omega)).1
    rw [ht] at this
    exact absurd this (by decide)
theorem RC.guard {y : Int64} {F : Nat} (hR : RC m c v h t) (hr : r < 40) (hf : f < 4) (ht : c.1 r = 1)
    (y1 : ∀ j, j < 3 → kx y j = kx (v r) j) (y2 : ∀ j, j < 4 → fx y j = fx (v r) j ∧ sx y j = sx (v r) j ∧ gx y j = if j = f then F else gx (v r) j) (y3 : ix y = ix (v r)) :
    RC m (c.1, c.2.1, c.2.2.1, c.2.2.2.1, (upd c.2.2.2.2.1 (r * 4 + f) (nI F)), c.2.2.2.2.2.1, c.2.2.2.2.2.2) (vp_updL v r y) h t := by
  have hrm := hR.lt hr ht
  obtain ⟨h1, h2, h3⟩ := hR
  refine ⟨fun r' hr' => ?_, h2, fun r' hr1 hr2 => ?_⟩
  · by_cases e : r' = r
    · subst e
      rw [pk_uLs]
      rcases h1 r' hr with ⟨a1, a2, a3, a4, a5⟩ | ⟨a1, a2⟩
      · left
        dsimp only
        refine ⟨y3.trans a1, a2, fun k hk => by rw [y1 k hk]; exact a3 k hk, fun k hk => ?_, a5⟩
        obtain ⟨g1, g2, g3, g4⟩ := a4 k hk
        obtain ⟨z1, z2, z3⟩ := y2 k hk
        rw [z1, z2, z3]
        refine ⟨g1, g2, ?_, g4⟩
        by_cases e9 : k = f
        · rw [e9, pk_us, if_pos rfl]
        · rw [pk_un (by omega), if_neg e9]; exact g3
      · rw [ht] at a2; exact absurd a2 (by decide)
    · rw [pk_uLn e]
      rcases h1 r' hr' with ⟨a1, a2, a3, a4, a5⟩ | ⟨a1, a2⟩
      · left
        dsimp only
        refine ⟨a1, a2, a3, fun k hk => ?_, a5⟩
        obtain ⟨g1, g2, g3, g4⟩ := a4 k hk
        exact ⟨g1, g2, by rw [pk_un (by omega)]; exact g3, g4⟩
      · exact Or.inr ⟨a1, a2⟩
  · obtain ⟨q1, q2, q3, q4⟩ := h3 r' hr1 hr2
    refine ⟨q1, q2, fun k hk => ?_, q4⟩
    obtain ⟨g1, g2, g3⟩ := q3 k hk
    refine ⟨g1, g2, ?_⟩
    show upd c.2.2.2.2.1 (r * 4 + f) (nI F) (r' * 4 + k) = 0
    rw [pk_un (by omega)]; exact g3
theorem RC.held (hR : RC m c v h t) (hr : r < 40) (ht : c.1 r = 1) : RC m (c.1, c.2.1, c.2.2.1, c.2.2.2.1, c.2.2.2.2.1, (upd c.2.2.2.2.2.1 r (c.2.2.2.2.2.1 r + 1)), c.2.2.2.2.2.2) v (upd h r (h r + 1)) t := by
  have hrm := hR.lt hr ht
  obtain ⟨h1, h2, h3⟩ := hR
  refine ⟨fun r' hr' => ?_, h2, fun r' hr1 hr2 => ?_⟩
  · rcases h1 r' hr' with ⟨a1, a2, a3, a4, a5⟩ | ⟨a1, a2⟩
    · left
      refine ⟨a1, a2, a3, a4, ?_⟩
      show upd c.2.2.2.2.2.1 r (c.2.2.2.2.2.1 r + 1) r' = upd h r (h r + 1) r'
      by_cases e : r' = r
      · subst e; rw [pk_us, pk_us, a5]
      · rw [pk_un e, pk_un e]; exact a5
    · exact Or.inr ⟨a1, a2⟩
  · obtain ⟨q1, q2, q3, q4⟩ := h3 r' hr1 hr2
    refine ⟨q1, q2, q3, ?_⟩
    show upd c.2.2.2.2.2.1 r (c.2.2.2.2.2.1 r + 1) r' = 0
    rw [pk_un (by omega)]; exact q4
theorem RC.joined {y : Int64} (hR : RC m c v h t) (hr : r < 40) (ho : o < 40) (hne : r ≠ o) (ht : c.1 r = 1) (hto : c.1 o = 1)
    (y1 : ∀ j, j < 3 → kx y j = if kx (v o) j = 0 then kx (v r) j else kx (v o) j)
    (y2 : ∀ j, j < 4 → fx y j = (if fx (v o) j = 0 then fx (v r) j else fx (v o) j) ∧ sx y j = (if fx (v o) j = 0 then sx (v r) j else sx (v o) j) ∧ gx y j = gx (v o) j) (y3 : ix y = ix (v o)) :
    RC m ((upd c.1 r 0), (fun j => if o * 3 ≤ j ∧ j < o * 3 + 3 ∧ c.2.1 j = -1 then c.2.1 (r * 3 + (j - o * 3)) else c.2.1 j), (fun j => if o * 4 ≤ j ∧ j < o * 4 + 4 ∧ c.2.2.1 j = -1 then c.2.2.1 (r * 4 + (j - o * 4)) else c.2.2.1 j), (fun j => if o * 4 ≤ j ∧ j < o * 4 + 4 ∧ c.2.2.1 j = -1 then c.2.2.2.1 (r * 4 + (j - o * 4)) else c.2.2.2.1 j), c.2.2.2.2.1, (upd c.2.2.2.2.2.1 o (c.2.2.2.2.2.1 o + c.2.2.2.2.2.1 r)), c.2.2.2.2.2.2) (vp_updL (vp_updL v o y) r 0) (upd h o (h o + h r)) t := by
  have hrm := hR.lt hr ht
  have hom := hR.lt ho hto
  have hor : o ≠ r := fun e => hne e.symm
  obtain ⟨h1, h2, h3⟩ := hR
  refine ⟨fun r' hr' => ?_, h2, fun r' hr1 hr2 => ?_⟩
  · by_cases e : r' = r
    · subst e
      rw [pk_uLs]
      exact Or.inr ⟨lq_0, pk_us⟩
    · rw [pk_uLn e]
      by_cases e2 : r' = o
      · subst e2
        rw [pk_uLs]
        rcases h1 r' ho with ⟨a1, a2, a3, a4, a5⟩ | ⟨a1, a2⟩
        · rcases h1 r hr with ⟨b1, b2, b3, b4, b5⟩ | ⟨b1, b2⟩
          · left
            dsimp only
            refine ⟨y3.trans a1, by rw [pk_un e]; exact a2, fun k hk => ?_, fun k hk => ?_, ?_⟩
            · have hkl : kx (v r') k < 64 := kx_lt
              rw [y1 k hk, a3 k hk, show r' * 3 + k - r' * 3 = k by omega, b3 k hk]
              by_cases hc : kx (v r') k = 0
              · rw [if_pos ⟨by omega, by omega, (nm0 (by omega)).mpr hc⟩, if_pos hc]
              · rw [if_neg (fun h9 => hc ((nm0 (by omega)).mp h9.2.2)), if_neg hc]
            · obtain ⟨g1, g2, g3, g4⟩ := a4 k hk
              obtain ⟨w1, w2, w3, w4⟩ := b4 k hk
              obtain ⟨z1, z2, z3⟩ := y2 k hk
              have hfl : fx (v r') k < 128 := fx_lt
              rw [z1, z2, z3, g1, show r' * 4 + k - r' * 4 = k by omega]
              by_cases hc : fx (v r') k = 0
              · have hp : r' * 4 ≤ r' * 4 + k ∧ r' * 4 + k < r' * 4 + 4 ∧ nI (fx (v r') k) - 1 = -1 := ⟨by omega, by omega, (nm0 (by omega)).mpr hc⟩
                rw [if_pos hp, if_pos hp, if_pos hc, if_pos hc]
                exact ⟨w1, w2, g3, w4⟩
              · have hp : ¬ (r' * 4 ≤ r' * 4 + k ∧ r' * 4 + k < r' * 4 + 4 ∧ nI (fx (v r') k) - 1 = -1) := fun h9 => hc ((nm0 (by omega)).mp h9.2.2)
                rw [if_neg hc] at g2
                rw [if_neg hp, if_neg hp, if_neg hc, if_neg hc, if_neg hc]
                exact ⟨rfl, g2, g3, g4⟩
            · rw [pk_us, pk_us, a5, b5]
          · rw [ht] at b2; exact absurd b2 (by decide)
        · rw [hto] at a2; exact absurd a2 (by decide)
      · rw [pk_uLn e2]
        rcases h1 r' hr' with ⟨a1, a2, a3, a4, a5⟩ | ⟨a1, a2⟩
        · left
          dsimp only
          refine ⟨a1, by rw [pk_un e]; exact a2, fun k hk => ?_, fun k hk => ?_, by rw [pk_un e2, pk_un e2]; exact a5⟩
          · rw [if_neg (by omega)]; exact a3 k hk
          · rw [if_neg (by omega), if_neg (by omega)]; exact a4 k hk
        · right
          dsimp only
          exact ⟨a1, by rw [pk_un e]; exact a2⟩
  · dsimp only
    obtain ⟨q1, q2, q3, q4⟩ := h3 r' hr1 hr2
    refine ⟨by rw [pk_un (by omega)]; exact q1, fun k hk => ?_, fun k hk => ?_, by rw [pk_un (by omega)]; exact q4⟩
    · rw [if_neg (by omega)]; exact q2 k hk
    · rw [if_neg (by omega), if_neg (by omega)]; exact q3 k hk
/-- a merge in the law -/
theorem mg_eq (hr : r < 40) (ho : o < 40) : ∃ y, m_L_merges v h (nI r) (nI o) = some (vp_updL (vp_updL v o y) r 0, upd h o (h o + h r)) ∧ (∀ j, j < 3 → kx y j = if kx (v o) j = 0 then kx (v r) j else kx (v o) j) ∧ (∀ j, j < 4 → fx y j = (if fx (v o) j = 0 then fx (v r) j else fx (v o) j) ∧ sx y j = (if fx (v o) j = 0 then sx (v r) j else sx (v o) j) ∧ gx y j = gx (v o) j) ∧ ix y = ix (v o) := by
  unfold m_L_merges
  rw [if_pos (inb_n ho (by decide)), ncl (show o < 2147483648 by omega)]
  simp only [eq_true (inb_n hr (show 40 < 2147483648 by decide)), if_true, ncl (show r < 2147483648 by omega)]
  obtain ⟨x, p1, p2, p3, p4⟩ := mg_8 (v := v) (h := h) (one := r) (other := nI o) (x2 := v o) hr 3 0 (v o) rfl
  rw [p1, Option.bind_some]
  obtain ⟨y, q1, q2, q3, q4⟩ := mg_55 (v := v) (h := h) (one := r) (other := nI o) (x2 := v o) (f3 := x) hr 4 0 x rfl
  rw [q1, Option.bind_some]
  refine ⟨y, rfl, fun j hj => ?_, fun j hj => ?_, q4.trans p4⟩
  · rw [q3 j hj, p2 j hj]
    by_cases h9 : kx (v o) j = 0
    · rw [if_pos ⟨Nat.zero_le j, h9⟩, if_pos h9]
    · rw [if_neg (fun h8 => h9 h8.2), if_neg h9]
  · obtain ⟨b1, b2, b3⟩ := q2 j hj
    obtain ⟨w1, w2, w3⟩ := p3 j hj
    rw [b1, b2, b3, w1, w2, w3]
    by_cases h9 : fx (v o) j = 0
    · have hp : 0 ≤ j ∧ fx (v o) j = 0 := ⟨Nat.zero_le j, h9⟩
      rw [if_pos hp, if_pos hp, if_pos h9, if_pos h9]; exact ⟨rfl, rfl, rfl⟩
    · have hp : ¬ (0 ≤ j ∧ fx (v o) j = 0) := fun h8 => h9 h8.2
      rw [if_neg hp, if_neg hp, if_neg h9, if_neg h9]; exact ⟨rfl, rfl, rfl⟩
end AC
