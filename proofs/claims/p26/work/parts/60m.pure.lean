/-! PURE: hold, protect, merge -/
section three
variable {n b d : Nat} {st : SetS} {ld : LodS} {hi : HisS} {ct cd : CatS} {u : MdlS}
theorem ds_ap {k o1 o2 o3 : Int32} (hN : hi.2.2.2.2.1 = nI d) (hd : d < 180) (hk : ¬ k = 0) : m_X6_doStep st ld (m_X2_append hi k o1 o2 o3) ct (nI d) = if k = 0 then (m_X0_take ct st ld o1).1 else if k = 1 then (m_X0_guard ct o1 o2 o3).1 else if k = 2 then (m_X0_addHoldings ct o1 1).1 else if k = 3 then (m_X0_join ct o1 o2).1 else ct := by
  rw [ap_eq hN hd hk]
  unfold m_X6_doStep
  rw [pu_get hd (by decide), pu_get hd (by decide), pu_get hd (by decide), pu_get hd (by decide)]
  dsimp only
  rw [pk_us, pk_us, pk_us, pk_us]
theorem Rel.pos (R : Rel n b d st ld hi ct cd u) {r : Nat} (hr : r < 80) (ht : ct.1 r = 1) : 0 < n := by
  rcases Nat.eq_zero_or_pos n with h | h
  · have h1 := (R.2.1.2.2.2.1 r (by omega) hr).1
    rw [ht] at h1
    exact absurd h1 (by decide)
  · exact h
theorem op_hold (R : Rel n b d st ld hi ct cd u) (v : Int32) : ∃ u' r, m_X7_hold u v = some (u', r) ∧ ((u'.2.2.2.2.2.2.2.2.2.2.2.2.2.2.2.2.2.2.2.2.2.2.2.2 = 0 ∧ ∃ hi' ct', m_X6_hold st ld hi ct cd v = .inr ((hi', ct'), r) ∧ Rel n b (d + 1) st ld hi' ct' cd u') ∨ (Rel n b d st ld hi ct cd u' ∧ ((u'.2.2.2.2.2.2.2.2.2.2.2.2.2.2.2.2.2.2.2.2.2.2.2.2 = 1 ∧ m_X6_hold st ld hi ct cd v = .inl "java/lang/IndexOutOfBoundsException") ∨ (u'.2.2.2.2.2.2.2.2.2.2.2.2.2.2.2.2.2.2.2.2.2.2.2.2 = 2 ∧ m_X6_hold st ld hi ct cd v = .inl "java/lang/IllegalStateException")))) := by
  have R0 := R
  obtain ⟨hL, hc, hO, hz, hct, ⟨g1, g2, g3, g4, g5, g6, g7⟩, h7, h8⟩ := R0
  have hn80 := hL.1
  unfold m_X7_hold m_X6_hold
  rcases rec_cases (cd := cd) (st := st) (ld := ld) (hi := hi) hc v with ⟨r, hr, rfl, ht, h1, h2, -⟩ | ⟨h1, h2, -⟩
  · rw [h1, h2, Option.bind_some, if_neg (show ¬ (1 : Int32) = 0 by decide), xb_r]
    by_cases hd : d = n + 100
    · have e9 : u.2.2.2.2.2.2.2.2.2.2.2.2.2.1 = 100 := by rw [g7, hd, Nat.add_sub_cancel_left]; rfl
      rw [if_pos e9, al_1 g1 g2 hd]
      exact ⟨_, _, rfl, Or.inr ⟨R.thrown 2, Or.inr ⟨rfl, rfl⟩⟩⟩
    · have e9 : ¬ u.2.2.2.2.2.2.2.2.2.2.2.2.2.1 = 100 := by rw [g7]; exact fun h => absurd ((nI_eq (b := 100) (by omega) (by decide)).mp h) (by omega)
      obtain ⟨u', p1, p2, p3⟩ := R.act (k := 2) (o1 := nI r) (o2 := -1) (o3 := -1) (q := 3) (p1 := nI r) (p2 := 0) (R.pos hr ht) (by omega) (by decide) (Or.inr (Or.inr (Or.inl ⟨pk_us, pk_us, r, hr, pk_us, pk_us⟩)))
      rw [if_neg e9, p1, Option.bind_some, if_pos (inb_n hr (by decide)), ncl (show r < 2147483648 by omega), al_0 g1 g2 h7.1 (by omega), xb_r]
      rw [ds_ap g1 (by omega) (by decide), if_neg (by decide), if_neg (by decide), if_pos rfl, pu_hold1 hr ht] at p3
      rw [pu_hold1 hr ht]
      have h9 : upd ct.2.2.2.2.2.1 r (ct.2.2.2.2.2.1 r + 1) r = u'.2.2.2.2.2.2.2.2.2.2.2.2.2.2.2.2.2.2.2.2.2.2.2.1 r := (p3.2.1.2.1 r hr ht).2.2
      rw [pk_us] at h9
      rw [← h9]
      exact ⟨u', _, rfl, Or.inl ⟨p2, _, _, rfl, p3⟩⟩
  · rw [h1, h2, Option.bind_some, if_pos rfl]
    exact ⟨_, _, rfl, Or.inr ⟨R.thrown 1, Or.inl ⟨rfl, rfl⟩⟩⟩
theorem op_merge (R : Rel n b d st ld hi ct cd u) (v w : Int32) : ∃ u' r, m_X7_merge u v w = some (u', r) ∧ ((u'.2.2.2.2.2.2.2.2.2.2.2.2.2.2.2.2.2.2.2.2.2.2.2.2 = 0 ∧ ∃ hi' ct', m_X6_merge st ld hi ct cd v w = .inr ((hi', ct'), r) ∧ Rel n b (d + 1) st ld hi' ct' cd u') ∨ (Rel n b d st ld hi ct cd u' ∧ ((u'.2.2.2.2.2.2.2.2.2.2.2.2.2.2.2.2.2.2.2.2.2.2.2.2 = 1 ∧ m_X6_merge st ld hi ct cd v w = .inl "java/lang/IndexOutOfBoundsException") ∨ (u'.2.2.2.2.2.2.2.2.2.2.2.2.2.2.2.2.2.2.2.2.2.2.2.2 = 2 ∧ m_X6_merge st ld hi ct cd v w = .inl "java/lang/IllegalArgumentException") ∨ (u'.2.2.2.2.2.2.2.2.2.2.2.2.2.2.2.2.2.2.2.2.2.2.2.2 = 3 ∧ m_X6_merge st ld hi ct cd v w = .inl "java/lang/IllegalStateException")))) := by
  have R0 := R
  obtain ⟨hL, hc, hO, hz, hct, ⟨g1, g2, g3, g4, g5, g6, g7⟩, h7, h8⟩ := R0
  have hn80 := hL.1
  unfold m_X7_merge m_X6_merge
  rcases rec_cases (cd := cd) (st := st) (ld := ld) (hi := hi) hc v with ⟨r, hr, rfl, ht, h1, h2, -⟩ | ⟨h1, h2, -⟩
  · rw [h1, h2, Option.bind_some, if_neg (show ¬ (1 : Int32) = 0 by decide), xb_r]
    rcases rec_cases (cd := cd) (st := st) (ld := ld) (hi := hi) hc w with ⟨o, ho, rfl, hto, k1, k2, -⟩ | ⟨k1, k2, -⟩
    · rw [k1, k2, Option.bind_some, if_neg (show ¬ (1 : Int32) = 0 by decide), xb_r]
      by_cases hro : r = o
      · rw [if_pos (show nI r = nI o by rw [hro]), if_pos (show nI r = nI o by rw [hro])]
        exact ⟨_, _, rfl, Or.inr ⟨R.thrown 2, Or.inr (Or.inl ⟨rfl, rfl⟩)⟩⟩
      · have hro2 : ¬ nI r = nI o := fun h => hro ((nI_eq (by omega) (by omega)).mp h)
        rw [if_neg hro2, if_neg hro2]
        by_cases hd : d = n + 100
        · have e9 : u.2.2.2.2.2.2.2.2.2.2.2.2.2.1 = 100 := by rw [g7, hd, Nat.add_sub_cancel_left]; rfl
          rw [if_pos e9, al_1 g1 g2 hd]
          exact ⟨_, _, rfl, Or.inr ⟨R.thrown 3, Or.inr (Or.inr ⟨rfl, rfl⟩)⟩⟩
        · have e9 : ¬ u.2.2.2.2.2.2.2.2.2.2.2.2.2.1 = 100 := by rw [g7]; exact fun h => absurd ((nI_eq (b := 100) (by omega) (by decide)).mp h) (by omega)
          obtain ⟨u', p1, p2, p3⟩ := R.act (k := 3) (o1 := nI r) (o2 := nI o) (o3 := -1) (q := 4) (p1 := nI r) (p2 := nI o) (R.pos hr ht) (by omega) (by decide) (Or.inr (Or.inr (Or.inr ⟨pk_us, pk_us, r, o, hr, ho, hro, pk_us, pk_us, pk_us, pk_us⟩)))
          rw [if_neg e9, p1, Option.bind_some, if_pos (inb_n ho (by decide)), ncl (show o < 2147483648 by omega), al_0 g1 g2 h7.1 (by omega), xb_r]
          rw [ds_ap g1 (by omega) (by decide), if_neg (by decide), if_neg (by decide), if_neg (by decide), if_pos rfl, pu_join1 hr ho hro ht hto] at p3
          rw [pu_join1 hr ho hro ht hto]
          have h9 : upd ct.2.2.2.2.2.1 o (ct.2.2.2.2.2.1 o + ct.2.2.2.2.2.1 r) o = u'.2.2.2.2.2.2.2.2.2.2.2.2.2.2.2.2.2.2.2.2.2.2.2.1 o := (p3.2.1.2.1 o ho (by show upd ct.1 r 0 o = 1; rw [pk_un (Ne.symm hro)]; exact hto)).2.2
          rw [pk_us] at h9
          rw [← h9]
          exact ⟨u', _, rfl, Or.inl ⟨p2, _, _, rfl, p3⟩⟩
    · rw [k1, k2, Option.bind_some, if_pos rfl]
      exact ⟨_, _, rfl, Or.inr ⟨R.thrown 1, Or.inl ⟨rfl, rfl⟩⟩⟩
  · rw [h1, h2, Option.bind_some, if_pos rfl]
    exact ⟨_, _, rfl, Or.inr ⟨R.thrown 1, Or.inl ⟨rfl, rfl⟩⟩⟩
end three
