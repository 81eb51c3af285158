/-! PURE: protect -/
section prot
variable {n b d : Nat} {st : SetS} {ld : LodS} {hi : HisS} {ct cd : CatS} {u : MdlS}
theorem op_protect (R : Rel n b d st ld hi ct cd u) (v w is : Int32) : ∃ u' r, m_X7_protect u v w is = some (u', r) ∧ ((u'.2.2.2.2.2.2.2.2.2.2.2.2.2.2.2.2.2.2.2.2.2.2.2.2 = 0 ∧ ∃ hi' ct', m_X6_protect st ld hi ct cd v w is = .inr ((hi', ct'), r) ∧ Rel n b (d + 1) st ld hi' ct' cd u') ∨ (Rel n b d st ld hi ct cd u' ∧ ((u'.2.2.2.2.2.2.2.2.2.2.2.2.2.2.2.2.2.2.2.2.2.2.2.2 = 1 ∧ m_X6_protect st ld hi ct cd v w is = .inl "java/lang/IndexOutOfBoundsException") ∨ (u'.2.2.2.2.2.2.2.2.2.2.2.2.2.2.2.2.2.2.2.2.2.2.2.2 = 2 ∧ m_X6_protect st ld hi ct cd v w is = .inl "java/lang/IllegalStateException")))) := by
  have R0 := R
  obtain ⟨hL, hc, hO, hz, hct, ⟨g1, g2, g3, g4, g5, g6, g7⟩, h7, h8⟩ := R0
  have hn80 := hL.1
  unfold m_X7_protect m_X6_protect
  rcases rec_cases (cd := cd) (st := st) (ld := ld) (hi := hi) hc v with ⟨r, hr, rfl, ht, h1, h2, -⟩ | ⟨h1, h2, -⟩
  · rw [h1, h2, Option.bind_some, if_neg (show ¬ (1 : Int32) = 0 by decide), xb_r]
    rcases ix_cases w (show 4 ≤ 1000 by decide) with ⟨f, hf, rfl, q1, q2⟩ | ⟨q1, q2⟩
    · have q3 : m_X7_in (nI f) 0 3 = 1 := q2
      have q4 : m_X6_needIndex (nI f) 4 = .inr () := q1
      rw [q3, q4, if_neg (show ¬ (1 : Int32) = 0 by decide), xb_r]
      by_cases hd : d = n + 100
      · have e9 : u.2.2.2.2.2.2.2.2.2.2.2.2.2.1 = 100 := by rw [g7, hd, Nat.add_sub_cancel_left]; rfl
        rw [if_pos e9, al_1 g1 g2 hd]
        exact ⟨_, _, rfl, Or.inr ⟨R.thrown 2, Or.inr ⟨rfl, rfl⟩⟩⟩
      · have e9 : ¬ u.2.2.2.2.2.2.2.2.2.2.2.2.2.1 = 100 := by rw [g7]; exact fun h => absurd ((nI_eq (b := 100) (by omega) (by decide)).mp h) (by omega)
        have hkp : ct.2.2.2.2.1 (r * 4 + f) = u.2.2.2.2.2.2.2.2.2.2.2.2.2.2.2.2.2.2.2.2.2.2.1 (r * 4 + f) := ((hc.2.1 r hr ht).2.1 f hf).2.2
        have hzb : zb (u.2.2.2.2.2.2.2.2.2.2.2.2.2.2.2.2.2.2.2.2.2.2.1 (r * 4 + f)) = true := by
          rw [← hkp]
          rcases (hc.2.2.2.2.1 (r * 4 + f) (by omega)).2.1 with h | h <;> rw [h] <;> decide
        have hans : ∀ (A B : String ⊕ ((HisS × CatS) × Int32)) (y : HisS × CatS), A = .inr (y, 1) → B = .inr (y, 0) → (if ct.2.2.2.2.1 (r * 4 + f) = 1 then A else B) = .inr (y, u.2.2.2.2.2.2.2.2.2.2.2.2.2.2.2.2.2.2.2.2.2.2.1 (r * 4 + f)) := by
          intro A B y hA hB
          rw [← hkp]
          rcases (hc.2.2.2.2.1 (r * 4 + f) (by omega)).2.1 with h | h
          · rw [h, if_neg (by decide)]; exact hB
          · rw [h, if_pos rfl]; exact hA
        rw [if_neg e9, ix4, if_pos (inb_n (show r * 4 + f < 320 by omega) (by decide)), ncl (show r * 4 + f < 2147483648 by omega), al_0 g1 g2 h7.1 (by omega), xb_r]
        by_cases his : is = 0
        · obtain ⟨u', p1, p2, p3⟩ := R.act (k := 1) (o1 := nI r) (o2 := nI f) (o3 := 0) (q := 2) (p1 := nI r) (p2 := nI f) (R.pos hr ht) (by omega) (by decide) (Or.inr (Or.inl ⟨pk_us, Or.inr ⟨pk_us, pk_us⟩, r, f, hr, hf, pk_us, pk_us, pk_us, pk_us⟩))
          rw [if_pos his, if_pos his, p1, Option.bind_some, if_pos hzb]
          rw [ds_ap g1 (by omega) (by decide), if_neg (by decide), if_pos rfl, pu_guard1 hr hf ht] at p3
          rw [pu_guard1 hr hf ht]
          exact ⟨u', _, rfl, Or.inl ⟨p2, _, _, hans _ _ _ rfl rfl, p3⟩⟩
        · obtain ⟨u', p1, p2, p3⟩ := R.act (k := 1) (o1 := nI r) (o2 := nI f) (o3 := 1) (q := 1) (p1 := nI r) (p2 := nI f) (R.pos hr ht) (by omega) (by decide) (Or.inr (Or.inl ⟨pk_us, Or.inl ⟨pk_us, pk_us⟩, r, f, hr, hf, pk_us, pk_us, pk_us, pk_us⟩))
          rw [if_neg his, if_neg his, p1, Option.bind_some, if_pos hzb]
          rw [ds_ap g1 (by omega) (by decide), if_neg (by decide), if_pos rfl, pu_guard1 hr hf ht] at p3
          rw [pu_guard1 hr hf ht]
          exact ⟨u', _, rfl, Or.inl ⟨p2, _, _, hans _ _ _ rfl rfl, p3⟩⟩
    · have q3 : m_X7_in w 0 3 = 0 := q2
      have q4 : m_X6_needIndex w 4 = .inl "java/lang/IndexOutOfBoundsException" := q1
      rw [q3, q4, if_pos rfl]
      exact ⟨_, _, rfl, Or.inr ⟨R.thrown 1, Or.inl ⟨rfl, rfl⟩⟩⟩
  · rw [h1, h2, Option.bind_some, if_pos rfl]
    exact ⟨_, _, rfl, Or.inr ⟨R.thrown 1, Or.inl ⟨rfl, rfl⟩⟩⟩
end prot
