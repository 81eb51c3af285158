/-! PURE: the order of the keys -/
section order
variable {n b d : Nat} {st : SetS} {ld : LodS} {hi : HisS} {ct cd : CatS} {u : MdlS}
theorem val3 {v : Int32} (h1 : 0 ≤ v) (h2 : v < 3) : ∃ o, o < 3 ∧ v = nI o := by
  obtain ⟨j, hj, rfl⟩ := nI_of (Int32.not_lt.mpr h1)
  exact ⟨j, (nI_ltI hj (show 3 < 2 ^ 31 by decide)).mp h2, rfl⟩
theorem op_setOrder (R : Rel n b d st ld hi ct cd u) (v w z : Int32) : ∃ u', m_X7_setOrder u v w z = some u' ∧ ((u'.2.2.2.2.2.2.2.2.2.2.2.2.2.2.2.2.2.2.2.2.2.2.2.2 = 0 ∧ ∃ st', m_X6_setOrder st ld hi ct cd v w z = .inr st' ∧ Rel n b d st' ld hi ct cd u') ∨ (Rel n b d st ld hi ct cd u' ∧ ((u'.2.2.2.2.2.2.2.2.2.2.2.2.2.2.2.2.2.2.2.2.2.2.2.2 = 1 ∧ m_X6_setOrder st ld hi ct cd v w z = .inl "java/lang/IllegalArgumentException") ∨ (u'.2.2.2.2.2.2.2.2.2.2.2.2.2.2.2.2.2.2.2.2.2.2.2.2 = 2 ∧ m_X6_setOrder st ld hi ct cd v w z = .inl "java/lang/IllegalStateException")))) := by
  have R0 := R
  obtain ⟨hL, hc, hO, hz, hct, h6, h7, h8⟩ := R0
  have h6' := h6
  obtain ⟨-, -, e1, -, -, e2, -⟩ := h6'
  have hn80 := hL.1
  have one0 : ¬ (1 : Int32) = 0 := by decide
  unfold m_X7_setOrder m_X6_setOrder
  rcases val_cases v (L := 0) (B := 3) (M := 2) (by decide) with ⟨k1, k2, k3, k4⟩ | ⟨k1, k2⟩
  · rw [k1, k2, if_neg one0, xb_r]
    rcases val_cases w (L := 0) (B := 3) (M := 2) (by decide) with ⟨l1, l2, l3, l4⟩ | ⟨l1, l2⟩
    · rw [l1, l2, if_neg one0, xb_r]
      rcases val_cases z (L := 0) (B := 3) (M := 2) (by decide) with ⟨m1, m2, m3, m4⟩ | ⟨m1, m2⟩
      · rw [m1, m2, if_neg one0, xb_r]
        by_cases f1 : v = w
        · rw [if_pos f1, if_pos f1]
          exact ⟨_, rfl, Or.inr ⟨R.thrown 1, Or.inl ⟨rfl, rfl⟩⟩⟩
        · rw [if_neg f1, if_neg f1]
          by_cases f2 : v = z
          · rw [if_pos f2, if_pos f2]
            refine ⟨_, rfl, Or.inr ⟨R.thrown 1, Or.inl ⟨rfl, ?_⟩⟩⟩
            split
            · rfl
            · rfl
          · rw [if_neg f2, if_neg f2]
            by_cases f3 : w = z
            · rw [if_pos f3, if_pos f3]
              exact ⟨_, rfl, Or.inr ⟨R.thrown 1, Or.inl ⟨rfl, rfl⟩⟩⟩
            · rw [if_neg f3, if_neg f3]
              by_cases hn : n = 0
              · have e9 : u.2.2.2.2.2.2.2.1 ≤ 0 := by rw [e2, hn]; decide
                rw [if_pos e9, if_pos (show inb 0 3 = true by decide), if_pos (show inb 1 3 = true by decide), if_pos (show inb 2 3 = true by decide), nl_0 e1 hn, xb_r]
                have s0 : ∀ (f : FI) (x : Int32), m_X4_set 3 f 0 x = upd f 0 x := fun f x => pu_set (i := 0) (by decide) (by decide)
                have s1 : ∀ (f : FI) (x : Int32), m_X4_set 3 f 1 x = upd f 1 x := fun f x => pu_set (i := 1) (by decide) (by decide)
                have s2 : ∀ (f : FI) (x : Int32), m_X4_set 3 f 2 x = upd f 2 x := fun f x => pu_set (i := 2) (by decide) (by decide)
                have t0 : (0 : Int32).toNatClampNeg = 0 := by decide
                have t1 : (1 : Int32).toNatClampNeg = 1 := by decide
                have t2 : (2 : Int32).toNatClampNeg = 2 := by decide
                rw [s0, s1, s2, t0, t1, t2]
                have hd : d = 0 := h7.2.2.1 hn
                subst hn hd
                refine ⟨_, rfl, Or.inl ⟨rfl, _, rfl, ⟨hL.1, hL.2.1, hL.2.2.1, hL.2.2.2.1, fun k hk => ?_, hL.2.2.2.2.2⟩, hc, hO, hz, hct, h6, h7, h8⟩⟩
                show upd (upd (upd st.2.2 0 v) 1 w) 2 z k = upd (upd (upd u.2.2.1 0 v) 1 w) 2 z k ∧ ∃ o, o < 3 ∧ upd (upd (upd st.2.2 0 v) 1 w) 2 z k = nI o
                rcases (show k = 0 ∨ k = 1 ∨ k = 2 by omega) with rfl | rfl | rfl
                · rw [pk_un (show 0 ≠ 2 by decide), pk_un (show 0 ≠ 1 by decide), pk_us, pk_un (show 0 ≠ 2 by decide), pk_un (show 0 ≠ 1 by decide), pk_us]
                  exact ⟨rfl, val3 k3 k4⟩
                · rw [pk_un (show 1 ≠ 2 by decide), pk_us, pk_un (show 1 ≠ 2 by decide), pk_us]
                  exact ⟨rfl, val3 l3 l4⟩
                · rw [pk_us, pk_us]
                  exact ⟨rfl, val3 m3 m4⟩
              · have e9 : ¬ u.2.2.2.2.2.2.2.1 ≤ 0 := by rw [e2]; exact nI_nle (by omega) (by omega)
                rw [if_neg e9, nl_1 e1 hn hn80]
                exact ⟨_, rfl, Or.inr ⟨R.thrown 2, Or.inr ⟨rfl, rfl⟩⟩⟩
      · rw [m1, m2, if_pos rfl]
        exact ⟨_, rfl, Or.inr ⟨R.thrown 1, Or.inl ⟨rfl, rfl⟩⟩⟩
    · rw [l1, l2, if_pos rfl]
      exact ⟨_, rfl, Or.inr ⟨R.thrown 1, Or.inl ⟨rfl, rfl⟩⟩⟩
  · rw [k1, k2, if_pos rfl]
    exact ⟨_, rfl, Or.inr ⟨R.thrown 1, Or.inl ⟨rfl, rfl⟩⟩⟩
end order
