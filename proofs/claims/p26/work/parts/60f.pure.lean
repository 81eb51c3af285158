/-! PURE: values; the reads -/
theorem val_cases (v : Int32) {L B M : Int32} (h : B.toInt = M.toInt + 1) : (m_X6_needValue v L B = .inr () ∧ m_X7_in v L M = 1 ∧ L ≤ v ∧ v < B) ∨ (m_X6_needValue v L B = .inl "java/lang/IllegalArgumentException" ∧ m_X7_in v L M = 0) := by
  unfold m_X6_needValue m_X7_in
  by_cases h1 : v < L
  · right; rw [if_pos h1, if_pos h1]; exact ⟨rfl, rfl⟩
  · rw [if_neg h1, if_neg h1]
    by_cases h2 : v < B
    · left
      have h3 : ¬ M < v := fun h9 => by
        have a1 := Int32.lt_iff_toInt_lt.mp h2
        have a2 := Int32.lt_iff_toInt_lt.mp h9
        omega
      rw [if_pos h2, if_neg h3]
      exact ⟨rfl, rfl, Int32.not_lt.mp h1, h2⟩
    · right
      have h3 : M < v := Int32.lt_iff_toInt_lt.mpr (by
        have a1 : ¬ v.toInt < B.toInt := fun h8 => h2 (Int32.lt_iff_toInt_lt.mpr h8)
        omega)
      rw [if_neg h2, if_pos h3]
      exact ⟨rfl, rfl⟩
section reads
variable {n b d : Nat} {st : SetS} {ld : LodS} {hi : HisS} {ct cd : CatS} {u : MdlS}
theorem op_isUndone (R : Rel n b d st ld hi ct cd u) (v : Int32) : ∃ u' r, m_X7_isUndone u v = some (u', r) ∧ Rel n b d st ld hi ct cd u' ∧ ((u'.2.2.2.2.2.2.2.2.2.2.2.2.2.2.2.2.2.2.2.2.2.2.2.2 = 0 ∧ m_X6_isUndone st ld hi ct cd v = .inr r) ∨ (u'.2.2.2.2.2.2.2.2.2.2.2.2.2.2.2.2.2.2.2.2.2.2.2.2 = 1 ∧ m_X6_isUndone st ld hi ct cd v = .inl "java/lang/IndexOutOfBoundsException")) := by
  have R0 := R
  obtain ⟨hL, -, -, -, -, ⟨-, -, -, e1, e2, -, -⟩, -, -⟩ := R0
  have hb := hL.2.1
  have e3 : u.2.2.2.2.2.1 - 1 = nI b - 1 := by rw [e2]
  unfold m_X7_isUndone m_X6_isUndone
  rw [e1, e3]
  rcases ix_cases v (show b ≤ 1000 by omega) with ⟨x, hx, rfl, h1, h2⟩ | ⟨h1, h2⟩
  · obtain ⟨q1, q2⟩ := hL.2.2.2.2.2.2 x hx
    rw [h1, h2, if_neg (show ¬ (1 : Int32) = 0 by decide), if_pos (inb_n (show x < 10 by omega) (by decide)), ncl (show x < 2147483648 by omega), ← q1]
    have e9 : m_X4_get 10 ld.2.2.2.2.1 (nI x) = ld.2.2.2.2.1 x := pu_get (by omega) (by decide)
    rcases q2 with h3 | h3
    · rw [if_pos h3]
      refine ⟨_, _, rfl, R.thrown 0, Or.inl ⟨rfl, ?_⟩⟩
      show (if m_X4_get 10 ld.2.2.2.2.1 (nI x) = 1 then _ else _) = _
      rw [e9, h3]; rfl
    · rw [if_neg (by rw [h3]; decide)]
      refine ⟨_, _, rfl, R.thrown 0, Or.inl ⟨rfl, ?_⟩⟩
      show (if m_X4_get 10 ld.2.2.2.2.1 (nI x) = 1 then _ else _) = _
      rw [e9, h3]; rfl
  · rw [h1, h2, if_pos rfl]
    exact ⟨_, _, rfl, R.thrown 1, Or.inr ⟨rfl, rfl⟩⟩
theorem op_hit (R : Rel n b d st ld hi ct cd u) (v : Int32) : ∃ u' r, m_X7_hit u v = some (u', r) ∧ Rel n b d st ld hi ct cd u' ∧ ((u'.2.2.2.2.2.2.2.2.2.2.2.2.2.2.2.2.2.2.2.2.2.2.2.2 = 0 ∧ m_X6_hit st ld hi ct cd v = .inr r) ∨ (u'.2.2.2.2.2.2.2.2.2.2.2.2.2.2.2.2.2.2.2.2.2.2.2.2 = 1 ∧ m_X6_hit st ld hi ct cd v = .inl "java/lang/IndexOutOfBoundsException")) := by
  have R0 := R
  obtain ⟨hL, hc, -, -, -, ⟨-, -, e1, -, -, e2, -⟩, -, -⟩ := R0
  have hn := hL.1
  have e3 : u.2.2.2.2.2.2.2.1 - 1 = nI n - 1 := by rw [e2]
  unfold m_X7_hit m_X6_hit
  rw [e1, e3]
  rcases ix_cases v (show n ≤ 1000 by omega) with ⟨x, hx, rfl, h1, h2⟩ | ⟨h1, h2⟩
  · rw [h1, h2, if_neg (show ¬ (1 : Int32) = 0 by decide), if_pos (inb_n (show x < 80 by omega) (by decide)), ncl (show x < 2147483648 by omega)]
    refine ⟨_, _, rfl, R.thrown 0, Or.inl ⟨rfl, ?_⟩⟩
    show Sum.inr (m_X4_get 80 ct.2.2.2.2.2.2 (nI x)) = _
    rw [pu_get (show x < 80 by omega) (by decide), hc.2.2.1 x hx]
  · rw [h1, h2, if_pos rfl]
    exact ⟨_, _, rfl, R.thrown 1, Or.inr ⟨rfl, rfl⟩⟩
theorem op_holdings (R : Rel n b d st ld hi ct cd u) (v : Int32) : ∃ u' r, m_X7_holdings u v = some (u', r) ∧ Rel n b d st ld hi ct cd u' ∧ ((u'.2.2.2.2.2.2.2.2.2.2.2.2.2.2.2.2.2.2.2.2.2.2.2.2 = 0 ∧ m_X6_holdings st ld hi ct cd v = .inr r) ∨ (u'.2.2.2.2.2.2.2.2.2.2.2.2.2.2.2.2.2.2.2.2.2.2.2.2 = 1 ∧ m_X6_holdings st ld hi ct cd v = .inl "java/lang/IndexOutOfBoundsException")) := by
  have hc := R.2.1
  unfold m_X7_holdings m_X6_holdings
  rcases rec_cases (cd := cd) (st := st) (ld := ld) (hi := hi) hc v with ⟨r, hr, rfl, ht, h1, h2, -⟩ | ⟨h1, h2, -⟩
  · rw [h1, h2, Option.bind_some, if_neg (show ¬ (1 : Int32) = 0 by decide), if_pos (inb_n hr (by decide)), ncl (show r < 2147483648 by omega)]
    refine ⟨_, _, rfl, R.thrown 0, Or.inl ⟨rfl, ?_⟩⟩
    show Sum.inr (m_X4_get 80 ct.2.2.2.2.2.1 (nI r)) = _
    rw [pu_get hr (by decide), (hc.2.1 r hr ht).2.2]
  · rw [h1, h2, Option.bind_some, if_pos rfl]
    exact ⟨_, _, rfl, R.thrown 1, Or.inr ⟨rfl, rfl⟩⟩
theorem op_keyOf (R : Rel n b d st ld hi ct cd u) (v w : Int32) : ∃ u' r, m_X7_keyOf u v w = some (u', r) ∧ Rel n b d st ld hi ct cd u' ∧ ((u'.2.2.2.2.2.2.2.2.2.2.2.2.2.2.2.2.2.2.2.2.2.2.2.2 = 0 ∧ m_X6_keyOf st ld hi ct cd v w = .inr r) ∨ (u'.2.2.2.2.2.2.2.2.2.2.2.2.2.2.2.2.2.2.2.2.2.2.2.2 = 1 ∧ m_X6_keyOf st ld hi ct cd v w = .inl "java/lang/IndexOutOfBoundsException")) := by
  have hc := R.2.1
  unfold m_X7_keyOf m_X6_keyOf
  rcases rec_cases (cd := cd) (st := st) (ld := ld) (hi := hi) hc v with ⟨r, hr, rfl, ht, h1, h2, -⟩ | ⟨h1, h2, -⟩
  · rw [h1, h2, Option.bind_some, if_neg (show ¬ (1 : Int32) = 0 by decide)]
    rcases ix_cases w (show 3 ≤ 1000 by decide) with ⟨x, hx, rfl, h3, h4⟩ | ⟨h3, h4⟩
    · have h5 : m_X7_in (nI x) 0 2 = 1 := h4
      have h6 : m_X6_needIndex (nI x) 3 = .inr () := h3
      rw [h5, h6, if_neg (show ¬ (1 : Int32) = 0 by decide), ix3, if_pos (inb_n (show r * 3 + x < 240 by omega) (by decide)), ncl (show r * 3 + x < 2147483648 by omega)]
      refine ⟨_, _, rfl, R.thrown 0, Or.inl ⟨rfl, ?_⟩⟩
      show Sum.inr (m_X1_get 80 3 240 ct.2.1 (nI r) (nI x)) = _
      rw [g803 hr hx, (hc.2.1 r hr ht).1 x hx]
    · have h5 : m_X7_in w 0 2 = 0 := h4
      have h6 : m_X6_needIndex w 3 = .inl "java/lang/IndexOutOfBoundsException" := h3
      rw [h5, h6, if_pos rfl]
      exact ⟨_, _, rfl, R.thrown 1, Or.inr ⟨rfl, rfl⟩⟩
  · rw [h1, h2, Option.bind_some, if_pos rfl]
    exact ⟨_, _, rfl, R.thrown 1, Or.inr ⟨rfl, rfl⟩⟩
theorem op_fieldOf (R : Rel n b d st ld hi ct cd u) (v w : Int32) : ∃ u' r, m_X7_fieldOf u v w = some (u', r) ∧ Rel n b d st ld hi ct cd u' ∧ ((u'.2.2.2.2.2.2.2.2.2.2.2.2.2.2.2.2.2.2.2.2.2.2.2.2 = 0 ∧ m_X6_fieldOf st ld hi ct cd v w = .inr r) ∨ (u'.2.2.2.2.2.2.2.2.2.2.2.2.2.2.2.2.2.2.2.2.2.2.2.2 = 1 ∧ m_X6_fieldOf st ld hi ct cd v w = .inl "java/lang/IndexOutOfBoundsException")) := by
  have hc := R.2.1
  unfold m_X7_fieldOf m_X6_fieldOf
  rcases rec_cases (cd := cd) (st := st) (ld := ld) (hi := hi) hc v with ⟨r, hr, rfl, ht, h1, h2, -⟩ | ⟨h1, h2, -⟩
  · rw [h1, h2, Option.bind_some, if_neg (show ¬ (1 : Int32) = 0 by decide)]
    rcases ix_cases w (show 4 ≤ 1000 by decide) with ⟨x, hx, rfl, h3, h4⟩ | ⟨h3, h4⟩
    · have h5 : m_X7_in (nI x) 0 3 = 1 := h4
      have h6 : m_X6_needIndex (nI x) 4 = .inr () := h3
      rw [h5, h6, if_neg (show ¬ (1 : Int32) = 0 by decide), ix4, if_pos (inb_n (show r * 4 + x < 320 by omega) (by decide)), ncl (show r * 4 + x < 2147483648 by omega)]
      refine ⟨_, _, rfl, R.thrown 0, Or.inl ⟨rfl, ?_⟩⟩
      show Sum.inr (m_X1_get 80 4 320 ct.2.2.1 (nI r) (nI x)) = _
      rw [g804 hr hx, ((hc.2.1 r hr ht).2.1 x hx).1]
    · have h5 : m_X7_in w 0 3 = 0 := h4
      have h6 : m_X6_needIndex w 4 = .inl "java/lang/IndexOutOfBoundsException" := h3
      rw [h5, h6, if_pos rfl]
      exact ⟨_, _, rfl, R.thrown 1, Or.inr ⟨rfl, rfl⟩⟩
  · rw [h1, h2, Option.bind_some, if_pos rfl]
    exact ⟨_, _, rfl, R.thrown 1, Or.inr ⟨rfl, rfl⟩⟩
theorem op_sourceOf (R : Rel n b d st ld hi ct cd u) (v w : Int32) : ∃ u' r, m_X7_sourceOf u v w = some (u', r) ∧ Rel n b d st ld hi ct cd u' ∧ ((u'.2.2.2.2.2.2.2.2.2.2.2.2.2.2.2.2.2.2.2.2.2.2.2.2 = 0 ∧ m_X6_sourceOf st ld hi ct cd v w = .inr r) ∨ (u'.2.2.2.2.2.2.2.2.2.2.2.2.2.2.2.2.2.2.2.2.2.2.2.2 = 1 ∧ m_X6_sourceOf st ld hi ct cd v w = .inl "java/lang/IndexOutOfBoundsException")) := by
  have hc := R.2.1
  unfold m_X7_sourceOf m_X6_sourceOf
  rcases rec_cases (cd := cd) (st := st) (ld := ld) (hi := hi) hc v with ⟨r, hr, rfl, ht, h1, h2, -⟩ | ⟨h1, h2, -⟩
  · rw [h1, h2, Option.bind_some, if_neg (show ¬ (1 : Int32) = 0 by decide)]
    rcases ix_cases w (show 4 ≤ 1000 by decide) with ⟨x, hx, rfl, h3, h4⟩ | ⟨h3, h4⟩
    · have h5 : m_X7_in (nI x) 0 3 = 1 := h4
      have h6 : m_X6_needIndex (nI x) 4 = .inr () := h3
      rw [h5, h6, if_neg (show ¬ (1 : Int32) = 0 by decide), ix4, if_pos (inb_n (show r * 4 + x < 320 by omega) (by decide)), ncl (show r * 4 + x < 2147483648 by omega)]
      refine ⟨_, _, rfl, R.thrown 0, Or.inl ⟨rfl, ?_⟩⟩
      show Sum.inr (m_X1_get 80 4 320 ct.2.2.2.1 (nI r) (nI x)) = _
      rw [g804 hr hx, ((hc.2.1 r hr ht).2.1 x hx).2.1]
    · have h5 : m_X7_in w 0 3 = 0 := h4
      have h6 : m_X6_needIndex w 4 = .inl "java/lang/IndexOutOfBoundsException" := h3
      rw [h5, h6, if_pos rfl]
      exact ⟨_, _, rfl, R.thrown 1, Or.inr ⟨rfl, rfl⟩⟩
  · rw [h1, h2, Option.bind_some, if_pos rfl]
    exact ⟨_, _, rfl, R.thrown 1, Or.inr ⟨rfl, rfl⟩⟩
theorem op_records (R : Rel n b d st ld hi ct cd u) : ∃ u', m_X7_records u = some (u', m_X6_records st ld hi ct cd) ∧ Rel n b d st ld hi ct cd u' ∧ u'.2.2.2.2.2.2.2.2.2.2.2.2.2.2.2.2.2.2.2.2.2.2.2.2 = 0 := by
  have hc : CR n n ct (u.1, u.2.1, u.2.2.1, u.2.2.2.1, u.2.2.2.2.1, u.2.2.2.2.2.1, u.2.2.2.2.2.2.1, u.2.2.2.2.2.2.2.1, u.2.2.2.2.2.2.2.2.1, u.2.2.2.2.2.2.2.2.2.1, u.2.2.2.2.2.2.2.2.2.2.1, u.2.2.2.2.2.2.2.2.2.2.2.1, u.2.2.2.2.2.2.2.2.2.2.2.2.1, u.2.2.2.2.2.2.2.2.2.2.2.2.2.1, u.2.2.2.2.2.2.2.2.2.2.2.2.2.2.1, u.2.2.2.2.2.2.2.2.2.2.2.2.2.2.2.1, u.2.2.2.2.2.2.2.2.2.2.2.2.2.2.2.2.1, u.2.2.2.2.2.2.2.2.2.2.2.2.2.2.2.2.2.1, u.2.2.2.2.2.2.2.2.2.2.2.2.2.2.2.2.2.2.1, u.2.2.2.2.2.2.2.2.2.2.2.2.2.2.2.2.2.2.2.1, u.2.2.2.2.2.2.2.2.2.2.2.2.2.2.2.2.2.2.2.2.1, u.2.2.2.2.2.2.2.2.2.2.2.2.2.2.2.2.2.2.2.2.2.1, u.2.2.2.2.2.2.2.2.2.2.2.2.2.2.2.2.2.2.2.2.2.2.1, u.2.2.2.2.2.2.2.2.2.2.2.2.2.2.2.2.2.2.2.2.2.2.2.1, (0)) := R.2.1
  refine ⟨(u.1, u.2.1, u.2.2.1, u.2.2.2.1, u.2.2.2.2.1, u.2.2.2.2.2.1, u.2.2.2.2.2.2.1, u.2.2.2.2.2.2.2.1, u.2.2.2.2.2.2.2.2.1, u.2.2.2.2.2.2.2.2.2.1, u.2.2.2.2.2.2.2.2.2.2.1, u.2.2.2.2.2.2.2.2.2.2.2.1, u.2.2.2.2.2.2.2.2.2.2.2.2.1, u.2.2.2.2.2.2.2.2.2.2.2.2.2.1, u.2.2.2.2.2.2.2.2.2.2.2.2.2.2.1, u.2.2.2.2.2.2.2.2.2.2.2.2.2.2.2.1, u.2.2.2.2.2.2.2.2.2.2.2.2.2.2.2.2.1, u.2.2.2.2.2.2.2.2.2.2.2.2.2.2.2.2.2.1, u.2.2.2.2.2.2.2.2.2.2.2.2.2.2.2.2.2.2.1, u.2.2.2.2.2.2.2.2.2.2.2.2.2.2.2.2.2.2.2.1, u.2.2.2.2.2.2.2.2.2.2.2.2.2.2.2.2.2.2.2.2.1, u.2.2.2.2.2.2.2.2.2.2.2.2.2.2.2.2.2.2.2.2.2.1, u.2.2.2.2.2.2.2.2.2.2.2.2.2.2.2.2.2.2.2.2.2.2.1, u.2.2.2.2.2.2.2.2.2.2.2.2.2.2.2.2.2.2.2.2.2.2.2.1, (0)), ?_, R.thrown 0, rfl⟩
  unfold m_X7_records m_X6_records
  rw [count_eq hc]; rfl
theorem op_digest (R : Rel n b d st ld hi ct cd u) : ∃ u', m_X7_digest u = some (u', m_X6_digest st ld hi ct cd) ∧ Rel n b d st ld hi ct cd u' ∧ u'.2.2.2.2.2.2.2.2.2.2.2.2.2.2.2.2.2.2.2.2.2.2.2.2 = 0 := by
  have hc : CR n n ct (u.1, u.2.1, u.2.2.1, u.2.2.2.1, u.2.2.2.2.1, u.2.2.2.2.2.1, u.2.2.2.2.2.2.1, u.2.2.2.2.2.2.2.1, u.2.2.2.2.2.2.2.2.1, u.2.2.2.2.2.2.2.2.2.1, u.2.2.2.2.2.2.2.2.2.2.1, u.2.2.2.2.2.2.2.2.2.2.2.1, u.2.2.2.2.2.2.2.2.2.2.2.2.1, u.2.2.2.2.2.2.2.2.2.2.2.2.2.1, u.2.2.2.2.2.2.2.2.2.2.2.2.2.2.1, u.2.2.2.2.2.2.2.2.2.2.2.2.2.2.2.1, u.2.2.2.2.2.2.2.2.2.2.2.2.2.2.2.2.1, u.2.2.2.2.2.2.2.2.2.2.2.2.2.2.2.2.2.1, u.2.2.2.2.2.2.2.2.2.2.2.2.2.2.2.2.2.2.1, u.2.2.2.2.2.2.2.2.2.2.2.2.2.2.2.2.2.2.2.1, u.2.2.2.2.2.2.2.2.2.2.2.2.2.2.2.2.2.2.2.2.1, u.2.2.2.2.2.2.2.2.2.2.2.2.2.2.2.2.2.2.2.2.2.1, u.2.2.2.2.2.2.2.2.2.2.2.2.2.2.2.2.2.2.2.2.2.2.1, u.2.2.2.2.2.2.2.2.2.2.2.2.2.2.2.2.2.2.2.2.2.2.2.1, (0)) := R.2.1
  refine ⟨(u.1, u.2.1, u.2.2.1, u.2.2.2.1, u.2.2.2.2.1, u.2.2.2.2.2.1, u.2.2.2.2.2.2.1, u.2.2.2.2.2.2.2.1, u.2.2.2.2.2.2.2.2.1, u.2.2.2.2.2.2.2.2.2.1, u.2.2.2.2.2.2.2.2.2.2.1, u.2.2.2.2.2.2.2.2.2.2.2.1, u.2.2.2.2.2.2.2.2.2.2.2.2.1, u.2.2.2.2.2.2.2.2.2.2.2.2.2.1, u.2.2.2.2.2.2.2.2.2.2.2.2.2.2.1, u.2.2.2.2.2.2.2.2.2.2.2.2.2.2.2.1, u.2.2.2.2.2.2.2.2.2.2.2.2.2.2.2.2.1, u.2.2.2.2.2.2.2.2.2.2.2.2.2.2.2.2.2.1, u.2.2.2.2.2.2.2.2.2.2.2.2.2.2.2.2.2.2.1, u.2.2.2.2.2.2.2.2.2.2.2.2.2.2.2.2.2.2.2.1, u.2.2.2.2.2.2.2.2.2.2.2.2.2.2.2.2.2.2.2.2.1, u.2.2.2.2.2.2.2.2.2.2.2.2.2.2.2.2.2.2.2.2.2.1, u.2.2.2.2.2.2.2.2.2.2.2.2.2.2.2.2.2.2.2.2.2.2.1, u.2.2.2.2.2.2.2.2.2.2.2.2.2.2.2.2.2.2.2.2.2.2.2.1, (0)), ?_, R.thrown 0, rfl⟩
  unfold m_X7_digest m_X6_digest
  rw [sum_eq hc]; rfl
theorem op_batches (R : Rel n b d st ld hi ct cd u) : ∃ u', m_X7_batches u = some (u', m_X6_batches st ld hi ct cd) ∧ Rel n b d st ld hi ct cd u' ∧ u'.2.2.2.2.2.2.2.2.2.2.2.2.2.2.2.2.2.2.2.2.2.2.2.2 = 0 := by
  refine ⟨(u.1, u.2.1, u.2.2.1, u.2.2.2.1, u.2.2.2.2.1, u.2.2.2.2.2.1, u.2.2.2.2.2.2.1, u.2.2.2.2.2.2.2.1, u.2.2.2.2.2.2.2.2.1, u.2.2.2.2.2.2.2.2.2.1, u.2.2.2.2.2.2.2.2.2.2.1, u.2.2.2.2.2.2.2.2.2.2.2.1, u.2.2.2.2.2.2.2.2.2.2.2.2.1, u.2.2.2.2.2.2.2.2.2.2.2.2.2.1, u.2.2.2.2.2.2.2.2.2.2.2.2.2.2.1, u.2.2.2.2.2.2.2.2.2.2.2.2.2.2.2.1, u.2.2.2.2.2.2.2.2.2.2.2.2.2.2.2.2.1, u.2.2.2.2.2.2.2.2.2.2.2.2.2.2.2.2.2.1, u.2.2.2.2.2.2.2.2.2.2.2.2.2.2.2.2.2.2.1, u.2.2.2.2.2.2.2.2.2.2.2.2.2.2.2.2.2.2.2.1, u.2.2.2.2.2.2.2.2.2.2.2.2.2.2.2.2.2.2.2.2.1, u.2.2.2.2.2.2.2.2.2.2.2.2.2.2.2.2.2.2.2.2.2.1, u.2.2.2.2.2.2.2.2.2.2.2.2.2.2.2.2.2.2.2.2.2.2.1, u.2.2.2.2.2.2.2.2.2.2.2.2.2.2.2.2.2.2.2.2.2.2.2.1, (0)), ?_, R.thrown 0, rfl⟩
  obtain ⟨-, -, -, -, -, ⟨-, -, -, e1, e2, -, -⟩, -, -⟩ := R
  unfold m_X7_batches m_X6_batches
  rw [e1, e2]
theorem op_loads (R : Rel n b d st ld hi ct cd u) : ∃ u', m_X7_loads u = some (u', m_X6_loads st ld hi ct cd) ∧ Rel n b d st ld hi ct cd u' ∧ u'.2.2.2.2.2.2.2.2.2.2.2.2.2.2.2.2.2.2.2.2.2.2.2.2 = 0 := by
  refine ⟨(u.1, u.2.1, u.2.2.1, u.2.2.2.1, u.2.2.2.2.1, u.2.2.2.2.2.1, u.2.2.2.2.2.2.1, u.2.2.2.2.2.2.2.1, u.2.2.2.2.2.2.2.2.1, u.2.2.2.2.2.2.2.2.2.1, u.2.2.2.2.2.2.2.2.2.2.1, u.2.2.2.2.2.2.2.2.2.2.2.1, u.2.2.2.2.2.2.2.2.2.2.2.2.1, u.2.2.2.2.2.2.2.2.2.2.2.2.2.1, u.2.2.2.2.2.2.2.2.2.2.2.2.2.2.1, u.2.2.2.2.2.2.2.2.2.2.2.2.2.2.2.1, u.2.2.2.2.2.2.2.2.2.2.2.2.2.2.2.2.1, u.2.2.2.2.2.2.2.2.2.2.2.2.2.2.2.2.2.1, u.2.2.2.2.2.2.2.2.2.2.2.2.2.2.2.2.2.2.1, u.2.2.2.2.2.2.2.2.2.2.2.2.2.2.2.2.2.2.2.1, u.2.2.2.2.2.2.2.2.2.2.2.2.2.2.2.2.2.2.2.2.1, u.2.2.2.2.2.2.2.2.2.2.2.2.2.2.2.2.2.2.2.2.2.1, u.2.2.2.2.2.2.2.2.2.2.2.2.2.2.2.2.2.2.2.2.2.2.1, u.2.2.2.2.2.2.2.2.2.2.2.2.2.2.2.2.2.2.2.2.2.2.2.1, (0)), ?_, R.thrown 0, rfl⟩
  obtain ⟨-, -, -, -, -, ⟨-, -, e1, -, -, e2, -⟩, -, -⟩ := R
  unfold m_X7_loads m_X6_loads
  rw [e1, e2]
theorem op_isThere (R : Rel n b d st ld hi ct cd u) (v : Int32) : ∃ u', m_X7_isThere u v = some (u', m_X6_isThere st ld hi ct cd v) ∧ Rel n b d st ld hi ct cd u' ∧ u'.2.2.2.2.2.2.2.2.2.2.2.2.2.2.2.2.2.2.2.2.2.2.2.2 = 0 := by
  have hc : CR n n ct (u.1, u.2.1, u.2.2.1, u.2.2.2.1, u.2.2.2.2.1, u.2.2.2.2.2.1, u.2.2.2.2.2.2.1, u.2.2.2.2.2.2.2.1, u.2.2.2.2.2.2.2.2.1, u.2.2.2.2.2.2.2.2.2.1, u.2.2.2.2.2.2.2.2.2.2.1, u.2.2.2.2.2.2.2.2.2.2.2.1, u.2.2.2.2.2.2.2.2.2.2.2.2.1, u.2.2.2.2.2.2.2.2.2.2.2.2.2.1, u.2.2.2.2.2.2.2.2.2.2.2.2.2.2.1, u.2.2.2.2.2.2.2.2.2.2.2.2.2.2.2.1, u.2.2.2.2.2.2.2.2.2.2.2.2.2.2.2.2.1, u.2.2.2.2.2.2.2.2.2.2.2.2.2.2.2.2.2.1, u.2.2.2.2.2.2.2.2.2.2.2.2.2.2.2.2.2.2.1, u.2.2.2.2.2.2.2.2.2.2.2.2.2.2.2.2.2.2.2.1, u.2.2.2.2.2.2.2.2.2.2.2.2.2.2.2.2.2.2.2.2.1, u.2.2.2.2.2.2.2.2.2.2.2.2.2.2.2.2.2.2.2.2.2.1, u.2.2.2.2.2.2.2.2.2.2.2.2.2.2.2.2.2.2.2.2.2.2.1, u.2.2.2.2.2.2.2.2.2.2.2.2.2.2.2.2.2.2.2.2.2.2.2.1, (0)) := R.2.1
  refine ⟨(u.1, u.2.1, u.2.2.1, u.2.2.2.1, u.2.2.2.2.1, u.2.2.2.2.2.1, u.2.2.2.2.2.2.1, u.2.2.2.2.2.2.2.1, u.2.2.2.2.2.2.2.2.1, u.2.2.2.2.2.2.2.2.2.1, u.2.2.2.2.2.2.2.2.2.2.1, u.2.2.2.2.2.2.2.2.2.2.2.1, u.2.2.2.2.2.2.2.2.2.2.2.2.1, u.2.2.2.2.2.2.2.2.2.2.2.2.2.1, u.2.2.2.2.2.2.2.2.2.2.2.2.2.2.1, u.2.2.2.2.2.2.2.2.2.2.2.2.2.2.2.1, u.2.2.2.2.2.2.2.2.2.2.2.2.2.2.2.2.1, u.2.2.2.2.2.2.2.2.2.2.2.2.2.2.2.2.2.1, u.2.2.2.2.2.2.2.2.2.2.2.2.2.2.2.2.2.2.1, u.2.2.2.2.2.2.2.2.2.2.2.2.2.2.2.2.2.2.2.1, u.2.2.2.2.2.2.2.2.2.2.2.2.2.2.2.2.2.2.2.2.1, u.2.2.2.2.2.2.2.2.2.2.2.2.2.2.2.2.2.2.2.2.2.1, u.2.2.2.2.2.2.2.2.2.2.2.2.2.2.2.2.2.2.2.2.2.2.1, u.2.2.2.2.2.2.2.2.2.2.2.2.2.2.2.2.2.2.2.2.2.2.2.1, (0)), ?_, R.thrown 0, rfl⟩
  unfold m_X7_isThere m_X6_isThere
  rcases rec_cases (cd := cd) (st := st) (ld := ld) (hi := hi) hc v with ⟨r, hr, rfl, ht, -, h2, h3⟩ | ⟨-, h2, h3⟩
  · rw [h2, h3, Option.bind_some, if_pos (show zb 1 = true by decide)]
  · rw [h2, h3, Option.bind_some, if_pos (show zb 0 = true by decide)]
end reads
