/-! PURE: drafts, a new batch -/
section drafts
variable {n b d : Nat} {st : SetS} {ld ld' : LodS} {hi : HisS} {ct cd : CatS} {u : MdlS}
theorem LE.of (hL : LR n b st ld u) (h1 : ∀ i, i < n → (∀ k, k < 3 → ld'.1 (i * 3 + k) = ld.1 (i * 3 + k)) ∧ (∀ k, k < 4 → ld'.2.1 (i * 4 + k) = ld.2.1 (i * 4 + k)) ∧ ld'.2.2.1 i = ld.2.2.1 i ∧ ld'.2.2.2.1 i = ld.2.2.2.1 i) (h2 : ∀ x, x < b → ld'.2.2.2.2.1 x = ld.2.2.2.2.1 x) : LE n ld ld' := by
  intro i hi
  obtain ⟨a1, a2, a3, a4⟩ := h1 i hi
  obtain ⟨-, -, -, -, hlb, x, hx, hx2⟩ := hL.2.2.2.2.2.1 i hi
  have hb := hL.2.1
  obtain ⟨q1, q2⟩ := hL.2.2.2.2.2.2 x hx
  exact ⟨a1, a2, a3, x, by omega, hx2, a4.trans hx2, h2 x hx, q2⟩
theorem op_key (R : Rel n b d st ld hi ct cd u) (v w : Int32) : ∃ u' r, m_X7_key u v w = some (u', r) ∧ ((u'.2.2.2.2.2.2.2.2.2.2.2.2.2.2.2.2.2.2.2.2.2.2.2.2 = 0 ∧ ∃ ld', m_X6_key st ld hi ct cd v w = .inr (ld', r) ∧ Rel n b d st ld' hi ct cd u') ∨ (Rel n b d st ld hi ct cd u' ∧ ((u'.2.2.2.2.2.2.2.2.2.2.2.2.2.2.2.2.2.2.2.2.2.2.2.2 = 1 ∧ m_X6_key st ld hi ct cd v w = .inl "java/lang/IndexOutOfBoundsException") ∨ (u'.2.2.2.2.2.2.2.2.2.2.2.2.2.2.2.2.2.2.2.2.2.2.2.2 = 2 ∧ m_X6_key st ld hi ct cd v w = .inl "java/lang/IllegalArgumentException")))) := by
  have R0 := R
  obtain ⟨hL, hc, hO, hz, hct, h6, h7, h8⟩ := R0
  have h6' := h6
  obtain ⟨-, -, e1, -, -, -, -⟩ := h6'
  have hn80 := hL.1
  unfold m_X7_key m_X6_key
  rcases ix_cases v (show 3 ≤ 1000 by decide) with ⟨a, ha, rfl, q1, q2⟩ | ⟨q1, q2⟩
  · have q3 : m_X7_in (nI a) 0 2 = 1 := q2
    have q4 : m_X6_needIndex (nI a) 3 = .inr () := q1
    rw [q3, q4, if_neg (show ¬ (1 : Int32) = 0 by decide)]
    rcases val_cases w (L := -1) (B := 50) (M := 49) (by decide) with ⟨k1, k2, k3, k4⟩ | ⟨k1, k2⟩
    · rw [k2, if_neg (show ¬ (1 : Int32) = 0 by decide), if_pos (inb_n ha (by decide)), ncl (show a < 2147483648 by omega)]
      refine ⟨_, _, rfl, Or.inl ⟨rfl, ((upd ld.1 (n * 3 + a) w), ld.2.1, ld.2.2.1, ld.2.2.2.1, ld.2.2.2.2.1, ld.2.2.2.2.2.1, ld.2.2.2.2.2.2), ?_, ?_⟩⟩
      · show xb (m_X6_needValue w (-1) 50) (fun _ => .inr (((m_X1_set 81 3 243 ld.1 ld.2.2.2.2.2.1 (nI a) w), ld.2.1, ld.2.2.1, ld.2.2.2.1, ld.2.2.2.2.1, ld.2.2.2.2.2.1, ld.2.2.2.2.2.2), m_X1_get 81 3 243 ld.1 ld.2.2.2.2.2.1 (nI a))) = _
        have e9 : m_X1_set 81 3 243 ld.1 ld.2.2.2.2.2.1 (nI a) w = upd ld.1 (n * 3 + a) w := by rw [e1]; exact s813 (by omega) ha
        have e8 : m_X1_get 81 3 243 ld.1 ld.2.2.2.2.2.1 (nI a) = u.2.2.2.1 a := by rw [e1, g813 (by omega) ha]; exact (h8.1 a ha).1
        rw [k1, e9, e8]
        rfl
      · have hle : LE n ld ((upd ld.1 (n * 3 + a) w), ld.2.1, ld.2.2.1, ld.2.2.2.1, ld.2.2.2.2.1, ld.2.2.2.2.2.1, ld.2.2.2.2.2.2) := LE.of hL (fun i hin => ⟨fun k hk => by show upd ld.1 (n * 3 + a) w (i * 3 + k) = _; rw [pk_un (by omega)], fun k hk => rfl, rfl, rfl⟩) (fun x hx => rfl)
        have hrp := RP.same (hi' := hi) hle (fun k hk => ⟨rfl, rfl, rfl, rfl⟩) hL hO
        refine ⟨⟨hL.1, hL.2.1, hL.2.2.1, hL.2.2.2.1, hL.2.2.2.2.1, fun i hin => ?_, hL.2.2.2.2.2.2⟩, hc, hO, hz, hct.trans hrp.symm, h6, h7, ⟨fun k hk => ?_, h8.2.1, fun j hj1 hj2 => ?_, h8.2.2.2.1, h8.2.2.2.2⟩⟩
        · obtain ⟨z1, z2⟩ := hL.2.2.2.2.2.1 i hin
          refine ⟨fun k hk => ?_, z2⟩
          show upd ld.1 (n * 3 + a) w (i * 3 + k) = u.2.2.2.2.2.2.2.2.2.2.1 (i * 3 + k) ∧ -1 ≤ upd ld.1 (n * 3 + a) w (i * 3 + k)
          rw [pk_un (by omega)]; exact z1 k hk
        · show upd ld.1 (n * 3 + a) w (n * 3 + k) = upd u.2.2.2.1 a w k ∧ -1 ≤ upd ld.1 (n * 3 + a) w (n * 3 + k)
          by_cases e : k = a
          · rw [e, pk_us, pk_us]; exact ⟨rfl, k3⟩
          · rw [pk_un (by omega), pk_un e]; exact h8.1 k hk
        · show upd ld.1 (n * 3 + a) w j = -1
          rw [pk_un (by omega)]; exact h8.2.2.1 j hj1 hj2
    · rw [k2, if_pos rfl]
      refine ⟨_, _, rfl, Or.inr ⟨R.thrown 2, Or.inr ⟨rfl, ?_⟩⟩⟩
      show xb (m_X6_needValue w (-1) 50) _ = _
      rw [k1]; rfl
  · have q3 : m_X7_in v 0 2 = 0 := q2
    have q4 : m_X6_needIndex v 3 = .inl "java/lang/IndexOutOfBoundsException" := q1
    rw [q3, q4, if_pos rfl]
    exact ⟨_, _, rfl, Or.inr ⟨R.thrown 1, Or.inl ⟨rfl, rfl⟩⟩⟩
theorem op_field (R : Rel n b d st ld hi ct cd u) (v w : Int32) : ∃ u' r, m_X7_field u v w = some (u', r) ∧ ((u'.2.2.2.2.2.2.2.2.2.2.2.2.2.2.2.2.2.2.2.2.2.2.2.2 = 0 ∧ ∃ ld', m_X6_field st ld hi ct cd v w = .inr (ld', r) ∧ Rel n b d st ld' hi ct cd u') ∨ (Rel n b d st ld hi ct cd u' ∧ ((u'.2.2.2.2.2.2.2.2.2.2.2.2.2.2.2.2.2.2.2.2.2.2.2.2 = 1 ∧ m_X6_field st ld hi ct cd v w = .inl "java/lang/IndexOutOfBoundsException") ∨ (u'.2.2.2.2.2.2.2.2.2.2.2.2.2.2.2.2.2.2.2.2.2.2.2.2 = 2 ∧ m_X6_field st ld hi ct cd v w = .inl "java/lang/IllegalArgumentException")))) := by
  have R0 := R
  obtain ⟨hL, hc, hO, hz, hct, h6, h7, h8⟩ := R0
  have h6' := h6
  obtain ⟨-, -, e1, -, -, -, -⟩ := h6'
  have hn80 := hL.1
  unfold m_X7_field m_X6_field
  rcases ix_cases v (show 4 ≤ 1000 by decide) with ⟨a, ha, rfl, q1, q2⟩ | ⟨q1, q2⟩
  · have q3 : m_X7_in (nI a) 0 3 = 1 := q2
    have q4 : m_X6_needIndex (nI a) 4 = .inr () := q1
    rw [q3, q4, if_neg (show ¬ (1 : Int32) = 0 by decide)]
    rcases val_cases w (L := -1) (B := 100) (M := 99) (by decide) with ⟨k1, k2, k3, k4⟩ | ⟨k1, k2⟩
    · rw [k2, if_neg (show ¬ (1 : Int32) = 0 by decide), if_pos (inb_n ha (by decide)), ncl (show a < 2147483648 by omega)]
      refine ⟨_, _, rfl, Or.inl ⟨rfl, (ld.1, (upd ld.2.1 (n * 4 + a) w), ld.2.2.1, ld.2.2.2.1, ld.2.2.2.2.1, ld.2.2.2.2.2.1, ld.2.2.2.2.2.2), ?_, ?_⟩⟩
      · show xb (m_X6_needValue w (-1) 100) (fun _ => .inr ((ld.1, (m_X1_set 81 4 324 ld.2.1 ld.2.2.2.2.2.1 (nI a) w), ld.2.2.1, ld.2.2.2.1, ld.2.2.2.2.1, ld.2.2.2.2.2.1, ld.2.2.2.2.2.2), m_X1_get 81 4 324 ld.2.1 ld.2.2.2.2.2.1 (nI a))) = _
        have e9 : m_X1_set 81 4 324 ld.2.1 ld.2.2.2.2.2.1 (nI a) w = upd ld.2.1 (n * 4 + a) w := by rw [e1]; exact s814 (by omega) ha
        have e8 : m_X1_get 81 4 324 ld.2.1 ld.2.2.2.2.2.1 (nI a) = u.2.2.2.2.1 a := by rw [e1, g814 (by omega) ha]; exact (h8.2.1 a ha).1
        rw [k1, e9, e8]
        rfl
      · have hle : LE n ld (ld.1, (upd ld.2.1 (n * 4 + a) w), ld.2.2.1, ld.2.2.2.1, ld.2.2.2.2.1, ld.2.2.2.2.2.1, ld.2.2.2.2.2.2) := LE.of hL (fun i hin => ⟨fun k hk => rfl, fun k hk => by show upd ld.2.1 (n * 4 + a) w (i * 4 + k) = _; rw [pk_un (by omega)], rfl, rfl⟩) (fun x hx => rfl)
        have hrp := RP.same (hi' := hi) hle (fun k hk => ⟨rfl, rfl, rfl, rfl⟩) hL hO
        refine ⟨⟨hL.1, hL.2.1, hL.2.2.1, hL.2.2.2.1, hL.2.2.2.2.1, fun i hin => ?_, hL.2.2.2.2.2.2⟩, hc, hO, hz, hct.trans hrp.symm, h6, h7, ⟨h8.1, fun k hk => ?_, h8.2.2.1, fun j hj1 hj2 => ?_, h8.2.2.2.2⟩⟩
        · obtain ⟨z1, z2, z3⟩ := hL.2.2.2.2.2.1 i hin
          refine ⟨z1, fun k hk => ?_, z3⟩
          show upd ld.2.1 (n * 4 + a) w (i * 4 + k) = u.2.2.2.2.2.2.2.2.2.2.2.1 (i * 4 + k) ∧ -1 ≤ upd ld.2.1 (n * 4 + a) w (i * 4 + k)
          rw [pk_un (by omega)]; exact z2 k hk
        · show upd ld.2.1 (n * 4 + a) w (n * 4 + k) = upd u.2.2.2.2.1 a w k ∧ -1 ≤ upd ld.2.1 (n * 4 + a) w (n * 4 + k)
          by_cases e : k = a
          · rw [e, pk_us, pk_us]; exact ⟨rfl, k3⟩
          · rw [pk_un (by omega), pk_un e]; exact h8.2.1 k hk
        · show upd ld.2.1 (n * 4 + a) w j = -1
          rw [pk_un (by omega)]; exact h8.2.2.2.1 j hj1 hj2
    · rw [k2, if_pos rfl]
      refine ⟨_, _, rfl, Or.inr ⟨R.thrown 2, Or.inr ⟨rfl, ?_⟩⟩⟩
      show xb (m_X6_needValue w (-1) 100) _ = _
      rw [k1]; rfl
  · have q3 : m_X7_in v 0 3 = 0 := q2
    have q4 : m_X6_needIndex v 4 = .inl "java/lang/IndexOutOfBoundsException" := q1
    rw [q3, q4, if_pos rfl]
    exact ⟨_, _, rfl, Or.inr ⟨R.thrown 1, Or.inl ⟨rfl, rfl⟩⟩⟩
end drafts
