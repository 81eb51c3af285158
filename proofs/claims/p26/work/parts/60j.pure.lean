/-! PURE: undo -/
section undo
variable {n b d : Nat} {st : SetS} {ld : LodS} {hi : HisS} {ct cd : CatS} {u : MdlS}
theorem op_undo (R : Rel n b d st ld hi ct cd u) (v w : Int32) (hw : w = 0 ∨ w = 1) : ∃ u' r, m_X7_undo u v w = some (u', r) ∧ ((u'.2.2.2.2.2.2.2.2.2.2.2.2.2.2.2.2.2.2.2.2.2.2.2.2 = 0 ∧ ∃ ld' ct', m_X6_undo st ld hi ct cd v w = .inr ((ld', ct'), r) ∧ Rel n b d st ld' hi ct' cd u') ∨ (Rel n b d st ld hi ct cd u' ∧ ((u'.2.2.2.2.2.2.2.2.2.2.2.2.2.2.2.2.2.2.2.2.2.2.2.2 = 1 ∧ m_X6_undo st ld hi ct cd v w = .inl "java/lang/IndexOutOfBoundsException") ∨ (u'.2.2.2.2.2.2.2.2.2.2.2.2.2.2.2.2.2.2.2.2.2.2.2.2 = 2 ∧ m_X6_undo st ld hi ct cd v w = .inl "java/lang/IllegalStateException")))) := by
  have R0 := R
  have hzc := R.JZct
  obtain ⟨hL, hc, hO, hz, hct, h6, h7, h8⟩ := R0
  have h6' := h6
  obtain ⟨g1, g2, g3, e1, e2, g6, g7⟩ := h6'
  have hb10 := hL.2.1
  have e3 : u.2.2.2.2.2.1 - 1 = nI b - 1 := by rw [e2]
  unfold m_X7_undo m_X6_undo
  rw [e3]
  rcases ix_cases v (show b ≤ 1000 by omega) with ⟨x, hx, rfl, q1, q2⟩ | ⟨q1, q2⟩
  · obtain ⟨l1, l2⟩ := hL.2.2.2.2.2.2 x hx
    have e9 : m_X4_get 10 ld.2.2.2.2.1 (nI x) = ld.2.2.2.2.1 x := pu_get (by omega) (by decide)
    have e8 : ∀ y, m_X4_set 10 ld.2.2.2.2.1 (nI x) y = upd ld.2.2.2.2.1 x y := fun y => pu_set (by omega) (by decide)
    have hvp : vp_nar .boolean w = w := by rcases hw with rfl | rfl <;> rfl
    have q3 : m_X6_needIndex (nI x) ld.2.2.2.2.2.2 = .inr () := by rw [e1]; exact q1
    rw [q3, q2, if_neg (show ¬ (1 : Int32) = 0 by decide), if_pos (inb_n (show x < 10 by omega) (by decide)), ncl (show x < 2147483648 by omega), ← l1, hvp, e9, e8, e8]
    by_cases hs : ld.2.2.2.2.1 x = w
    · rw [if_pos hs]
      refine ⟨_, _, rfl, Or.inr ⟨R.thrown 2, Or.inr ⟨rfl, ?_⟩⟩⟩
      rcases hw with rfl | rfl
      · rw [xb_r, if_pos (show (0 : Int32) = 0 from rfl), if_pos hs]
      · rw [xb_r, if_neg (show ¬ (1 : Int32) = 0 by decide), if_pos hs]
    · rw [if_neg hs]
      have hL0 : LR n b st (ld.1, ld.2.1, ld.2.2.1, ld.2.2.2.1, (upd ld.2.2.2.2.1 x w), ld.2.2.2.2.2.1, ld.2.2.2.2.2.2) (u.1, u.2.1, u.2.2.1, u.2.2.2.1, u.2.2.2.2.1, u.2.2.2.2.2.1, (upd u.2.2.2.2.2.2.1 x w), u.2.2.2.2.2.2.2.1, u.2.2.2.2.2.2.2.2.1, u.2.2.2.2.2.2.2.2.2.1, u.2.2.2.2.2.2.2.2.2.2.1, u.2.2.2.2.2.2.2.2.2.2.2.1, u.2.2.2.2.2.2.2.2.2.2.2.2.1, u.2.2.2.2.2.2.2.2.2.2.2.2.2.1, u.2.2.2.2.2.2.2.2.2.2.2.2.2.2.1, u.2.2.2.2.2.2.2.2.2.2.2.2.2.2.2.1, u.2.2.2.2.2.2.2.2.2.2.2.2.2.2.2.2.1, u.2.2.2.2.2.2.2.2.2.2.2.2.2.2.2.2.2.1, u.2.2.2.2.2.2.2.2.2.2.2.2.2.2.2.2.2.2.1, u.2.2.2.2.2.2.2.2.2.2.2.2.2.2.2.2.2.2.2.1, u.2.2.2.2.2.2.2.2.2.2.2.2.2.2.2.2.2.2.2.2.1, u.2.2.2.2.2.2.2.2.2.2.2.2.2.2.2.2.2.2.2.2.2.1, u.2.2.2.2.2.2.2.2.2.2.2.2.2.2.2.2.2.2.2.2.2.2.1, u.2.2.2.2.2.2.2.2.2.2.2.2.2.2.2.2.2.2.2.2.2.2.2.1, (0)) := by
        refine ⟨hL.1, hL.2.1, hL.2.2.1, hL.2.2.2.1, hL.2.2.2.2.1, hL.2.2.2.2.2.1, fun y hy => ?_⟩
        show upd ld.2.2.2.2.1 x w y = upd u.2.2.2.2.2.2.1 x w y ∧ (upd ld.2.2.2.2.1 x w y = 0 ∨ upd ld.2.2.2.2.1 x w y = 1)
        by_cases e : y = x
        · rw [e, pk_us, pk_us]; exact ⟨rfl, hw⟩
        · rw [pk_un e, pk_un e]; exact hL.2.2.2.2.2.2 y hy
      have hO0 : HO d n hi (u.1, u.2.1, u.2.2.1, u.2.2.2.1, u.2.2.2.2.1, u.2.2.2.2.2.1, (upd u.2.2.2.2.2.2.1 x w), u.2.2.2.2.2.2.2.1, u.2.2.2.2.2.2.2.2.1, u.2.2.2.2.2.2.2.2.2.1, u.2.2.2.2.2.2.2.2.2.2.1, u.2.2.2.2.2.2.2.2.2.2.2.1, u.2.2.2.2.2.2.2.2.2.2.2.2.1, u.2.2.2.2.2.2.2.2.2.2.2.2.2.1, u.2.2.2.2.2.2.2.2.2.2.2.2.2.2.1, u.2.2.2.2.2.2.2.2.2.2.2.2.2.2.2.1, u.2.2.2.2.2.2.2.2.2.2.2.2.2.2.2.2.1, u.2.2.2.2.2.2.2.2.2.2.2.2.2.2.2.2.2.1, u.2.2.2.2.2.2.2.2.2.2.2.2.2.2.2.2.2.2.1, u.2.2.2.2.2.2.2.2.2.2.2.2.2.2.2.2.2.2.2.1, u.2.2.2.2.2.2.2.2.2.2.2.2.2.2.2.2.2.2.2.2.1, u.2.2.2.2.2.2.2.2.2.2.2.2.2.2.2.2.2.2.2.2.2.1, u.2.2.2.2.2.2.2.2.2.2.2.2.2.2.2.2.2.2.2.2.2.2.1, u.2.2.2.2.2.2.2.2.2.2.2.2.2.2.2.2.2.2.2.2.2.2.2.1, (0)) := hO
      obtain ⟨u', p1, p2, p3, p4⟩ := ra hL0 hO0
      have hda := daa_eq (st := st) (ld := (ld.1, ld.2.1, ld.2.2.1, ld.2.2.2.1, (upd ld.2.2.2.2.1 x w), ld.2.2.2.2.2.1, ld.2.2.2.2.2.2)) hzc h6.1 hO.1
      have p2' := p2
      obtain ⟨a1, a2, a3, a4, a5, a6, a7, a8, a9, a10, a11, a12, a13, a14, a15, a16, a17, a18⟩ := p2'
      rw [p1, Option.bind_some, count_eq p3, Option.bind_some]
      refine ⟨u', _, rfl, Or.inl ⟨a18, (ld.1, ld.2.1, ld.2.2.1, ld.2.2.2.1, (upd ld.2.2.2.2.1 x w), ld.2.2.2.2.2.1, ld.2.2.2.2.2.2), RP st (ld.1, ld.2.1, ld.2.2.1, ld.2.2.2.1, (upd ld.2.2.2.2.1 x w), ld.2.2.2.2.2.1, ld.2.2.2.2.2.2) hi d, ?_, ⟨hL0.kept p2, p3, hO0.kept p2, hz, rfl, ?_, h7, ?_⟩⟩⟩
      · rcases hw with rfl | rfl
        · rw [xb_r, if_pos (show (0 : Int32) = 0 from rfl), if_neg hs]
          show Sum.inr (((ld.1, ld.2.1, ld.2.2.1, ld.2.2.2.1, (upd ld.2.2.2.2.1 x 0), ld.2.2.2.2.2.1, ld.2.2.2.2.2.2), m_X6_doAllAnew st (ld.1, ld.2.1, ld.2.2.1, ld.2.2.2.1, (upd ld.2.2.2.2.1 x 0), ld.2.2.2.2.2.1, ld.2.2.2.2.2.2) hi ct), m_X0_count (m_X6_doAllAnew st (ld.1, ld.2.1, ld.2.2.1, ld.2.2.2.1, (upd ld.2.2.2.2.1 x 0), ld.2.2.2.2.2.1, ld.2.2.2.2.2.2) hi ct)) = _
          rw [hda]
        · rw [xb_r, if_neg (show ¬ (1 : Int32) = 0 by decide), if_neg hs]
          show Sum.inr (((ld.1, ld.2.1, ld.2.2.1, ld.2.2.2.1, (upd ld.2.2.2.2.1 x 1), ld.2.2.2.2.2.1, ld.2.2.2.2.2.2), m_X6_doAllAnew st (ld.1, ld.2.1, ld.2.2.1, ld.2.2.2.1, (upd ld.2.2.2.2.1 x 1), ld.2.2.2.2.2.1, ld.2.2.2.2.2.2) hi ct), m_X0_count (m_X6_doAllAnew st (ld.1, ld.2.1, ld.2.2.1, ld.2.2.2.1, (upd ld.2.2.2.2.1 x 1), ld.2.2.2.2.2.1, ld.2.2.2.2.2.2) hi ct)) = _
          rw [hda]
      · rw [a6, a8, a13]; exact h6
      · rw [a4, a5]
        refine ⟨h8.1, h8.2.1, h8.2.2.1, h8.2.2.2.1, fun y hy1 hy2 => ?_⟩
        show upd ld.2.2.2.2.1 x w y = 0
        rw [pk_un (by omega)]; exact h8.2.2.2.2 y hy1 hy2
  · have q3 : m_X6_needIndex v ld.2.2.2.2.2.2 = .inl "java/lang/IndexOutOfBoundsException" := by rw [e1]; exact q1
    rw [q3, q2, if_pos rfl]
    exact ⟨_, _, rfl, Or.inr ⟨R.thrown 1, Or.inl ⟨rfl, rfl⟩⟩⟩
end undo
