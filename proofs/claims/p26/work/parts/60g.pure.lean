/-! PURE: the settings -/
section settings
variable {n b d : Nat} {st : SetS} {ld : LodS} {hi : HisS} {ct cd : CatS} {u : MdlS}
theorem nl_0 (hC : ld.2.2.2.2.2.1 = nI n) (hn : n = 0) : m_X6_needNothingLoaded st ld hi ct cd = .inr () := by
  unfold m_X6_needNothingLoaded
  rw [hC, hn]; rfl
theorem nl_1 (hC : ld.2.2.2.2.2.1 = nI n) (hn : ¬ n = 0) (h80 : n ≤ 80) : m_X6_needNothingLoaded st ld hi ct cd = .inl "java/lang/IllegalStateException" := by
  unfold m_X6_needNothingLoaded
  rw [hC, if_neg (nI_nle (by omega) (by omega))]
theorem op_setRank (R : Rel n b d st ld hi ct cd u) (v w : Int32) : ∃ u' r, m_X7_setRank u v w = some (u', r) ∧ ((u'.2.2.2.2.2.2.2.2.2.2.2.2.2.2.2.2.2.2.2.2.2.2.2.2 = 0 ∧ ∃ st', m_X6_setRank st ld hi ct cd v w = .inr (st', r) ∧ Rel n b d st' ld hi ct cd u') ∨ (Rel n b d st ld hi ct cd u' ∧ ((u'.2.2.2.2.2.2.2.2.2.2.2.2.2.2.2.2.2.2.2.2.2.2.2.2 = 1 ∧ m_X6_setRank st ld hi ct cd v w = .inl "java/lang/IndexOutOfBoundsException") ∨ (u'.2.2.2.2.2.2.2.2.2.2.2.2.2.2.2.2.2.2.2.2.2.2.2.2 = 2 ∧ m_X6_setRank st ld hi ct cd v w = .inl "java/lang/IllegalArgumentException") ∨ (u'.2.2.2.2.2.2.2.2.2.2.2.2.2.2.2.2.2.2.2.2.2.2.2.2 = 3 ∧ m_X6_setRank st ld hi ct cd v w = .inl "java/lang/IllegalStateException")))) := by
  have R0 := R
  obtain ⟨hL, hc, hO, hz, hct, h6, h7, h8⟩ := R0
  have h6' := h6
  obtain ⟨-, -, e1, -, -, e2, -⟩ := h6'
  have hn80 := hL.1
  unfold m_X7_setRank m_X6_setRank
  rcases ix_cases v (show 5 ≤ 1000 by decide) with ⟨a, ha, rfl, q1, q2⟩ | ⟨q1, q2⟩
  · have q3 : m_X7_in (nI a) 0 4 = 1 := q2
    have q4 : m_X6_needIndex (nI a) 5 = .inr () := q1
    rw [q3, q4, if_neg (show ¬ (1 : Int32) = 0 by decide)]
    rcases val_cases w (L := 0) (B := 10) (M := 9) (by decide) with ⟨k1, k2, k3, k4⟩ | ⟨k1, k2⟩
    · rw [k2, if_neg (show ¬ (1 : Int32) = 0 by decide)]
      by_cases hn : n = 0
      · have e9 : u.2.2.2.2.2.2.2.1 ≤ 0 := by rw [e2, hn]; decide
        rw [if_pos e9, if_pos (inb_n ha (by decide)), ncl (show a < 2147483648 by omega)]
        refine ⟨_, _, rfl, Or.inl ⟨rfl, ((upd st.1 a w), st.2.1, st.2.2), ?_, ?_⟩⟩
        · show xb (m_X6_needValue w 0 10) (fun _ => xb (m_X6_needNothingLoaded st ld hi ct cd) (fun _ => .inr (((m_X4_set 5 st.1 (nI a) w), st.2.1, st.2.2), m_X4_get 5 st.1 (nI a)))) = _
          rw [k1, nl_0 e1 hn, pu_set ha (by decide), pu_get ha (by decide), (hL.2.2.1 a ha).1]
          rfl
        · have hd : d = 0 := h7.2.2.1 hn
          subst hn hd
          refine ⟨⟨hL.1, hL.2.1, fun i hi => ?_, hL.2.2.2⟩, hc, hO, hz, hct, h6, h7, h8⟩
          show upd st.1 a w i = upd u.1 a w i ∧ 0 ≤ upd st.1 a w i
          by_cases e : i = a
          · rw [e, pk_us, pk_us]; exact ⟨rfl, k3⟩
          · rw [pk_un e, pk_un e]; exact hL.2.2.1 i hi
      · have e9 : ¬ u.2.2.2.2.2.2.2.1 ≤ 0 := by rw [e2]; exact nI_nle (by omega) (by omega)
        rw [if_neg e9]
        refine ⟨_, _, rfl, Or.inr ⟨R.thrown 3, Or.inr (Or.inr ⟨rfl, ?_⟩)⟩⟩
        show xb (m_X6_needValue w 0 10) (fun _ => xb (m_X6_needNothingLoaded st ld hi ct cd) _) = _
        rw [k1, nl_1 e1 hn hn80]
        rfl
    · rw [k2, if_pos rfl]
      refine ⟨_, _, rfl, Or.inr ⟨R.thrown 2, Or.inr (Or.inl ⟨rfl, ?_⟩)⟩⟩
      show xb (m_X6_needValue w 0 10) _ = _
      rw [k1]; rfl
  · have q3 : m_X7_in v 0 4 = 0 := q2
    have q4 : m_X6_needIndex v 5 = .inl "java/lang/IndexOutOfBoundsException" := q1
    rw [q3, q4, if_pos rfl]
    exact ⟨_, _, rfl, Or.inr ⟨R.thrown 1, Or.inl ⟨rfl, rfl⟩⟩⟩
theorem op_setRule (R : Rel n b d st ld hi ct cd u) (v w : Int32) : ∃ u' r, m_X7_setRule u v w = some (u', r) ∧ ((u'.2.2.2.2.2.2.2.2.2.2.2.2.2.2.2.2.2.2.2.2.2.2.2.2 = 0 ∧ ∃ st', m_X6_setRule st ld hi ct cd v w = .inr (st', r) ∧ Rel n b d st' ld hi ct cd u') ∨ (Rel n b d st ld hi ct cd u' ∧ ((u'.2.2.2.2.2.2.2.2.2.2.2.2.2.2.2.2.2.2.2.2.2.2.2.2 = 1 ∧ m_X6_setRule st ld hi ct cd v w = .inl "java/lang/IndexOutOfBoundsException") ∨ (u'.2.2.2.2.2.2.2.2.2.2.2.2.2.2.2.2.2.2.2.2.2.2.2.2 = 2 ∧ m_X6_setRule st ld hi ct cd v w = .inl "java/lang/IllegalArgumentException") ∨ (u'.2.2.2.2.2.2.2.2.2.2.2.2.2.2.2.2.2.2.2.2.2.2.2.2 = 3 ∧ m_X6_setRule st ld hi ct cd v w = .inl "java/lang/IllegalStateException")))) := by
  have R0 := R
  obtain ⟨hL, hc, hO, hz, hct, h6, h7, h8⟩ := R0
  have h6' := h6
  obtain ⟨-, -, e1, -, -, e2, -⟩ := h6'
  have hn80 := hL.1
  unfold m_X7_setRule m_X6_setRule
  rcases ix_cases v (show 4 ≤ 1000 by decide) with ⟨a, ha, rfl, q1, q2⟩ | ⟨q1, q2⟩
  · have q3 : m_X7_in (nI a) 0 3 = 1 := q2
    have q4 : m_X6_needIndex (nI a) 4 = .inr () := q1
    rw [q3, q4, if_neg (show ¬ (1 : Int32) = 0 by decide)]
    rcases val_cases w (L := 0) (B := 3) (M := 2) (by decide) with ⟨k1, k2, k3, k4⟩ | ⟨k1, k2⟩
    · rw [k2, if_neg (show ¬ (1 : Int32) = 0 by decide)]
      by_cases hn : n = 0
      · have e9 : u.2.2.2.2.2.2.2.1 ≤ 0 := by rw [e2, hn]; decide
        rw [if_pos e9, if_pos (inb_n ha (by decide)), ncl (show a < 2147483648 by omega)]
        refine ⟨_, _, rfl, Or.inl ⟨rfl, (st.1, (upd st.2.1 a w), st.2.2), ?_, ?_⟩⟩
        · show xb (m_X6_needValue w 0 3) (fun _ => xb (m_X6_needNothingLoaded st ld hi ct cd) (fun _ => .inr ((st.1, (m_X4_set 4 st.2.1 (nI a) w), st.2.2), m_X4_get 4 st.2.1 (nI a)))) = _
          rw [k1, nl_0 e1 hn, pu_set ha (by decide), pu_get ha (by decide), (hL.2.2.2.1 a ha).1]
          rfl
        · have hd : d = 0 := h7.2.2.1 hn
          subst hn hd
          refine ⟨⟨hL.1, hL.2.1, hL.2.2.1, fun i hi => ?_, hL.2.2.2.2⟩, hc, hO, hz, hct, h6, h7, h8⟩
          show upd st.2.1 a w i = upd u.2.1 a w i ∧ (upd st.2.1 a w i = 0 ∨ upd st.2.1 a w i = 1 ∨ upd st.2.1 a w i = 2)
          by_cases e : i = a
          · rw [e, pk_us, pk_us]
            refine ⟨rfl, ?_⟩
            obtain ⟨j, hj, rfl⟩ := nI_of (Int32.not_lt.mpr k3)
            have hj3 : j < 3 := (nI_ltI hj (show 3 < 2 ^ 31 by decide)).mp k4
            rcases (show j = 0 ∨ j = 1 ∨ j = 2 by omega) with rfl | rfl | rfl
            · exact Or.inl rfl
            · exact Or.inr (Or.inl rfl)
            · exact Or.inr (Or.inr rfl)
          · rw [pk_un e, pk_un e]; exact hL.2.2.2.1 i hi
      · have e9 : ¬ u.2.2.2.2.2.2.2.1 ≤ 0 := by rw [e2]; exact nI_nle (by omega) (by omega)
        rw [if_neg e9]
        refine ⟨_, _, rfl, Or.inr ⟨R.thrown 3, Or.inr (Or.inr ⟨rfl, ?_⟩)⟩⟩
        show xb (m_X6_needValue w 0 3) (fun _ => xb (m_X6_needNothingLoaded st ld hi ct cd) _) = _
        rw [k1, nl_1 e1 hn hn80]
        rfl
    · rw [k2, if_pos rfl]
      refine ⟨_, _, rfl, Or.inr ⟨R.thrown 2, Or.inr (Or.inl ⟨rfl, ?_⟩)⟩⟩
      show xb (m_X6_needValue w 0 3) _ = _
      rw [k1]; rfl
  · have q3 : m_X7_in v 0 3 = 0 := q2
    have q4 : m_X6_needIndex v 4 = .inl "java/lang/IndexOutOfBoundsException" := q1
    rw [q3, q4, if_pos rfl]
    exact ⟨_, _, rfl, Or.inr ⟨R.thrown 1, Or.inl ⟨rfl, rfl⟩⟩⟩
end settings
