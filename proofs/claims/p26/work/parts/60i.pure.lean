/-! PURE: a new batch; all done anew -/
section anew
variable {n b d : Nat} {st : SetS} {ld : LodS} {hi : HisS} {ct cd : CatS} {u : MdlS}
theorem op_beginBatch (R : Rel n b d st ld hi ct cd u) : ∃ u' r, m_X7_beginBatch u = some (u', r) ∧ ((u'.2.2.2.2.2.2.2.2.2.2.2.2.2.2.2.2.2.2.2.2.2.2.2.2 = 0 ∧ ∃ ld', m_X6_beginBatch st ld hi ct cd = .inr (ld', r) ∧ Rel n (b + 1) d st ld' hi ct cd u') ∨ (Rel n b d st ld hi ct cd u' ∧ u'.2.2.2.2.2.2.2.2.2.2.2.2.2.2.2.2.2.2.2.2.2.2.2.2 = 1 ∧ m_X6_beginBatch st ld hi ct cd = .inl "java/lang/IllegalStateException")) := by
  have R0 := R
  obtain ⟨hL, hc, hO, hz, hct, ⟨g1, g2, g3, e1, e2, g6, g7⟩, h7, h8⟩ := R0
  have hb10 := hL.2.1
  unfold m_X7_beginBatch m_X6_beginBatch
  by_cases hb : b = 10
  · have e9 : u.2.2.2.2.2.1 = 10 := by rw [e2, hb]; rfl
    have e8 : ¬ ld.2.2.2.2.2.2 < 10 := by rw [e1, hb]; decide
    rw [if_pos e9, if_neg e8]
    exact ⟨_, _, rfl, Or.inr ⟨R.thrown 1, rfl, rfl⟩⟩
  · have e9 : ¬ u.2.2.2.2.2.1 = 10 := by rw [e2]; exact fun h => hb ((nI_eq (b := 10) (by omega) (by decide)).mp h)
    have e8 : inb u.2.2.2.2.2.1 10 = true := by rw [e2]; exact inb_n (by omega) (by decide)
    have e7 : u.2.2.2.2.2.1.toNatClampNeg = b := by rw [e2, ncl (by omega)]
    have e6 : ld.2.2.2.2.2.2 < 10 := by rw [e1]; exact nI_lt (b := 10) (by omega) (by decide)
    have e5 : u.2.2.2.2.2.1 + 1 - 1 = ld.2.2.2.2.2.2 := by rw [e1, e2, nI_1, nI_pred]
    rw [if_neg e9, if_pos e8, if_pos e6, e7, e5, vp0]
    refine ⟨_, _, rfl, Or.inl ⟨rfl, (ld.1, ld.2.1, ld.2.2.1, ld.2.2.2.1, ld.2.2.2.2.1, ld.2.2.2.2.2.1, (ld.2.2.2.2.2.2 + 1)), rfl, ?_⟩⟩
    have hle : LE n ld (ld.1, ld.2.1, ld.2.2.1, ld.2.2.2.1, ld.2.2.2.2.1, ld.2.2.2.2.2.1, (ld.2.2.2.2.2.2 + 1)) := LE.of hL (fun i hin => ⟨fun k hk => rfl, fun k hk => rfl, rfl, rfl⟩) (fun x hx => rfl)
    have hrp := RP.same (hi' := hi) hle (fun k hk => ⟨rfl, rfl, rfl, rfl⟩) hL hO
    refine ⟨⟨hL.1, by omega, hL.2.2.1, hL.2.2.2.1, hL.2.2.2.2.1, fun i hin => ?_, fun x hx => ?_⟩, hc, hO, hz, hct.trans hrp.symm, ⟨g1, g2, g3, ?_, ?_, g6, g7⟩, ⟨h7.1, h7.2.1, h7.2.2.1, fun h => absurd h (by omega)⟩, ⟨h8.1, h8.2.1, h8.2.2.1, h8.2.2.2.1, fun x hx1 hx2 => h8.2.2.2.2 x (by omega) hx2⟩⟩
    · obtain ⟨z1, z2, z3, z4, z5, x, hx, hx2⟩ := hL.2.2.2.2.2.1 i hin
      exact ⟨z1, z2, z3, z4, z5, x, by omega, hx2⟩
    · show ld.2.2.2.2.1 x = upd u.2.2.2.2.2.2.1 b 0 x ∧ (ld.2.2.2.2.1 x = 0 ∨ ld.2.2.2.2.1 x = 1)
      by_cases e : x = b
      · rw [e, pk_us, h8.2.2.2.2 b (Nat.le_refl b) (by omega)]; exact ⟨rfl, Or.inl rfl⟩
      · rw [pk_un e]; exact hL.2.2.2.2.2.2 x (by omega)
    · show ld.2.2.2.2.2.2 + 1 = nI (b + 1)
      rw [e1, nI_1]
    · show u.2.2.2.2.2.1 + 1 = nI (b + 1)
      rw [e2, nI_1]
theorem Rel.JZct (R : Rel n b d st ld hi ct cd u) : JZ ct := by
  obtain ⟨hL, hc, hO, hz, hct, -⟩ := R
  obtain ⟨u', -, -, -, h4⟩ := ra hL hO
  rw [hct]; exact h4
theorem op_digestAnew (R : Rel n b d st ld hi ct cd u) : ∃ u', m_X7_digestAnew u = some (u', (m_X6_digestAnew st ld hi ct cd).2) ∧ Rel n b d st ld hi ct (m_X6_digestAnew st ld hi ct cd).1 u' ∧ u'.2.2.2.2.2.2.2.2.2.2.2.2.2.2.2.2.2.2.2.2.2.2.2.2 = 0 := by
  have R0 : Rel n b d st ld hi ct cd (u.1, u.2.1, u.2.2.1, u.2.2.2.1, u.2.2.2.2.1, u.2.2.2.2.2.1, u.2.2.2.2.2.2.1, u.2.2.2.2.2.2.2.1, u.2.2.2.2.2.2.2.2.1, u.2.2.2.2.2.2.2.2.2.1, u.2.2.2.2.2.2.2.2.2.2.1, u.2.2.2.2.2.2.2.2.2.2.2.1, u.2.2.2.2.2.2.2.2.2.2.2.2.1, u.2.2.2.2.2.2.2.2.2.2.2.2.2.1, u.2.2.2.2.2.2.2.2.2.2.2.2.2.2.1, u.2.2.2.2.2.2.2.2.2.2.2.2.2.2.2.1, u.2.2.2.2.2.2.2.2.2.2.2.2.2.2.2.2.1, u.2.2.2.2.2.2.2.2.2.2.2.2.2.2.2.2.2.1, u.2.2.2.2.2.2.2.2.2.2.2.2.2.2.2.2.2.2.1, u.2.2.2.2.2.2.2.2.2.2.2.2.2.2.2.2.2.2.2.1, u.2.2.2.2.2.2.2.2.2.2.2.2.2.2.2.2.2.2.2.2.1, u.2.2.2.2.2.2.2.2.2.2.2.2.2.2.2.2.2.2.2.2.2.1, u.2.2.2.2.2.2.2.2.2.2.2.2.2.2.2.2.2.2.2.2.2.2.1, u.2.2.2.2.2.2.2.2.2.2.2.2.2.2.2.2.2.2.2.2.2.2.2.1, (0)) := R.thrown 0
  obtain ⟨hL, hc, hO, hz, hct, h6, h7, h8⟩ := R0
  obtain ⟨u', p1, p2, p3, p4⟩ := ra hL hO
  have hda := daa_eq (st := st) (ld := ld) hz h6.1 hO.1
  have p2' := p2
  obtain ⟨a1, a2, a3, a4, a5, a6, a7, a8, a9, a10, a11, a12, a13, a14, a15, a16, a17, a18⟩ := p2'
  have hdg : m_X6_digestAnew st ld hi ct cd = (RP st ld hi d, m_X0_sum (RP st ld hi d)) := by
    unfold m_X6_digestAnew
    dsimp only
    rw [hda]
  rw [hdg]
  refine ⟨u', ?_, ⟨hL.kept p2, ?_, hO.kept p2, p4, hct, ?_, h7, ?_⟩, a18⟩
  · unfold m_X7_digestAnew
    rw [p1, Option.bind_some, sum_eq p3, Option.bind_some]
  · rw [hct]; exact p3
  · rw [a6, a8, a13]; exact h6
  · rw [a4, a5]; exact h8
end anew
