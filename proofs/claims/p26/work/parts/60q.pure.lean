/-! PURE: the start -/
theorem c00_i : i_X0 = c00 := by
  unfold i_X0 c00
  rw [fl_z (by decide) (fun _ _ => rfl), fl_z (by decide) (fun _ _ => rfl), fl_z (by decide) (fun _ _ => rfl), fl_z (by decide) (fun _ _ => rfl), fl_z (by decide) (fun _ _ => rfl), if_z, if_z]
theorem iX7_e : i_X7 = (i_X7a.1, i_X7a.2.1, i_X7a.2.2.1, (fun j => if 0 ≤ j ∧ j < 3 then -1 else i_X7a.2.2.2.1 j), (fun j => if 0 ≤ j ∧ j < 4 then -1 else i_X7a.2.2.2.2.1 j), i_X7a.2.2.2.2.2.1, i_X7a.2.2.2.2.2.2.1, i_X7a.2.2.2.2.2.2.2.1, i_X7a.2.2.2.2.2.2.2.2.1, i_X7a.2.2.2.2.2.2.2.2.2.1, i_X7a.2.2.2.2.2.2.2.2.2.2.1, i_X7a.2.2.2.2.2.2.2.2.2.2.2.1, i_X7a.2.2.2.2.2.2.2.2.2.2.2.2.1, i_X7a.2.2.2.2.2.2.2.2.2.2.2.2.2.1, i_X7a.2.2.2.2.2.2.2.2.2.2.2.2.2.2.1, i_X7a.2.2.2.2.2.2.2.2.2.2.2.2.2.2.2.1, i_X7a.2.2.2.2.2.2.2.2.2.2.2.2.2.2.2.2.1, i_X7a.2.2.2.2.2.2.2.2.2.2.2.2.2.2.2.2.2.1, i_X7a.2.2.2.2.2.2.2.2.2.2.2.2.2.2.2.2.2.2.1, i_X7a.2.2.2.2.2.2.2.2.2.2.2.2.2.2.2.2.2.2.2.1, i_X7a.2.2.2.2.2.2.2.2.2.2.2.2.2.2.2.2.2.2.2.2.1, i_X7a.2.2.2.2.2.2.2.2.2.2.2.2.2.2.2.2.2.2.2.2.2.1, i_X7a.2.2.2.2.2.2.2.2.2.2.2.2.2.2.2.2.2.2.2.2.2.2.1, i_X7a.2.2.2.2.2.2.2.2.2.2.2.2.2.2.2.2.2.2.2.2.2.2.2.1, i_X7a.2.2.2.2.2.2.2.2.2.2.2.2.2.2.2.2.2.2.2.2.2.2.2.2) := Option.some.inj (i_X7_eq.symm.trans ed_eq)
theorem iLK : i_X3.1 = fun j => if j < 243 then -1 else 0 := by
  unfold i_X3
  dsimp only
  rw [fl_z (by decide) (fun _ _ => rfl)]
theorem iLF : i_X3.2.1 = fun j => if j < 324 then -1 else 0 := by
  unfold i_X3
  dsimp only
  rw [fl_z (by decide) (fun _ _ => rfl)]
theorem iLU : i_X3.2.2.2.2.1 = fun _ => 0 := (fl_z (by decide) (fun _ _ => rfl)).trans if_z
theorem iRK : ∀ i, i < 5 → i_X5.1 i = i_X7a.1 i ∧ 0 ≤ i_X5.1 i := by decide +kernel
theorem iRU : ∀ k, k < 4 → i_X5.2.1 k = i_X7a.2.1 k ∧ (i_X5.2.1 k = 0 ∨ i_X5.2.1 k = 1 ∨ i_X5.2.1 k = 2) := by decide +kernel
theorem iOD1 : ∀ k, k < 3 → i_X5.2.2 k = i_X7a.2.2.1 k ∧ i_X5.2.2 k = nI k := by decide +kernel
theorem Rel.start : Rel 0 0 0 i_X5 i_X3 i_X2 i_X0 i_X0 i_X7 := by
  rw [iX7_e]
  refine ⟨⟨by decide, by decide, iRK, iRU, fun k hk => ⟨(iOD1 k hk).1, k, hk, (iOD1 k hk).2⟩, fun i hi => absurd hi (by omega), fun x hx => absurd hx (by omega)⟩, ?_, ⟨by decide, fun k hk => absurd hk (by omega), rfl, by decide +kernel⟩, ?_, ?_, ⟨by decide +kernel, by decide +kernel, by decide +kernel, by decide +kernel, by decide +kernel, by decide +kernel, by decide +kernel⟩, ⟨by decide, by decide, fun _ => rfl, fun _ => rfl⟩, ?_⟩
  · rw [c00_i]
    exact CR.c0 (fun r hr => rfl)
  · rw [c00_i]; exact JZ.c0
  · rw [c00_i]; rfl
  · refine ⟨fun k hk => ?_, fun k hk => ?_, fun j hj1 hj2 => ?_, fun j hj1 hj2 => ?_, fun x hx1 hx2 => ?_⟩
    · rw [iLK]
      show (if 0 * 3 + k < 243 then (-1 : Int32) else 0) = (if 0 ≤ k ∧ k < 3 then -1 else i_X7a.2.2.2.1 k) ∧ -1 ≤ (if 0 * 3 + k < 243 then (-1 : Int32) else 0)
      rw [if_pos (by omega), if_pos ⟨Nat.zero_le k, hk⟩]
      exact ⟨rfl, by decide⟩
    · rw [iLF]
      show (if 0 * 4 + k < 324 then (-1 : Int32) else 0) = (if 0 ≤ k ∧ k < 4 then -1 else i_X7a.2.2.2.2.1 k) ∧ -1 ≤ (if 0 * 4 + k < 324 then (-1 : Int32) else 0)
      rw [if_pos (by omega), if_pos ⟨Nat.zero_le k, hk⟩]
      exact ⟨rfl, by decide⟩
    · rw [iLK]
      show (if j < 243 then (-1 : Int32) else 0) = -1
      rw [if_pos hj2]
    · rw [iLF]
      show (if j < 324 then (-1 : Int32) else 0) = -1
      rw [if_pos hj2]
    · rw [iLU]
