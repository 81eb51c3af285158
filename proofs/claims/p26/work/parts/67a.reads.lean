/-! PURE: the relation through the law's loop; what isCatalogue reads -/
def DR (n : Nat) (ld : LodS) (dr : Int64) : Prop := ix dr = 0 ∧ (∀ k, k < 3 → ld.1 (n * 3 + k) = nI (kx dr k) - 1) ∧ (∀ k, k < 4 → ld.2.1 (n * 4 + k) = nI (fx dr k) - 1 ∧ gx dr k = 0)
def LV (ld : LodS) (uu : FI) (U : Nat) : Prop := uu 0 = nI U ∧ U < 1024 ∧ ∀ x, x < 10 → ld.2.2.2.2.1 x = if U.testBit x then 1 else 0
def NV (n b d : Nat) (nn : FI) : Prop := nn 0 = nI b ∧ nn 1 = nI n ∧ nn 2 = nI d
def IV (n b d U : Nat) (st : SetS) (ld : LodS) (hi : HisS) (ct cd : CatS) (u : MdlS) (v : FL) (h e nn qq : FI) (l : FL) (bb t uu : FI) (dr : Int64) : Prop :=
  Rel n b d st ld hi ct cd u ∧ RC n ct v h t ∧ QR st qq ∧ LD n ld l bb ∧ HE d hi e ∧ LV ld uu U ∧ NV n b d nn ∧ (n ≤ 40 ∧ d ≤ 64) ∧ DR n ld dr
section RD
variable {n b d U : Nat} {st : SetS} {ld : LodS} {hi : HisS} {ct cd : CatS} {u : MdlS} {v l : FL} {h e nn qq bb t uu : FI} {dr : Int64}
theorem ix_ok {a N : Nat} (h : a < N) (hN : N ≤ 1000) : m_X6_needIndex (nI a) (nI N) = .inr () := by
  unfold m_X6_needIndex
  rw [if_neg (nI_pos (by omega)), if_pos (nI_lt h (by omega))]
theorem rec_ok {r : Nat} (hr : r < 80) (ht : ct.1 r = 1) : m_X6_needRecord st ld hi ct cd (nI r) = .inr () := by
  unfold m_X6_needRecord
  rw [if_neg (pu_has1 hr ht)]
theorem rec_no {r : Nat} (hr : r < 80) (ht : ¬ ct.1 r = 1) : m_X6_needRecord st ld hi ct cd (nI r) = .inl "java/lang/IndexOutOfBoundsException" := by
  unfold m_X6_needRecord
  rw [if_pos (pu_has0 hr ht)]
theorem rd_rest (hz : ∀ r, 40 ≤ r → r < 80 → ct.1 r = 0) : ∀ (q k : Nat) (x : Int32), k + q = 80 → 40 ≤ k → m_X0_count_lp4 ct q k x = x ∧ m_X0_sum_lp4 ct q k x = x := by
  intro q
  induction q with
  | zero => intro k x _ _; exact ⟨rfl, rfl⟩
  | succ q ih =>
    intro k x hk h4
    simp only [m_X0_count_lp4, m_X0_sum_lp4]
    have hn : ¬ ct.1 k = 1 := by rw [hz k h4 (by omega)]; decide
    rw [if_pos (pu_has0 (show k < 80 by omega) hn), if_pos (pu_has0 (show k < 80 by omega) hn)]
    exact ih (k + 1) x (by omega) (by omega)
theorem rd_many (hR : RC n ct v h t) (hn : n ≤ 40) : ∀ (q k : Nat) (x : Int32), k + q = 40 → m_L_many_lp4 v q k x = some (m_X0_count_lp4 ct (40 + q) k x) := by
  intro q
  induction q with
  | zero =>
    intro k x hk
    rw [(rd_rest (fun r h1 h2 => (hR.2.2 r (by omega) h2).1) 40 k x (by omega) (by omega)).1]
    rfl
  | succ q ih =>
    intro k x hk
    have e : 40 + (q + 1) = (40 + q) + 1 := by omega
    rw [e]
    simp only [m_L_many_lp4, m_X0_count_lp4]
    rw [if_pos (inb_n (show k < 40 by omega) (by decide)), ncl (show k < 2147483648 by omega), L_isIn]
    by_cases ht : ct.1 k = 1
    · rw [hR.in1 (by omega) ht, if_neg (show ¬ nI 1 = 0 by decide), if_neg (pu_has1 (show k < 80 by omega) ht)]
      exact ih (k + 1) (x + 1) (by omega)
    · rw [hR.in0 (by omega) ht, if_pos (show nI 0 = 0 from rfl), if_pos (pu_has0 (show k < 80 by omega) ht), Int32.add_zero]
      exact ih (k + 1) x (by omega)
theorem many_eq (hR : RC n ct v h t) (hn : n ≤ 40) : m_L_many v = some (m_X0_count ct) := by
  unfold m_L_many m_X0_count
  rw [rd_many hR hn 40 0 0 rfl]
  rfl
theorem jm_nm {a : Nat} (ha : a < 2147483648) : jmax 0 (nI a - 1) = if a = 0 then 0 else nI a - 1 := by
  unfold jmax
  by_cases h : a = 0
  · rw [if_pos h, h]; rfl
  · rw [if_neg h]
    obtain ⟨c, rfl⟩ : ∃ c, a = c + 1 := ⟨a - 1, by omega⟩
    rw [nI_pred]
    by_cases h2 : (0 : Int32) < nI c
    · rw [if_pos h2]
    · rw [if_neg h2]
      have h3 : c = 0 := (nle0 (by omega)).mp (Int32.not_lt.mp h2)
      rw [h3]; rfl
theorem vals_eq {r : Nat} (hr : r < 40) (a3 : ∀ k, k < 3 → ct.2.1 (r * 3 + k) = nI (kx (v r) k) - 1) (a4 : ∀ k, k < 4 → ct.2.2.1 (r * 4 + k) = nI (fx (v r) k) - 1) : m_X0_values ct (nI r) = owF (v r) 4 := by
  have k0 : ∀ k, k < 3 → jmax 0 (m_X1_get 80 3 240 ct.2.1 (nI r) (nI k)) = if kx (v r) k = 0 then 0 else nI (kx (v r) k) - 1 := fun k hk => by
    have := kx_lt (x := v r) (k := k)
    rw [g803 (by omega) hk, a3 k hk, jm_nm (by omega)]
  have f0 : ∀ k, k < 4 → jmax 0 (m_X1_get 80 4 320 ct.2.2.1 (nI r) (nI k)) = if fx (v r) k = 0 then 0 else nI (fx (v r) k) - 1 := fun k hk => by
    have := fx_lt (x := v r) (k := k)
    rw [g804 (by omega) hk, a4 k hk, jm_nm (by omega)]
  have hK : ∀ (q k : Nat), k + q = 3 → m_X0_values_lp4 ct (nI r) q k (owK (v r) k) = owK (v r) 3 := by
    intro q
    induction q with
    | zero => intro k hk; obtain rfl : k = 3 := by omega
              rfl
    | succ q ih =>
      intro k hk
      simp only [m_X0_values_lp4]
      rw [k0 k (by omega)]
      exact ih (k + 1) (by omega)
  have hF : ∀ (fin : Int32) (q k : Nat), k + q = 4 → m_X0_values_lp33 ct (nI r) fin q k (owF (v r) k) = owF (v r) 4 := by
    intro fin q
    induction q with
    | zero => intro k hk; obtain rfl : k = 4 := by omega
              rfl
    | succ q ih =>
      intro k hk
      simp only [m_X0_values_lp33]
      rw [f0 k (by omega)]
      exact ih (k + 1) (by omega)
  unfold m_X0_values
  dsimp only
  have e1 : m_X0_values_lp4 ct (nI r) 3 0 0 = owK (v r) 3 := hK 3 0 rfl
  rw [e1]
  exact hF (owK (v r) 3) 4 0 rfl
theorem sum_dgl (hR : RC n ct v h t) (hn : n ≤ 40) : m_X0_sum ct = dgl v h 40 := by
  have key : ∀ (q k : Nat), k + q = 40 → m_X0_sum_lp4 ct (40 + q) k (dgl v h k) = dgl v h 40 := by
    intro q
    induction q with
    | zero =>
      intro k hk
      obtain rfl : k = 40 := by omega
      exact (rd_rest (fun r h1 h2 => (hR.2.2 r (by omega) h2).1) 40 40 _ rfl (Nat.le_refl _)).2
    | succ q ih =>
      intro k hk
      have e : 40 + (q + 1) = (40 + q) + 1 := by omega
      rw [e]
      simp only [m_X0_sum_lp4]
      rcases hR.1 k (by omega) with ⟨a1, a2, a3, a4, a5⟩ | ⟨a1, a2⟩
      · rw [if_neg (pu_has1 (show k < 80 by omega) a2), vals_eq (v := v) (by omega) a3 (fun k hk => (a4 k hk).1), pu_get (show k < 80 by omega) (by decide), a5, Int32.mul_comm]
        have e2 : dgl v h (k + 1) = dgl v h k + (owF (v k) 4 * (1 + nI k) + h k) := if_pos a1
        rw [← e2]
        exact ih (k + 1) (by omega)
      · rw [if_pos (pu_has0 (show k < 80 by omega) (by rw [a2]; decide))]
        have e2 : dgl v h (k + 1) = dgl v h k := if_neg (by rw [a1]; decide)
        have := ih (k + 1) (by omega)
        rw [e2] at this
        exact this
  unfold m_X0_sum
  exact key 40 0 rfl
theorem rd_f4 (hR : RC n ct v h t) (r : Nat) (hr : r < 40) : m_X6_isThere st ld hi ct cd (nI r) = nI (ix (v r)) := by
  unfold m_X6_isThere
  by_cases ht : ct.1 r = 1
  · rw [hR.in1 hr ht, pu_has (by omega), if_pos ht]; rfl
  · rw [hR.in0 hr ht, pu_has (by omega), if_neg ht]; rfl
theorem rd_f5 (hR : RC n ct v h t) (hn : n ≤ 40) (hC : ld.2.2.2.2.2.1 = nI n) (r : Nat) (hr : r < n) : m_X6_hit st ld hi ct cd (nI r) = .inr (t r) := by
  unfold m_X6_hit
  rw [hC, ix_ok hr (by omega), xb_r, pu_get (show r < 80 by omega) (by decide), hR.2.1 r hr]
theorem rd_f6 (hR : RC n ct v h t) (r : Nat) (hr : r < 40) (hi1 : ix (v r) = 1) : (∀ k, k < 3 → m_X6_keyOf st ld hi ct cd (nI r) (nI k) = .inr (nI (kx (v r) k) - 1)) ∧ (∀ k, k < 4 → m_X6_fieldOf st ld hi ct cd (nI r) (nI k) = .inr (nI (fx (v r) k) - 1) ∧ m_X6_sourceOf st ld hi ct cd (nI r) (nI k) = .inr (if fx (v r) k = 0 then -1 else nI (sx (v r) k))) ∧ m_X6_holdings st ld hi ct cd (nI r) = .inr (h r) := by
  rcases hR.1 r hr with ⟨a1, a2, a3, a4, a5⟩ | ⟨a1, a2⟩
  · refine ⟨fun k hk => ?_, fun k hk => ⟨?_, ?_⟩, ?_⟩
    · unfold m_X6_keyOf
      rw [rec_ok (by omega) a2, xb_r, show m_X6_needIndex (nI k) 3 = .inr () from ix_ok hk (by decide), xb_r, g803 (by omega) hk, a3 k hk]
    · unfold m_X6_fieldOf
      rw [rec_ok (by omega) a2, xb_r, show m_X6_needIndex (nI k) 4 = .inr () from ix_ok hk (by decide), xb_r, g804 (by omega) hk, (a4 k hk).1]
    · unfold m_X6_sourceOf
      rw [rec_ok (by omega) a2, xb_r, show m_X6_needIndex (nI k) 4 = .inr () from ix_ok hk (by decide), xb_r, g804 (by omega) hk, (a4 k hk).2.1]
    · unfold m_X6_holdings
      rw [rec_ok (by omega) a2, xb_r, pu_get (show r < 80 by omega) (by decide), a5]
  · rw [hi1] at a1; exact absurd a1 (by decide)
theorem rd_f7 (hB : ld.2.2.2.2.2.2 = nI b) (hb : b ≤ 10) (hV : LV ld uu U) (k : Nat) (hk : k < b) : m_X6_isUndone st ld hi ct cd (nI k) = .inr (if U.testBit k = true then 1 else 0) := by
  unfold m_X6_isUndone
  rw [hB, ix_ok hk (by omega), xb_r, pu_get (show k < 10 by omega) (by decide), hV.2.2 k (by omega)]
  by_cases h9 : U.testBit k = true
  · rw [if_pos h9, if_pos rfl]
  · rw [if_neg h9, if_neg (by decide)]
theorem rd_f9 (I : IV n b d U st ld hi ct cd u v h e nn qq l bb t uu dr) : (m_X6_digestAnew st ld hi ct cd).2 = dgl v h 40 ∧ ∃ u', IV n b d U st ld hi ct (m_X6_digestAnew st ld hi ct cd).1 u' v h e nn qq l bb t uu dr := by
  obtain ⟨R, hR, i3, i4, i5, i6, i7, i8, i9⟩ := I
  obtain ⟨u', -, R', -⟩ := op_digestAnew R
  have R2 := R'
  obtain ⟨hL, hc, hO, hz, hct, h6, h7, h8⟩ := R
  have e : m_X6_doAllAnew st ld hi cd = ct := (daa_eq hz h6.1 hO.1).trans hct.symm
  refine ⟨?_, u', R2, hR, i3, i4, i5, i6, i7, i8, i9⟩
  show m_X0_sum (m_X6_doAllAnew st ld hi cd) = _
  rw [e]
  exact sum_dgl hR i8.1
end RD
