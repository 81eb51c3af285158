/-! PURE: the whole history done anew; count and sum -/
theorem rf_cl {mu : MdlS} : ∀ (q k : Nat) (s : MdlS), k + q = 80 → m_X7_makeAnew_lp2 mu q k s = some (s.1, s.2.1, s.2.2.1, s.2.2.2.1, s.2.2.2.2.1, s.2.2.2.2.2.1, s.2.2.2.2.2.2.1, s.2.2.2.2.2.2.2.1, s.2.2.2.2.2.2.2.2.1, s.2.2.2.2.2.2.2.2.2.1, s.2.2.2.2.2.2.2.2.2.2.1, s.2.2.2.2.2.2.2.2.2.2.2.1, s.2.2.2.2.2.2.2.2.2.2.2.2.1, s.2.2.2.2.2.2.2.2.2.2.2.2.2.1, s.2.2.2.2.2.2.2.2.2.2.2.2.2.2.1, s.2.2.2.2.2.2.2.2.2.2.2.2.2.2.2.1, s.2.2.2.2.2.2.2.2.2.2.2.2.2.2.2.2.1, s.2.2.2.2.2.2.2.2.2.2.2.2.2.2.2.2.2.1, (fun j => if k ≤ j ∧ j < 80 then 0 else s.2.2.2.2.2.2.2.2.2.2.2.2.2.2.2.2.2.2.1 j), s.2.2.2.2.2.2.2.2.2.2.2.2.2.2.2.2.2.2.2.1, s.2.2.2.2.2.2.2.2.2.2.2.2.2.2.2.2.2.2.2.2.1, s.2.2.2.2.2.2.2.2.2.2.2.2.2.2.2.2.2.2.2.2.2.1, s.2.2.2.2.2.2.2.2.2.2.2.2.2.2.2.2.2.2.2.2.2.2.1, s.2.2.2.2.2.2.2.2.2.2.2.2.2.2.2.2.2.2.2.2.2.2.2.1, s.2.2.2.2.2.2.2.2.2.2.2.2.2.2.2.2.2.2.2.2.2.2.2.2) := by
  intro q
  induction q with
  | zero =>
    intro k s hk
    have e : (fun j => if k ≤ j ∧ j < 80 then 0 else s.2.2.2.2.2.2.2.2.2.2.2.2.2.2.2.2.2.2.1 j) = s.2.2.2.2.2.2.2.2.2.2.2.2.2.2.2.2.2.2.1 := by funext j; rw [if_neg (by omega)]
    rw [e]; rfl
  | succ q ih =>
    intro k s hk
    simp only [m_X7_makeAnew_lp2]
    rw [if_pos (inb_n (show k < 80 by omega) (by decide)), ncl (show k < 2147483648 by omega), vp0, ih (k + 1) _ (by omega)]
    dsimp only
    have e : (fun j => if k + 1 ≤ j ∧ j < 80 then 0 else upd s.2.2.2.2.2.2.2.2.2.2.2.2.2.2.2.2.2.2.1 k 0 j) = (fun j => if k ≤ j ∧ j < 80 then 0 else s.2.2.2.2.2.2.2.2.2.2.2.2.2.2.2.2.2.2.1 j) := by
      funext j
      by_cases hj : j = k
      · rw [hj, if_neg (by omega), if_pos (by omega), pk_us]
      · rw [pk_un hj]
        by_cases h9 : k + 1 ≤ j ∧ j < 80
        · rw [if_pos h9, if_pos (by omega)]
        · rw [if_neg h9, if_neg (by omega)]
    rw [e]
theorem CR.c0 {u : MdlS} (h : ∀ r, r < 80 → u.2.2.2.2.2.2.2.2.2.2.2.2.2.2.2.2.2.2.1 r = 0) : CR 0 0 c00 u := by
  refine ⟨fun r hr => ⟨(h r hr).symm, Or.inl rfl⟩, fun r hr ht => absurd ht (by show ¬ (0 : Int32) = 1; decide), fun i hi => absurd hi (by omega), fun r _ hr => ⟨rfl, fun k hk => if_pos (by omega), fun k hk => ⟨if_pos (by omega), if_pos (by omega), rfl⟩, rfl⟩, fun j hj => ⟨Or.inl (if_pos hj), Or.inl rfl, ?_⟩, fun j hj => ?_⟩
  · show (-1 : Int32) ≤ if j < 320 then -1 else 0
    rw [if_pos hj]; decide
  · show (-1 : Int32) ≤ if j < 240 then -1 else 0
    rw [if_pos hj]; decide
theorem lp6_any {st : SetS} {ld : LodS} {hi : HisS} {ct c1 ct' c1' : CatS} : ∀ (q k : Nat) (c : CatS), m_X6_doAllAnew_lp6 st ld hi ct c1 q k c = m_X6_doAllAnew_lp6 st ld hi ct' c1' q k c := by
  intro q
  induction q with
  | zero => intro k c; rfl
  | succ q ih => intro k c; simp only [m_X6_doAllAnew_lp6]; exact ih _ _
theorem lp6_snoc {st : SetS} {ld : LodS} {hi : HisS} {ct c1 : CatS} : ∀ (q k : Nat) (c : CatS), m_X6_doAllAnew_lp6 st ld hi ct c1 (q + 1) k c = m_X6_doStep st ld hi (m_X6_doAllAnew_lp6 st ld hi ct c1 q k c) (nI (k + q)) := by
  intro q
  induction q with
  | zero => intro k c; rfl
  | succ q ih =>
    intro k c
    have e1 : m_X6_doAllAnew_lp6 st ld hi ct c1 (q + 1 + 1) k c = m_X6_doAllAnew_lp6 st ld hi ct c1 (q + 1) (k + 1) (m_X6_doStep st ld hi c (nI k)) := rfl
    have e2 : m_X6_doAllAnew_lp6 st ld hi ct c1 (q + 1) k c = m_X6_doAllAnew_lp6 st ld hi ct c1 q (k + 1) (m_X6_doStep st ld hi c (nI k)) := rfl
    rw [e1, e2, ih, show k + 1 + q = k + (q + 1) by omega]
/-- the catalogue after d lines -/
def RP (st : SetS) (ld : LodS) (hi : HisS) (d : Nat) : CatS := m_X6_doAllAnew_lp6 st ld hi c00 c00 d 0 c00
theorem RP.succ {st : SetS} {ld : LodS} {hi : HisS} {d : Nat} : RP st ld hi (d + 1) = m_X6_doStep st ld hi (RP st ld hi d) (nI d) := by
  unfold RP; rw [lp6_snoc, Nat.zero_add]
theorem daa_eq {st : SetS} {ld : LodS} {hi : HisS} {cd : CatS} {d : Nat} (hz : JZ cd) (hN : hi.2.2.2.2.1 = nI d) (hd : d ≤ 180) : m_X6_doAllAnew st ld hi cd = RP st ld hi d := by
  unfold m_X6_doAllAnew RP
  dsimp only
  rw [cl_c00 hz, hN, ncl (by omega)]
  exact lp6_any d 0 c00
theorem ra {d n b : Nat} {u : MdlS} {st : SetS} {ld : LodS} {hi : HisS} (hL : LR n b st ld u) (hO : HO d n hi u) :
    ∃ u', m_X7_makeAnew u = some u' ∧ KU u u' ∧ CR n n (RP st ld hi d) u' ∧ JZ (RP st ld hi d) := by
  have hO2 := hO
  obtain ⟨hd, -, -, hdm⟩ := hO2
  have k0 : KU u (u.1, u.2.1, u.2.2.1, u.2.2.2.1, u.2.2.2.2.1, u.2.2.2.2.2.1, u.2.2.2.2.2.2.1, u.2.2.2.2.2.2.2.1, u.2.2.2.2.2.2.2.2.1, u.2.2.2.2.2.2.2.2.2.1, u.2.2.2.2.2.2.2.2.2.2.1, u.2.2.2.2.2.2.2.2.2.2.2.1, u.2.2.2.2.2.2.2.2.2.2.2.2.1, u.2.2.2.2.2.2.2.2.2.2.2.2.2.1, u.2.2.2.2.2.2.2.2.2.2.2.2.2.2.1, u.2.2.2.2.2.2.2.2.2.2.2.2.2.2.2.1, u.2.2.2.2.2.2.2.2.2.2.2.2.2.2.2.2.1, u.2.2.2.2.2.2.2.2.2.2.2.2.2.2.2.2.2.1, (fun j => if 0 ≤ j ∧ j < 80 then 0 else u.2.2.2.2.2.2.2.2.2.2.2.2.2.2.2.2.2.2.1 j), u.2.2.2.2.2.2.2.2.2.2.2.2.2.2.2.2.2.2.2.1, u.2.2.2.2.2.2.2.2.2.2.2.2.2.2.2.2.2.2.2.2.1, u.2.2.2.2.2.2.2.2.2.2.2.2.2.2.2.2.2.2.2.2.2.1, u.2.2.2.2.2.2.2.2.2.2.2.2.2.2.2.2.2.2.2.2.2.2.1, u.2.2.2.2.2.2.2.2.2.2.2.2.2.2.2.2.2.2.2.2.2.2.2.1, u.2.2.2.2.2.2.2.2.2.2.2.2.2.2.2.2.2.2.2.2.2.2.2.2) := KU.rf
  have hc : CR (lcn hi 0) (lcn hi 0) c00 (u.1, u.2.1, u.2.2.1, u.2.2.2.1, u.2.2.2.2.1, u.2.2.2.2.2.1, u.2.2.2.2.2.2.1, u.2.2.2.2.2.2.2.1, u.2.2.2.2.2.2.2.2.1, u.2.2.2.2.2.2.2.2.2.1, u.2.2.2.2.2.2.2.2.2.2.1, u.2.2.2.2.2.2.2.2.2.2.2.1, u.2.2.2.2.2.2.2.2.2.2.2.2.1, u.2.2.2.2.2.2.2.2.2.2.2.2.2.1, u.2.2.2.2.2.2.2.2.2.2.2.2.2.2.1, u.2.2.2.2.2.2.2.2.2.2.2.2.2.2.2.1, u.2.2.2.2.2.2.2.2.2.2.2.2.2.2.2.2.1, u.2.2.2.2.2.2.2.2.2.2.2.2.2.2.2.2.2.1, (fun j => if 0 ≤ j ∧ j < 80 then 0 else u.2.2.2.2.2.2.2.2.2.2.2.2.2.2.2.2.2.2.1 j), u.2.2.2.2.2.2.2.2.2.2.2.2.2.2.2.2.2.2.2.1, u.2.2.2.2.2.2.2.2.2.2.2.2.2.2.2.2.2.2.2.2.1, u.2.2.2.2.2.2.2.2.2.2.2.2.2.2.2.2.2.2.2.2.2.1, u.2.2.2.2.2.2.2.2.2.2.2.2.2.2.2.2.2.2.2.2.2.2.1, u.2.2.2.2.2.2.2.2.2.2.2.2.2.2.2.2.2.2.2.2.2.2.2.1, u.2.2.2.2.2.2.2.2.2.2.2.2.2.2.2.2.2.2.2.2.2.2.2.2) := CR.c0 (fun r hr => by dsimp only; exact if_pos ⟨Nat.zero_le r, hr⟩)
  obtain ⟨u', h1, h2, h3, h4⟩ := ra_lp (ct := c00) (c1 := c00) (mu := u) (fin := (u.1, u.2.1, u.2.2.1, u.2.2.2.1, u.2.2.2.2.1, u.2.2.2.2.2.1, u.2.2.2.2.2.2.1, u.2.2.2.2.2.2.2.1, u.2.2.2.2.2.2.2.2.1, u.2.2.2.2.2.2.2.2.2.1, u.2.2.2.2.2.2.2.2.2.2.1, u.2.2.2.2.2.2.2.2.2.2.2.1, u.2.2.2.2.2.2.2.2.2.2.2.2.1, u.2.2.2.2.2.2.2.2.2.2.2.2.2.1, u.2.2.2.2.2.2.2.2.2.2.2.2.2.2.1, u.2.2.2.2.2.2.2.2.2.2.2.2.2.2.2.1, u.2.2.2.2.2.2.2.2.2.2.2.2.2.2.2.2.1, u.2.2.2.2.2.2.2.2.2.2.2.2.2.2.2.2.2.1, (fun j => if 0 ≤ j ∧ j < 80 then 0 else u.2.2.2.2.2.2.2.2.2.2.2.2.2.2.2.2.2.2.1 j), u.2.2.2.2.2.2.2.2.2.2.2.2.2.2.2.2.2.2.2.1, u.2.2.2.2.2.2.2.2.2.2.2.2.2.2.2.2.2.2.2.2.1, u.2.2.2.2.2.2.2.2.2.2.2.2.2.2.2.2.2.2.2.2.2.1, u.2.2.2.2.2.2.2.2.2.2.2.2.2.2.2.2.2.2.2.2.2.2.1, u.2.2.2.2.2.2.2.2.2.2.2.2.2.2.2.2.2.2.2.2.2.2.2.1, u.2.2.2.2.2.2.2.2.2.2.2.2.2.2.2.2.2.2.2.2.2.2.2.2)) d 0 c00 _ (by omega) hc (hL.kept k0) (hO.kept k0) JZ.c0
  refine ⟨u', ?_, k0.tr h2, h3, h4⟩
  have h9 : (m_X7_makeAnew_lp23 u (u.1, u.2.1, u.2.2.1, u.2.2.2.1, u.2.2.2.2.1, u.2.2.2.2.2.1, u.2.2.2.2.2.2.1, u.2.2.2.2.2.2.2.1, u.2.2.2.2.2.2.2.2.1, u.2.2.2.2.2.2.2.2.2.1, u.2.2.2.2.2.2.2.2.2.2.1, u.2.2.2.2.2.2.2.2.2.2.2.1, u.2.2.2.2.2.2.2.2.2.2.2.2.1, u.2.2.2.2.2.2.2.2.2.2.2.2.2.1, u.2.2.2.2.2.2.2.2.2.2.2.2.2.2.1, u.2.2.2.2.2.2.2.2.2.2.2.2.2.2.2.1, u.2.2.2.2.2.2.2.2.2.2.2.2.2.2.2.2.1, u.2.2.2.2.2.2.2.2.2.2.2.2.2.2.2.2.2.1, (fun j => if 0 ≤ j ∧ j < 80 then 0 else u.2.2.2.2.2.2.2.2.2.2.2.2.2.2.2.2.2.2.1 j), u.2.2.2.2.2.2.2.2.2.2.2.2.2.2.2.2.2.2.2.1, u.2.2.2.2.2.2.2.2.2.2.2.2.2.2.2.2.2.2.2.2.1, u.2.2.2.2.2.2.2.2.2.2.2.2.2.2.2.2.2.2.2.2.2.1, u.2.2.2.2.2.2.2.2.2.2.2.2.2.2.2.2.2.2.2.2.2.2.1, u.2.2.2.2.2.2.2.2.2.2.2.2.2.2.2.2.2.2.2.2.2.2.2.1, u.2.2.2.2.2.2.2.2.2.2.2.2.2.2.2.2.2.2.2.2.2.2.2.2) u.2.2.2.2.2.2.2.2.2.2.2.2.2.2.1.toNatClampNeg 0 (u.1, u.2.1, u.2.2.1, u.2.2.2.1, u.2.2.2.2.1, u.2.2.2.2.2.1, u.2.2.2.2.2.2.1, u.2.2.2.2.2.2.2.1, u.2.2.2.2.2.2.2.2.1, u.2.2.2.2.2.2.2.2.2.1, u.2.2.2.2.2.2.2.2.2.2.1, u.2.2.2.2.2.2.2.2.2.2.2.1, u.2.2.2.2.2.2.2.2.2.2.2.2.1, u.2.2.2.2.2.2.2.2.2.2.2.2.2.1, u.2.2.2.2.2.2.2.2.2.2.2.2.2.2.1, u.2.2.2.2.2.2.2.2.2.2.2.2.2.2.2.1, u.2.2.2.2.2.2.2.2.2.2.2.2.2.2.2.2.1, u.2.2.2.2.2.2.2.2.2.2.2.2.2.2.2.2.2.1, (fun j => if 0 ≤ j ∧ j < 80 then 0 else u.2.2.2.2.2.2.2.2.2.2.2.2.2.2.2.2.2.2.1 j), u.2.2.2.2.2.2.2.2.2.2.2.2.2.2.2.2.2.2.2.1, u.2.2.2.2.2.2.2.2.2.2.2.2.2.2.2.2.2.2.2.2.1, u.2.2.2.2.2.2.2.2.2.2.2.2.2.2.2.2.2.2.2.2.2.1, u.2.2.2.2.2.2.2.2.2.2.2.2.2.2.2.2.2.2.2.2.2.2.1, u.2.2.2.2.2.2.2.2.2.2.2.2.2.2.2.2.2.2.2.2.2.2.2.1, u.2.2.2.2.2.2.2.2.2.2.2.2.2.2.2.2.2.2.2.2.2.2.2.2)).bind (fun f => some f) = some u' := by
    have e9 : u.2.2.2.2.2.2.2.2.2.2.2.2.2.2.1.toNatClampNeg = d := by rw [hdm, ncl (show d < 2147483648 by omega)]
    rw [e9, h1]
    rfl
  unfold m_X7_makeAnew
  rw [rf_cl 80 0 u rfl, Option.bind_some]
  exact h9
theorem rp_same {d n b : Nat} {st : SetS} {ld ld' : LodS} {hi hi' : HisS} {ct c1 : CatS} (hE : LE n ld ld') (ha : ∀ k, k < d → hi'.1 k = hi.1 k ∧ hi'.2.1 k = hi.2.1 k ∧ hi'.2.2.1 k = hi.2.2.1 k ∧ hi'.2.2.2.1 k = hi.2.2.2.1 k) : ∀ (q k : Nat) (c : CatS) (u : MdlS), k + q = d → CR (lcn hi k) (lcn hi k) c u → LR n b st ld u → HO d n hi u →
    m_X6_doAllAnew_lp6 st ld' hi' ct c1 q k c = m_X6_doAllAnew_lp6 st ld hi ct c1 q k c := by
  intro q
  induction q with
  | zero => intro k c u _ _ _ _; rfl
  | succ q ih =>
    intro k c u hkd h hL hO
    have hO2 := hO
    obtain ⟨hd, hrows, -, -⟩ := hO2
    obtain ⟨a1, a2, a3, a4⟩ := ha k (by omega)
    obtain ⟨u1, -, p2, p3⟩ := st_any h hL hO (show k < d by omega)
    simp only [m_X6_doAllAnew_lp6]
    rw [ds_same h hL (show k < 180 by omega) (hrows k (by omega)).1 hE a1 a2 a3 a4]
    exact ih (k + 1) _ u1 (by omega) p3 (hL.kept p2) (hO.kept p2)
theorem RP.same {d n b : Nat} {u : MdlS} {st : SetS} {ld ld' : LodS} {hi hi' : HisS} (hE : LE n ld ld') (ha : ∀ k, k < d → hi'.1 k = hi.1 k ∧ hi'.2.1 k = hi.2.1 k ∧ hi'.2.2.1 k = hi.2.2.1 k ∧ hi'.2.2.2.1 k = hi.2.2.2.1 k) (hL : LR n b st ld u) (hO : HO d n hi u) : RP st ld' hi' d = RP st ld hi d := by
  have k0 : KU u (u.1, u.2.1, u.2.2.1, u.2.2.2.1, u.2.2.2.2.1, u.2.2.2.2.2.1, u.2.2.2.2.2.2.1, u.2.2.2.2.2.2.2.1, u.2.2.2.2.2.2.2.2.1, u.2.2.2.2.2.2.2.2.2.1, u.2.2.2.2.2.2.2.2.2.2.1, u.2.2.2.2.2.2.2.2.2.2.2.1, u.2.2.2.2.2.2.2.2.2.2.2.2.1, u.2.2.2.2.2.2.2.2.2.2.2.2.2.1, u.2.2.2.2.2.2.2.2.2.2.2.2.2.2.1, u.2.2.2.2.2.2.2.2.2.2.2.2.2.2.2.1, u.2.2.2.2.2.2.2.2.2.2.2.2.2.2.2.2.1, u.2.2.2.2.2.2.2.2.2.2.2.2.2.2.2.2.2.1, (fun j => if 0 ≤ j ∧ j < 80 then 0 else u.2.2.2.2.2.2.2.2.2.2.2.2.2.2.2.2.2.2.1 j), u.2.2.2.2.2.2.2.2.2.2.2.2.2.2.2.2.2.2.2.1, u.2.2.2.2.2.2.2.2.2.2.2.2.2.2.2.2.2.2.2.2.1, u.2.2.2.2.2.2.2.2.2.2.2.2.2.2.2.2.2.2.2.2.2.1, u.2.2.2.2.2.2.2.2.2.2.2.2.2.2.2.2.2.2.2.2.2.2.1, u.2.2.2.2.2.2.2.2.2.2.2.2.2.2.2.2.2.2.2.2.2.2.2.1, u.2.2.2.2.2.2.2.2.2.2.2.2.2.2.2.2.2.2.2.2.2.2.2.2) := KU.rf
  have hc : CR (lcn hi 0) (lcn hi 0) c00 (u.1, u.2.1, u.2.2.1, u.2.2.2.1, u.2.2.2.2.1, u.2.2.2.2.2.1, u.2.2.2.2.2.2.1, u.2.2.2.2.2.2.2.1, u.2.2.2.2.2.2.2.2.1, u.2.2.2.2.2.2.2.2.2.1, u.2.2.2.2.2.2.2.2.2.2.1, u.2.2.2.2.2.2.2.2.2.2.2.1, u.2.2.2.2.2.2.2.2.2.2.2.2.1, u.2.2.2.2.2.2.2.2.2.2.2.2.2.1, u.2.2.2.2.2.2.2.2.2.2.2.2.2.2.1, u.2.2.2.2.2.2.2.2.2.2.2.2.2.2.2.1, u.2.2.2.2.2.2.2.2.2.2.2.2.2.2.2.2.1, u.2.2.2.2.2.2.2.2.2.2.2.2.2.2.2.2.2.1, (fun j => if 0 ≤ j ∧ j < 80 then 0 else u.2.2.2.2.2.2.2.2.2.2.2.2.2.2.2.2.2.2.1 j), u.2.2.2.2.2.2.2.2.2.2.2.2.2.2.2.2.2.2.2.1, u.2.2.2.2.2.2.2.2.2.2.2.2.2.2.2.2.2.2.2.2.1, u.2.2.2.2.2.2.2.2.2.2.2.2.2.2.2.2.2.2.2.2.2.1, u.2.2.2.2.2.2.2.2.2.2.2.2.2.2.2.2.2.2.2.2.2.2.1, u.2.2.2.2.2.2.2.2.2.2.2.2.2.2.2.2.2.2.2.2.2.2.2.1, u.2.2.2.2.2.2.2.2.2.2.2.2.2.2.2.2.2.2.2.2.2.2.2.2) := CR.c0 (fun r hr => by dsimp only; exact if_pos ⟨Nat.zero_le r, hr⟩)
  exact rp_same hE ha d 0 c00 _ (by omega) hc (hL.kept k0) (hO.kept k0)
theorem jm {v : Int32} (h : -1 ≤ v) : jmax 0 v = if v = -1 then 0 else v := by
  unfold jmax
  by_cases e : v = -1
  · rw [e]; decide
  · rw [if_neg e]
    split
    · rfl
    · rename_i h9
      have h1 : (-1 : Int32).toInt ≤ v.toInt := Int32.le_iff_toInt_le.mp h
      have h2 : ¬ (0 : Int32).toInt < v.toInt := fun h8 => h9 (Int32.lt_iff_toInt_lt.mpr h8)
      have h3 : ¬ v.toInt = (-1 : Int32).toInt := fun h8 => e (Int32.toInt_inj.mp h8)
      have h4 : (-1 : Int32).toInt = -1 := by decide
      have h5 : (0 : Int32).toInt = 0 := by decide
      exact Int32.toInt_inj.mp (by omega)
theorem sm_k0 {u : MdlS} {r : Nat} {x1 : Int32} (hr : r < 80) : ∀ (q k : Nat) (x : Int32), k + q = 3 → ∃ V, m_X7_sum_lp15 u r x1 q k x = some V := by
  intro q
  induction q with
  | zero => intro k x _; exact ⟨x, rfl⟩
  | succ q ih =>
    intro k x hk
    simp only [m_X7_sum_lp15]
    rw [ix3, if_pos (inb_n (show r * 3 + k < 240 by omega) (by decide))]
    split
    · exact ih _ _ (by omega)
    · exact ih _ _ (by omega)
theorem sm_f0 {u : MdlS} {r : Nat} {x1 y : Int32} (hr : r < 80) : ∀ (q k : Nat) (x : Int32), k + q = 4 → ∃ V, m_X7_sum_lp63 u r x1 y q k x = some V := by
  intro q
  induction q with
  | zero => intro k x _; exact ⟨x, rfl⟩
  | succ q ih =>
    intro k x hk
    simp only [m_X7_sum_lp63]
    rw [ix4, if_pos (inb_n (show r * 4 + k < 320 by omega) (by decide))]
    split
    · exact ih _ _ (by omega)
    · exact ih _ _ (by omega)
theorem sm_k {c : CatS} {u : MdlS} {r : Nat} {x1 : Int32} (hr : r < 80) (h : ∀ j, j < 3 → c.2.1 (r * 3 + j) = u.2.2.2.2.2.2.2.2.2.2.2.2.2.2.2.2.2.2.2.1 (r * 3 + j) ∧ -1 ≤ c.2.1 (r * 3 + j)) : ∀ (q k : Nat) (x : Int32), k + q = 3 → m_X7_sum_lp15 u r x1 q k x = some (m_X0_values_lp4 c (nI r) q k x) := by
  intro q
  induction q with
  | zero => intro k x _; rfl
  | succ q ih =>
    intro k x hk
    obtain ⟨h1, h2⟩ := h k (by omega)
    simp only [m_X7_sum_lp15, m_X0_values_lp4]
    rw [ix3, if_pos (inb_n (show r * 3 + k < 240 by omega) (by decide)), ncl (show r * 3 + k < 2147483648 by omega), g803 hr (by omega), jm h2, ← h1]
    by_cases e : c.2.1 (r * 3 + k) = -1
    · rw [if_pos e, if_pos e]; exact ih _ _ (by omega)
    · rw [if_neg e, if_neg e]; exact ih _ _ (by omega)
theorem sm_f {c : CatS} {u : MdlS} {r : Nat} {x1 y y' : Int32} (hr : r < 80) (h : ∀ j, j < 4 → c.2.2.1 (r * 4 + j) = u.2.2.2.2.2.2.2.2.2.2.2.2.2.2.2.2.2.2.2.2.1 (r * 4 + j) ∧ -1 ≤ c.2.2.1 (r * 4 + j)) : ∀ (q k : Nat) (x : Int32), k + q = 4 → m_X7_sum_lp63 u r x1 y q k x = some (m_X0_values_lp33 c (nI r) y' q k x) := by
  intro q
  induction q with
  | zero => intro k x _; rfl
  | succ q ih =>
    intro k x hk
    obtain ⟨h1, h2⟩ := h k (by omega)
    simp only [m_X7_sum_lp63, m_X0_values_lp33]
    rw [ix4, if_pos (inb_n (show r * 4 + k < 320 by omega) (by decide)), ncl (show r * 4 + k < 2147483648 by omega), g804 hr (by omega), jm h2, ← h1]
    by_cases e : c.2.2.1 (r * 4 + k) = -1
    · rw [if_pos e, if_pos e]; exact ih _ _ (by omega)
    · rw [if_neg e, if_neg e]; exact ih _ _ (by omega)
theorem sm_lp {m h : Nat} {c : CatS} {u : MdlS} (hc : CR m h c u) : ∀ (q k : Nat) (x : Int32), k + q = 80 → m_X7_sum_lp4 u q k x = some (m_X0_sum_lp4 c q k x) := by
  obtain ⟨h1, h2, -, -, h5, h6⟩ := hc
  intro q
  induction q with
  | zero => intro k x _; rfl
  | succ q ih =>
    intro k x hk
    have hk80 : k < 80 := by omega
    simp only [m_X7_sum_lp4, m_X0_sum_lp4]
    by_cases ht : c.1 k = 1
    · obtain ⟨g1, g2, g3⟩ := h2 k hk80 ht
      rw [sm_k (c := c) hk80 (fun j hj => ⟨g1 j hj, h6 _ (by omega)⟩) 3 0 0 rfl, Option.bind_some, sm_f (c := c) (y' := m_X0_values_lp4 c (nI k) 3 0 0) hk80 (fun j hj => ⟨(g2 j hj).1, (h5 _ (by omega)).2.2⟩) 4 0 _ rfl, Option.bind_some, if_pos (inb_n hk80 (by decide)), ncl (show k < 2147483648 by omega), ← (h1 k hk80).1, ht, if_neg (by decide), if_neg (pu_has1 hk80 ht), pu_get hk80 (by decide), g3, Int32.mul_comm]
      exact ih _ _ (by omega)
    · obtain ⟨V, hV⟩ := sm_k0 (u := u) (x1 := x) hk80 3 0 0 rfl
      obtain ⟨V2, hV2⟩ := sm_f0 (u := u) (x1 := x) (y := V) hk80 4 0 V rfl
      rw [hV, Option.bind_some, hV2, Option.bind_some, if_pos (inb_n hk80 (by decide)), ncl (show k < 2147483648 by omega), ← (h1 k hk80).1, if_pos ((h1 k hk80).2.resolve_right ht), if_pos (pu_has0 hk80 ht), Int32.add_zero]
      exact ih _ _ (by omega)
theorem sum_eq {m h : Nat} {c : CatS} {u : MdlS} (hc : CR m h c u) : m_X7_sum u = some (m_X0_sum c) := by
  unfold m_X7_sum m_X0_sum
  rw [sm_lp hc 80 0 0 rfl]
  rfl
theorem cn_lp {m h : Nat} {c : CatS} {u : MdlS} (hc : CR m h c u) : ∀ (q k : Nat) (x : Int32), k + q = 80 → m_X7_recordMany_lp4 u q k x = some (m_X0_count_lp4 c q k x) := by
  obtain ⟨h1, -⟩ := hc
  intro q
  induction q with
  | zero => intro k x _; rfl
  | succ q ih =>
    intro k x hk
    have hk80 : k < 80 := by omega
    simp only [m_X7_recordMany_lp4, m_X0_count_lp4]
    rw [if_pos (inb_n hk80 (by decide)), ncl (show k < 2147483648 by omega), ← (h1 k hk80).1]
    by_cases ht : c.1 k = 1
    · rw [ht, if_neg (by decide), if_neg (pu_has1 hk80 ht)]; exact ih _ _ (by omega)
    · rw [if_pos ((h1 k hk80).2.resolve_right ht), if_pos (pu_has0 hk80 ht), Int32.add_zero]; exact ih _ _ (by omega)
theorem count_eq {m h : Nat} {c : CatS} {u : MdlS} (hc : CR m h c u) : m_X7_recordMany u = some (m_X0_count c) := by
  unfold m_X7_recordMany m_X0_count
  rw [cn_lp hc 80 0 0 rfl]
  rfl
