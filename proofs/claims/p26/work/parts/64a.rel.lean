/-! PURE: numbers -/
theorem nI_dv {a b : Nat} (ha : a < 2147483648) (hb : b < 2147483648) : nI a / nI b = nI (a / b) := by
  apply Int32.toInt_inj.mp
  have hm : ¬ nI b = -1 := nI_m1 hb
  have hq : a / b ≤ a := Nat.div_le_self a b
  rw [Int32.toInt_div_of_ne_right _ _ hm, nI_toInt (n := a) ha, nI_toInt (n := b) hb, nI_toInt (n := a / b) (by omega)]
  rfl
theorem nI_sb {a b : Nat} (h : b ≤ a) : nI a - nI b = nI (a - b) := by
  obtain ⟨e, rfl⟩ : ∃ e, a = e + b := ⟨a - b, by omega⟩
  rw [nI_sub, Nat.add_sub_cancel]
theorem nI_md {a b : Nat} (ha : a < 2147483648) (hb : b < 2147483648) : nI a - nI a / nI b * nI b = nI (a % b) := by
  rw [nI_dv ha hb, pk_mul, nI_sb (Nat.div_mul_le_self a b)]
  congr 1
  have := Nat.div_add_mod a b
  rw [Nat.mul_comm] at this
  omega
theorem nm1 {a b : Nat} (ha : a < 2147483648) (hb : b < 2147483648) : nI a - 1 = nI b - 1 ↔ a = b := by
  constructor
  · intro h
    have h2 : nI a - 1 + 1 = nI b - 1 + 1 := by rw [h]
    rw [Int32.sub_add_cancel, Int32.sub_add_cancel] at h2
    exact (nI_eq ha hb).mp h2
  · rintro rfl; rfl
theorem nm0 {a : Nat} (ha : a < 2147483648) : nI a - 1 = -1 ↔ a = 0 := nm1 (b := 0) ha (by decide)
theorem n0 {a : Nat} (ha : a < 2147483648) : nI a = 0 ↔ a = 0 := nI_eq (b := 0) ha (by decide)
theorem nle0 {a : Nat} (ha : a < 2147483648) : nI a ≤ 0 ↔ a = 0 := by
  rcases Nat.eq_zero_or_pos a with rfl | h
  · exact ⟨fun _ => rfl, fun _ => by decide⟩
  · exact ⟨fun h2 => absurd h2 (nI_nle h ha), fun h2 => by omega⟩
theorem cl0 : (0 : Int32).toNatClampNeg = 0 := by decide
theorem cl1 : (1 : Int32).toNatClampNeg = 1 := by decide
theorem cl2 : (2 : Int32).toNatClampNeg = 2 := by decide
theorem cl3 : (3 : Int32).toNatClampNeg = 3 := by decide
theorem ubit : ∀ U, U < 1024 → ∀ x, x < 10 → (nI U >>> (nI x &&& 31)) &&& (1 : Int32) = if U.testBit x then 1 else 0 := by decide +kernel
/-! PURE: class and law side by side -/
/-- a record of the class, and its number in the law -/
def RC1 (c : CatS) (x : Int64) (hx : Int32) (r : Nat) : Prop :=
  (ix x = 1 ∧ c.1 r = 1 ∧ (∀ k, k < 3 → c.2.1 (r * 3 + k) = nI (kx x k) - 1) ∧ (∀ k, k < 4 → c.2.2.1 (r * 4 + k) = nI (fx x k) - 1 ∧ c.2.2.2.1 (r * 4 + k) = (if fx x k = 0 then -1 else nI (sx x k)) ∧ c.2.2.2.2.1 (r * 4 + k) = nI (gx x k) ∧ (¬ fx x k = 0 → sx x k < 5)) ∧ c.2.2.2.2.2.1 r = hx) ∨ (ix x = 0 ∧ c.1 r = 0)
def RC (m : Nat) (c : CatS) (v : FL) (h t : FI) : Prop :=
  (∀ r, r < 40 → RC1 c (v r) (h r) r) ∧ (∀ j, j < m → c.2.2.2.2.2.2 j = t j) ∧
  (∀ r, m ≤ r → r < 80 → c.1 r = 0 ∧ (∀ k, k < 3 → c.2.1 (r * 3 + k) = -1) ∧ (∀ k, k < 4 → c.2.2.1 (r * 4 + k) = -1 ∧ c.2.2.2.1 (r * 4 + k) = -1 ∧ c.2.2.2.2.1 (r * 4 + k) = 0) ∧ c.2.2.2.2.2.1 r = 0)
def LD (n : Nat) (ld : LodS) (l : FL) (bb : FI) : Prop :=
  ∀ i, i < n → ix (l i) = 0 ∧ (∀ k, k < 3 → ld.1 (i * 3 + k) = nI (kx (l i) k) - 1) ∧ (∀ k, k < 4 → ld.2.1 (i * 4 + k) = nI (fx (l i) k) - 1 ∧ gx (l i) k = 0) ∧
    ∃ s x, s < 5 ∧ x < 10 ∧ ld.2.2.1 i = nI s ∧ ld.2.2.2.1 i = nI x ∧ bb i = nI (x + 16 * s) ∧ (∀ k, k < 4 → ¬ fx (l i) k = 0 → sx (l i) k = s)
def QR (st : SetS) (q : FI) : Prop := (∀ i, i < 5 → q i = st.1 i) ∧ (∀ i, i < 4 → q (5 + i) = st.2.1 i) ∧ (∀ i, i < 3 → q (9 + i) = st.2.2 i)
/-! PURE: the keys that hit -/
theorem fd_rest {c : CatS} {o v : Int32} {n : Nat} (hz : ∀ r, n ≤ r → r < 80 → c.1 r = 0) : ∀ (q k : Nat) (f : Int32), k + q = 80 → n ≤ k → m_X0_find_lp12 c o v q k f = f := by
  intro q
  induction q with
  | zero => intro k f _ _; rfl
  | succ q ih =>
    intro k f hk hn
    simp only [m_X0_find_lp12]
    rw [pu_get (show k < 80 by omega) (by decide), hz k hn (by omega), if_neg (by decide)]
    exact ih (k + 1) f (by omega) (by omega)
section HT
variable {m n : Nat} {c : CatS} {v : FL} {h t qn qq : FI} {dr : Int64}
theorem ht_0 {k4 o : Nat} (hn : n ≤ 40) (h1 : qn 1 = nI n) (hk4 : k4 < 12) (ho : o < 3) (hq : qq k4 = nI o) (ha : kx dr o = 0) : ∀ (q k : Nat) (f : Int32), k + q = n → m_L_hits_lp20 v qn qq dr k4 q k f 0 = some (f, 0) := by
  intro q
  induction q with
  | zero =>
    intro k f hk
    simp only [m_L_hits_lp20]
    rw [cl1, h1, if_pos (nI_le (by omega) (by omega))]
  | succ q ih =>
    intro k f hk
    simp only [m_L_hits_lp20]
    rw [cl1, h1, if_neg (nI_ge (by omega) (by omega)), if_pos (inb_n (show k < 40 by omega) (by decide)), if_pos (inb_n hk4 (by decide)), ncl (show k4 < 2147483648 by omega), hq, L_key ho, ha, if_pos (show nI 0 ≤ 0 by decide), Int32.add_zero, ite_self]
    exact ih (k + 1) f (by omega)
theorem ht_lp {k4 o : Nat} (hR : RC m c v h t) (hm : m ≤ n) (hn : n ≤ 40) (h1 : qn 1 = nI n) (hk4 : k4 < 12) (ho : o < 3) (hq : qq k4 = nI o) (ha : ¬ kx dr o = 0) : ∀ (q k M : Nat) (f : Int32), k + q = n → M ≤ k → (M = 0 → f = -1) → (M = 1 → ∃ j, j < 40 ∧ f = nI j ∧ c.1 j = 1) →
    ∃ (F : Int32) (M' : Nat), m_L_hits_lp20 v qn qq dr k4 q k f (nI M) = some (F, nI M') ∧ M ≤ M' ∧ M' ≤ 40 ∧ (M' = 1 → ∃ j, j < 40 ∧ F = nI j ∧ c.1 j = 1) ∧ (M ≤ 1 → m_X0_find_lp12 c (nI o) (nI (kx dr o) - 1) (80 - k) k f = if M' = 0 then -1 else if M' = 1 then F else -2) := by
  have hkl : kx dr o < 64 := kx_lt
  intro q
  induction q with
  | zero =>
    intro k M f hk hM h0 h2
    simp only [m_L_hits_lp20]
    rw [cl1, h1, if_pos (nI_le (by omega) (by omega))]
    refine ⟨f, M, rfl, Nat.le_refl M, by omega, h2, fun hM1 => ?_⟩
    rw [fd_rest (n := n) (fun r h3 h4 => (hR.2.2 r (by omega) h4).1) (80 - k) k f (by omega) (by omega)]
    rcases (show M = 0 ∨ M = 1 by omega) with rfl | rfl
    · rw [if_pos rfl]; exact h0 rfl
    · rw [if_neg (by decide), if_pos rfl]
  | succ q ih =>
    intro k M f hk hM h0 h2
    have hk40 : k < 40 := by omega
    have e80 : 80 - k = (80 - (k + 1)) + 1 := by omega
    have hxl : kx (v k) o < 64 := kx_lt
    simp only [m_L_hits_lp20]
    rw [cl1, h1, if_neg (nI_ge (by omega) (by omega)), if_pos (inb_n hk40 (by decide)), if_pos (inb_n hk4 (by decide)), ncl (show k < 2147483648 by omega), ncl (show k4 < 2147483648 by omega), hq, L_key ho, L_key ho, L_isIn, if_neg (fun h9 => ha ((nle0 (by omega)).mp h9)), e80]
    simp only [m_X0_find_lp12]
    rw [pu_get (show k < 80 by omega) (by decide), g803 (show k < 80 by omega) ho]
    rcases hR.1 k hk40 with ⟨i1, i2, i3, -⟩ | ⟨i1, i2⟩
    · rw [i1, i2, if_pos rfl, if_neg (show ¬ nI 1 = 0 by decide), i3 o ho]
      by_cases hc : kx (v k) o = kx dr o
      · rw [hc, if_pos rfl, if_pos rfl, nI_1]
        obtain ⟨F, M', q1, q2, q3, q4, q5⟩ := ih (k + 1) (M + 1) (nI k) (by omega) (by omega) (fun h9 => absurd h9 (by omega)) (fun _ => ⟨k, hk40, rfl, i2⟩)
        refine ⟨F, M', q1, by omega, q3, q4, fun hM1 => ?_⟩
        rcases (show M = 0 ∨ M = 1 by omega) with rfl | rfl
        · rw [if_pos (h0 rfl)]
          exact q5 (by omega)
        · obtain ⟨j, hj, rfl, -⟩ := h2 rfl
          rw [if_neg (nI_m1 (by omega)), if_neg (by omega), if_neg (by omega)]
      · rw [if_neg (fun h9 => hc ((nI_eq (by omega) (by omega)).mp h9)), if_neg (fun h9 => hc ((nm1 (by omega) (by omega)).mp h9)), Int32.add_zero]
        exact ih (k + 1) M f (by omega) (by omega) h0 h2
    · rw [i1, i2, if_neg (show ¬ (0 : Int32) = 1 by decide), if_pos (show nI 0 = 0 from rfl), Int32.add_zero]
      exact ih (k + 1) M f (by omega) (by omega) h0 h2
/-- the law's hits, and the class's target -/
theorem tq_lp {b i : Nat} {u : MdlS} {st : SetS} {ld : LodS} {l : FL} {bb : FI} (hR : RC m c v h t) (hm : m ≤ n) (hn : n ≤ 40) (h1 : qn 1 = nI n) (hL : LR n b st ld u) (hQ : QR st qq) (hD : LD n ld l bb) (hi : i < n) : ∀ (q k : Nat), k + q = 3 →
    ∃ R : Int32, m_L_hits_lp4 v qn qq (l i) q (9 + k) = some R ∧ ((R = -1 ∧ m_X0_target_lp3 c st ld (nI i) q k = nI i) ∨ (R = -2 ∧ m_X0_target_lp3 c st ld (nI i) q k = -2) ∨ ∃ r, r < 40 ∧ R = nI r ∧ c.1 r = 1 ∧ m_X0_target_lp3 c st ld (nI i) q k = nI r) := by
  obtain ⟨-, hD2, -⟩ := hD i hi
  intro q
  induction q with
  | zero => intro k hk; exact ⟨-1, rfl, Or.inl ⟨rfl, rfl⟩⟩
  | succ q ih =>
    intro k hk
    have hk3 : k < 3 := by omega
    obtain ⟨-, o, ho, hod⟩ := hL.2.2.2.2.1 k hk3
    have hq : qq (9 + k) = nI o := by rw [hQ.2.2 k hk3]; exact hod
    have hlk := hD2 o ho
    have hkl : kx (l i) o < 64 := kx_lt
    simp only [m_L_hits_lp4, m_X0_target_lp3]
    rw [pu_get hk3 (by decide), hod, g813 (by omega) ho, cl1, h1, ncl (show n < 2147483648 by omega), hlk]
    unfold m_X0_find
    by_cases hv : kx (l i) o = 0
    · rw [ht_0 hn h1 (by omega) ho hq hv n 0 (-1) (by omega), Option.bind_some, if_pos (show (0 : Int32) ≤ 0 by decide), if_pos ((nm0 (by omega)).mpr hv), if_pos rfl]
      exact ih (k + 1) (by omega)
    · obtain ⟨F, M', q1, q2, q3, q4, q5⟩ := ht_lp hR hm hn h1 (show 9 + k < 12 by omega) ho hq hv n 0 0 (-1) (by omega) (Nat.le_refl 0) (fun _ => rfl) (fun h9 => absurd h9 (by decide))
      have q6 : m_L_hits_lp20 v qn qq (l i) (9 + k) n 0 (-1) 0 = some (F, nI M') := q1
      have q7 := q5 (by decide)
      rw [Nat.sub_zero] at q7
      rw [q6, Option.bind_some, if_neg (fun h9 => hv ((nm0 (by omega)).mp h9)), q7]
      dsimp only
      rcases (show M' = 0 ∨ M' = 1 ∨ 2 ≤ M' by omega) with h9 | h9 | h9
      · rw [h9, if_pos (show nI 0 ≤ 0 by decide), if_pos (show (0 : Nat) = 0 from rfl), if_pos rfl]
        exact ih (k + 1) (by omega)
      · obtain ⟨j, hj, hj1, hj2⟩ := q4 h9
        rw [h9, if_neg (show ¬ nI 1 ≤ 0 by decide), if_pos (show nI 1 = 1 from rfl), if_neg (show ¬ (1 : Nat) = 0 by decide), if_pos (show (1 : Nat) = 1 from rfl), hj1, if_neg (nI_m1 (by omega))]
        exact ⟨nI j, rfl, Or.inr (Or.inr ⟨j, hj, rfl, hj2, rfl⟩)⟩
      · have e1 : ¬ nI M' = 1 := fun e => absurd ((nI_eq (a := M') (b := 1) (by omega) (by decide)).mp e) (by omega)
        rw [if_neg (nI_nle (by omega) (by omega)), if_neg e1, if_neg (show ¬ M' = 0 by omega), if_neg (show ¬ M' = 1 by omega), if_neg (by decide)]
        exact ⟨-2, rfl, Or.inr (Or.inl ⟨rfl, rfl⟩)⟩
end HT
