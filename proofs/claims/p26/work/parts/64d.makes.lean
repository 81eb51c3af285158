/-! PURE: all done anew, in the class and in the law -/
def HE (d : Nat) (hi : HisS) (e : FI) : Prop :=
  ∀ k, k < d → ∃ K o t, o < 40 ∧ t < 40 ∧ e k = nI (K + 8 * o + 1024 * t) ∧ hi.2.1 k = nI o ∧
    ((K = 0 ∧ hi.1 k = 0) ∨ (K = 1 ∧ hi.1 k = 1 ∧ hi.2.2.1 k = nI t ∧ hi.2.2.2.1 k = 1 ∧ t < 4) ∨ (K = 2 ∧ hi.1 k = 1 ∧ hi.2.2.1 k = nI t ∧ hi.2.2.2.1 k = 0 ∧ t < 4) ∨ (K = 3 ∧ hi.1 k = 2) ∨ (K = 4 ∧ hi.1 k = 3 ∧ hi.2.2.1 k = nI t ∧ ¬ o = t))
theorem dc8 {K o t : Nat} (hK : K < 5) (ho : o < 40) (ht : t < 40) : nI (K + 8 * o + 1024 * t) - nI (K + 8 * o + 1024 * t) / 8 * 8 = nI K := by
  have e9 : nI (K + 8 * o + 1024 * t) - nI (K + 8 * o + 1024 * t) / nI 8 * nI 8 = nI ((K + 8 * o + 1024 * t) % 8) := nI_md (by omega) (by decide)
  rw [show (K + 8 * o + 1024 * t) % 8 = K by omega] at e9
  exact e9
theorem dc128 {K o t : Nat} (hK : K < 5) (ho : o < 40) (ht : t < 40) : nI (K + 8 * o + 1024 * t) / 8 - nI (K + 8 * o + 1024 * t) / 8 / 128 * 128 = nI o := by
  have e8 : nI (K + 8 * o + 1024 * t) / nI 8 = nI ((K + 8 * o + 1024 * t) / 8) := nI_dv (by omega) (by decide)
  rw [show (K + 8 * o + 1024 * t) / 8 = o + 128 * t by omega] at e8
  have e9 : nI (o + 128 * t) - nI (o + 128 * t) / nI 128 * nI 128 = nI ((o + 128 * t) % 128) := nI_md (by omega) (by decide)
  rw [show (o + 128 * t) % 128 = o by omega] at e9
  have e7 : nI (K + 8 * o + 1024 * t) / 8 = nI (o + 128 * t) := e8
  rw [e7]; exact e9
theorem dc1024 {K o t : Nat} (hK : K < 5) (ho : o < 40) (ht : t < 40) : nI (K + 8 * o + 1024 * t) / 1024 = nI t := by
  have e8 : nI (K + 8 * o + 1024 * t) / nI 1024 = nI ((K + 8 * o + 1024 * t) / 1024) := nI_dv (by omega) (by decide)
  rw [show (K + 8 * o + 1024 * t) / 1024 = t by omega] at e8
  exact e8
section MK
variable {n b d U : Nat} {V0 l : FL} {H0 T0 e qn qq qb qu : FI} {u : MdlS} {st : SetS} {ld : LodS} {hi : HisS} {fin : FL × FI}
theorem mk_lp (hL : LR n b st ld u) (hO : HO d n hi u) (hQ : QR st qq) (hD : LD n ld l qb) (hU : U < 1024) (hu : qu 0 = nI U) (hLU : ∀ x, x < 10 → ld.2.2.2.2.1 x = if U.testBit x then 1 else 0) (hE : HE d hi e) (h1 : qn 1 = nI n) (h2 : qn 2 = nI d) (hn : n ≤ 40) (hd : d ≤ 64) : ∀ (q k : Nat) (s0 : FL) (s1 s7 : FI), k + q = d → RC (lcn hi k) (RP st ld hi k) s0 s1 s7 →
    ∃ v' h' t', m_L_makes_lp29 V0 H0 e qn qq l qb T0 qu fin q k s0 s1 s7 = some (v', h', t') ∧ RC n (RP st ld hi d) v' h' t' := by
  intro q
  induction q with
  | zero =>
    intro k s0 s1 s7 hk hR
    obtain rfl : k = d := by omega
    simp only [m_L_makes_lp29]
    rw [cl2, h2, if_pos (nI_le (Nat.le_refl _) (by omega))]
    refine ⟨s0, s1, s7, rfl, ?_⟩
    rw [hO.2.2.1] at hR
    exact hR
  | succ q ih =>
    intro k s0 s1 s7 hk hR
    have hkd : k < d := by omega
    obtain ⟨K, o, t, ho, ht, he, hF, hcase⟩ := hE k hkd
    have hK5 : K < 5 := by rcases hcase with ⟨rfl, -⟩ | ⟨rfl, -⟩ | ⟨rfl, -⟩ | ⟨rfl, -⟩ | ⟨rfl, -⟩ <;> decide
    have hstep : RP st ld hi (k + 1) = m_X6_doStep st ld hi (RP st ld hi k) (nI k) := RP.succ
    have hds : m_X6_doStep st ld hi (RP st ld hi k) (nI k) = if hi.1 k = 0 then (m_X0_take (RP st ld hi k) st ld (nI o)).1 else if hi.1 k = 1 then (m_X0_guard (RP st ld hi k) (nI o) (hi.2.2.1 k) (hi.2.2.2.1 k)).1 else if hi.1 k = 2 then (m_X0_addHoldings (RP st ld hi k) (nI o) 1).1 else if hi.1 k = 3 then (m_X0_join (RP st ld hi k) (nI o) (hi.2.2.1 k)).1 else RP st ld hi k := by
      unfold m_X6_doStep
      rw [pu_get (show k < 180 by omega) (by decide), pu_get (show k < 180 by omega) (by decide), pu_get (show k < 180 by omega) (by decide), pu_get (show k < 180 by omega) (by decide), hF]
    rw [hds] at hstep
    have hlc : lcn hi (k + 1) = if hi.1 k = 0 then lcn hi k + 1 else lcn hi k := rfl
    simp only [m_L_makes_lp29, cl2, h2, eq_false (nI_ge (a := k) (b := d) hkd (by omega)), if_false, eq_true (inb_n (show k < 64 by omega) (show 64 < 2147483648 by decide)), if_true, ncl (show k < 2147483648 by omega), he, dc8 hK5 ho ht, dc128 hK5 ho ht, dc1024 hK5 ho ht, eq_true (inb_n (show o < 40 by omega) (show 40 < 2147483648 by decide)), eq_true (inb_n (show t < 40 by omega) (show 40 < 2147483648 by decide)), ncl (show o < 2147483648 by omega), ncl (show t < 2147483648 by omega), L_isIn]
    rcases hcase with ⟨rfl, k1⟩ | ⟨rfl, k1, k2, k3, k4⟩ | ⟨rfl, k1, k2, k3, k4⟩ | ⟨rfl, k1⟩ | ⟨rfl, k1, k2, k3⟩
    · rw [if_pos (show nI 0 = 0 from rfl)]
      rw [k1, if_pos rfl] at hstep
      rw [k1, if_pos rfl] at hlc
      obtain ⟨hrow, hlr⟩ := hO.2.1 k hkd
      have hle := lcn_le (hi := hi) k
      have hoi : o = lcn hi k := (nI_eq (by omega) (by omega)).mp (hF.symm.trans (hlr k1))
      have hon : o < n := by
        rcases hrow with ⟨-, -, i, hi2, hi3, -⟩ | ⟨w1, -⟩ | ⟨w1, -⟩ | ⟨w1, -⟩
        · have := (nI_eq (a := o) (b := i) (by omega) (by omega)).mp (hF.symm.trans hi3)
          omega
        · rw [k1] at w1; exact absurd w1 (by decide)
        · rw [k1] at w1; exact absurd w1 (by decide)
        · rw [k1] at w1; exact absurd w1 (by decide)
      rw [← hoi] at hR hlc
      obtain ⟨v', h', t', p1, p2⟩ := lq_sim (i := o) hR hL hQ hD hU hu hLU h1 hn hon
      rw [p1, Option.bind_some]
      refine ih (k + 1) v' h' t' (by omega) ?_
      rw [hstep, hlc]
      exact p2
    · rw [if_neg (show ¬ nI 1 = 0 by decide), if_neg (show ¬ nI 1 = 3 by decide), if_neg (show ¬ nI 1 = 4 by decide), if_neg (show ¬ 3 ≤ nI 1 by decide), if_pos (show nI 1 = 1 from rfl)]
      rw [k1, if_neg (show ¬ (1 : Int32) = 0 by decide), if_pos rfl, k2, k3] at hstep
      rw [k1, if_neg (show ¬ (1 : Int32) = 0 by decide)] at hlc
      by_cases hth : (RP st ld hi k).1 o = 1
      · rw [hR.in1 ho hth, if_neg (show ¬ nI 1 = 0 by decide)]
        rw [pu_guard1 (by omega) k4 hth] at hstep
        refine ih (k + 1) _ s1 s7 (by omega) ?_
        rw [hstep, hlc]
        exact hR.guard (F := 1) ho k4 hth (fun j hj => on_q k4 (Or.inl (by omega))) (fun j hj => ⟨on_q k4 (Or.inl (by omega)), on_q k4 (Or.inl (by omega)), on_g k4 hj⟩) (on_q k4 (Or.inr ⟨by omega, by omega⟩))
      · rw [hR.in0 ho hth, if_pos (show nI 0 = 0 from rfl)]
        rw [pu_guard0 (by omega) hth] at hstep
        refine ih (k + 1) s0 s1 s7 (by omega) ?_
        rw [hstep, hlc]; exact hR
    · rw [if_neg (show ¬ nI 2 = 0 by decide), if_neg (show ¬ nI 2 = 3 by decide), if_neg (show ¬ nI 2 = 4 by decide), if_neg (show ¬ 3 ≤ nI 2 by decide), if_neg (show ¬ nI 2 = 1 by decide)]
      rw [k1, if_neg (show ¬ (1 : Int32) = 0 by decide), if_pos rfl, k2, k3] at hstep
      rw [k1, if_neg (show ¬ (1 : Int32) = 0 by decide)] at hlc
      by_cases hth : (RP st ld hi k).1 o = 1
      · rw [hR.in1 ho hth, if_neg (show ¬ nI 1 = 0 by decide)]
        rw [pu_guard1 (by omega) k4 hth] at hstep
        refine ih (k + 1) _ s1 s7 (by omega) ?_
        rw [hstep, hlc]
        exact hR.guard (F := 0) ho k4 hth (fun j hj => off_q k4 (Or.inl (by omega))) (fun j hj => ⟨off_q k4 (Or.inl (by omega)), off_q k4 (Or.inl (by omega)), off_g k4 hj⟩) (off_q k4 (Or.inr ⟨by omega, by omega⟩))
      · rw [hR.in0 ho hth, if_pos (show nI 0 = 0 from rfl)]
        rw [pu_guard0 (by omega) hth] at hstep
        refine ih (k + 1) s0 s1 s7 (by omega) ?_
        rw [hstep, hlc]; exact hR
    · rw [if_neg (show ¬ nI 3 = 0 by decide), if_pos (show nI 3 = 3 from rfl)]
      rw [k1, if_neg (show ¬ (2 : Int32) = 0 by decide), if_neg (show ¬ (2 : Int32) = 1 by decide), if_pos rfl] at hstep
      rw [k1, if_neg (show ¬ (2 : Int32) = 0 by decide)] at hlc
      by_cases hth : (RP st ld hi k).1 o = 1
      · rw [hR.in1 ho hth, if_neg (show ¬ nI 1 = 0 by decide)]
        rw [pu_hold1 (by omega) hth] at hstep
        refine ih (k + 1) s0 _ s7 (by omega) ?_
        rw [hstep, hlc]
        exact hR.held ho hth
      · rw [hR.in0 ho hth, if_pos (show nI 0 = 0 from rfl)]
        rw [pu_hold0 (by omega) hth] at hstep
        refine ih (k + 1) s0 s1 s7 (by omega) ?_
        rw [hstep, hlc]; exact hR
    · rw [if_neg (show ¬ nI 4 = 0 by decide), if_neg (show ¬ nI 4 = 3 by decide), if_pos (show nI 4 = 4 from rfl), if_pos (show 3 ≤ nI 4 by decide)]
      rw [k1, if_neg (show ¬ (3 : Int32) = 0 by decide), if_neg (show ¬ (3 : Int32) = 1 by decide), if_neg (show ¬ (3 : Int32) = 2 by decide), if_pos rfl, k2] at hstep
      rw [k1, if_neg (show ¬ (3 : Int32) = 0 by decide)] at hlc
      by_cases hth : (RP st ld hi k).1 o = 1
      · rw [hR.in1 ho hth, if_neg (show ¬ nI 1 = 0 by decide)]
        by_cases hth2 : (RP st ld hi k).1 t = 1
        · rw [hR.in1 ht hth2, if_neg (show ¬ nI 1 = 0 by decide)]
          rw [pu_join1 (by omega) (by omega) k3 hth hth2] at hstep
          obtain ⟨y, p1, p2, p3, p4⟩ := mg_eq (v := s0) (h := s1) ho ht
          rw [p1, Option.bind_some]
          refine ih (k + 1) _ _ s7 (by omega) ?_
          rw [hstep, hlc]
          exact hR.joined ho ht k3 hth hth2 p2 p3 p4
        · rw [hR.in0 ht hth2, if_pos (show nI 0 = 0 from rfl)]
          rw [pu_join0' (by omega) (by omega) hth hth2] at hstep
          refine ih (k + 1) s0 s1 s7 (by omega) ?_
          rw [hstep, hlc]; exact hR
      · rw [hR.in0 ho hth, if_pos (show nI 0 = 0 from rfl)]
        rw [pu_join0 (by omega) hth] at hstep
        refine ih (k + 1) s0 s1 s7 (by omega) ?_
        rw [hstep, hlc]; exact hR
theorem mk_clr : ∀ (q k : Nat) (s0 : FL) (s1 : FI), k + q = 40 → (∀ r, r < k → s0 r = 0) → ∃ v' h', m_L_makes_lp3 V0 H0 e qn qq l qb T0 qu q k s0 s1 = some (v', h') ∧ ∀ r, r < 40 → v' r = 0 := by
  intro q
  induction q with
  | zero => intro k s0 s1 hk h; exact ⟨s0, s1, rfl, fun r hr => h r (by omega)⟩
  | succ q ih =>
    intro k s0 s1 hk h
    simp only [m_L_makes_lp3]
    rw [if_pos (inb_n (show k < 40 by omega) (by decide)), ncl (show k < 2147483648 by omega)]
    refine ih (k + 1) _ _ (by omega) (fun r hr => ?_)
    by_cases e : r = k
    · rw [e, pk_uLs]
    · rw [pk_uLn e]; exact h r (by omega)
/-- the law's own catalogue is the class's -/
theorem mk_all {v : FL} {h t : FI} (hL : LR n b st ld u) (hO : HO d n hi u) (hQ : QR st qq) (hD : LD n ld l qb) (hU : U < 1024) (hu : qu 0 = nI U) (hLU : ∀ x, x < 10 → ld.2.2.2.2.1 x = if U.testBit x then 1 else 0) (hE : HE d hi e) (h1 : qn 1 = nI n) (h2 : qn 2 = nI d) (hn : n ≤ 40) (hd : d ≤ 64) :
    ∃ v' h' t', m_L_makes v h e qn qq l qb t qu = some (v', h', t') ∧ RC n (RP st ld hi d) v' h' t' := by
  unfold m_L_makes
  obtain ⟨v1, h1', p1, p2⟩ := mk_clr (V0 := v) (H0 := h) (e := e) (qn := qn) (qq := qq) (l := l) (qb := qb) (T0 := t) (qu := qu) 40 0 v h rfl (fun r hr => absurd hr (by omega))
  rw [p1, Option.bind_some, cl2, h2, ncl (show d < 2147483648 by omega)]
  have hR0 : RC (lcn hi 0) (RP st ld hi 0) v1 h1' t := by
    refine ⟨fun r hr => Or.inr ⟨by rw [p2 r hr]; exact lq_0, rfl⟩, fun j hj => absurd hj (Nat.not_lt_zero j), fun r _ hr => ⟨rfl, fun k hk => ?_, fun k hk => ⟨?_, ?_, rfl⟩, rfl⟩⟩
    · show (if r * 3 + k < 240 then (-1 : Int32) else 0) = -1
      rw [if_pos (by omega)]
    · show (if r * 4 + k < 320 then (-1 : Int32) else 0) = -1
      rw [if_pos (by omega)]
    · show (if r * 4 + k < 320 then (-1 : Int32) else 0) = -1
      rw [if_pos (by omega)]
  obtain ⟨v', h', t', q1, q2⟩ := mk_lp (V0 := v) (H0 := h) (T0 := t) (fin := (v1, h1')) hL hO hQ hD hU hu hLU hE h1 h2 hn hd d 0 v1 h1' t (by omega) hR0
  rw [q1, Option.bind_some]
  exact ⟨v', h', t', rfl, q2⟩
end MK
