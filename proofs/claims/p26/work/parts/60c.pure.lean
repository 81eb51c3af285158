/-! PURE: one line of the history; the history done anew -/
theorem st_load {n b k i : Nat} {c : CatS} {u : MdlS} {st : SetS} {ld : LodS} {hi : HisS} (q : CR i i c u) (hL : LR n b st ld u) (hk : k < 180) (hin : i < n) (e1 : hi.1 k = 0) (e2 : hi.2.1 k = nI i) (e3 : u.2.2.2.2.2.2.2.2.2.2.2.2.2.2.2.1 k = 0) (e4 : u.2.2.2.2.2.2.2.2.2.2.2.2.2.2.2.2.1 k = nI i) :
    ∃ u', m_X7_perform u (nI k) = some u' ∧ KU u u' ∧ CR (i + 1) (i + 1) (m_X6_doStep st ld hi c (nI k)) u' := by
  obtain ⟨u', h1, h2, h3, -⟩ := ld_sim q hL hin
  refine ⟨u', ?_, h2, ?_⟩
  · unfold m_X7_perform
    rw [if_pos (inb_n hk (by decide)), ncl (show k < 2147483648 by omega)]
    dsimp only
    rw [if_pos e3, e4, h1]
    rfl
  · unfold m_X6_doStep
    rw [pu_get hk (by decide), pu_get hk (by decide), pu_get hk (by decide), pu_get hk (by decide)]
    dsimp only
    rw [if_pos e1, e2]
    exact h3
theorem ds_same {m hh n b k : Nat} {c : CatS} {u : MdlS} {st : SetS} {ld ld' : LodS} {hi hi' : HisS} (q : CR m hh c u) (hL : LR n b st ld u) (hk : k < 180) (hrow : HRow n k hi u) (hE : LE n ld ld') (a1 : hi'.1 k = hi.1 k) (a2 : hi'.2.1 k = hi.2.1 k) (a3 : hi'.2.2.1 k = hi.2.2.1 k) (a4 : hi'.2.2.2.1 k = hi.2.2.2.1 k) :
    m_X6_doStep st ld' hi' c (nI k) = m_X6_doStep st ld hi c (nI k) := by
  unfold m_X6_doStep
  rw [pu_get hk (by decide), pu_get hk (by decide), pu_get hk (by decide), pu_get hk (by decide), pu_get hk (by decide), pu_get hk (by decide), pu_get hk (by decide), pu_get hk (by decide), a1, a2, a3, a4]
  dsimp only
  by_cases e : hi.1 k = 0
  · rw [if_pos e, if_pos e]
    rcases hrow with ⟨-, -, i, hi2, h3, -⟩ | ⟨e1, -⟩ | ⟨e1, -⟩ | ⟨e1, -⟩
    · rw [h3, tk_same q hL hi2 hE]
    · rw [e1] at e; exact absurd e (by decide)
    · rw [e1] at e; exact absurd e (by decide)
    · rw [e1] at e; exact absurd e (by decide)
  · rw [if_neg e, if_neg e]
theorem uz {f : FI} {k N : Nat} {v : Int32} (h : ∀ j, N ≤ j → f j = 0) (hk : k < N) : ∀ j, N ≤ j → upd f k v j = 0 := fun j hj => by
  rw [pk_un (by omega)]; exact h j hj
theorem JZ.step {m hh n b k : Nat} {c : CatS} {u : MdlS} {st : SetS} {ld : LodS} {hi : HisS} (hz : JZ c) (q : CR m hh c u) (hL : LR n b st ld u) (hk : k < 180) (hrow : HRow n k hi u) : JZ (m_X6_doStep st ld hi c (nI k)) := by
  have hz0 := hz
  obtain ⟨z1, z2, z3, z4, z5, z6, z7⟩ := hz
  unfold m_X6_doStep
  rw [pu_get hk (by decide), pu_get hk (by decide), pu_get hk (by decide), pu_get hk (by decide)]
  dsimp only
  rcases hrow with ⟨e1, -, i, hin, a1, -⟩ | ⟨e1, e2, r, f, hr, hf, a1, a2, a3, a4⟩ | ⟨e1, e2, r, hr, a1, a2⟩ | ⟨e1, e2, r, o, hr, ho, hne, a1, a2, a3, a4⟩
  · rw [if_pos e1, a1]
    have hn := hL.1
    have hb := hL.2.1
    have hi80 : i < 80 := by omega
    obtain ⟨-, -, -, -, hlb, x, hx, hx2⟩ := hL.2.2.2.2.2.1 i hin
    have hx10 : x < 10 := by omega
    by_cases hout : ld.2.2.2.2.1 x = 1
    · rw [pu_take_out hi80 hx10 hx2 hout]
      exact ⟨z1, z2, z3, z4, z5, z6, uz z7 hi80⟩
    · rcases tg_range q hL hin with h2 | ⟨r, hr, h2⟩
      · rw [pu_take_neg hi80 hx10 hx2 hout h2]
        exact ⟨z1, z2, z3, z4, z5, z6, uz z7 hi80⟩
      · rw [pu_take_rec hi80 hx10 hx2 hout hr h2]
        refine ⟨uz z1 hr, fun j hj => ?_, fun j hj => ?_, fun j hj => ?_, z5, z6, uz z7 hi80⟩
        · dsimp only; rw [if_neg (by omega)]; exact z2 j hj
        · dsimp only; rw [if_neg (by omega)]; exact z3 j hj
        · dsimp only; rw [if_neg (by omega)]; exact z4 j hj
  · rw [e1, if_neg (by decide), if_pos rfl, a1, a3]
    by_cases ht : c.1 r = 1
    · rw [pu_guard1 hr hf ht]
      exact ⟨z1, z2, z3, z4, uz z5 (by omega), z6, z7⟩
    · rw [pu_guard0 hr ht]; exact hz0
  · rw [e1, if_neg (by decide), if_neg (by decide), if_pos rfl, a1]
    by_cases ht : c.1 r = 1
    · rw [pu_hold1 hr ht]
      exact ⟨z1, z2, z3, z4, z5, uz z6 hr, z7⟩
    · rw [pu_hold0 hr ht]; exact hz0
  · rw [e1, if_neg (by decide), if_neg (by decide), if_neg (by decide), if_pos rfl, a1, a3]
    by_cases ht : c.1 r = 1
    · by_cases hto : c.1 o = 1
      · rw [pu_join1 hr ho hne ht hto]
        refine ⟨uz z1 hr, fun j hj => ?_, fun j hj => ?_, fun j hj => ?_, z5, uz z6 ho, z7⟩
        · dsimp only; rw [if_neg (by omega)]; exact z2 j hj
        · dsimp only; rw [if_neg (by omega)]; exact z3 j hj
        · dsimp only; rw [if_neg (by omega)]; exact z4 j hj
      · rw [pu_join0' hr ho ht hto]; exact hz0
    · rw [pu_join0 hr ht]; exact hz0
/-- how many loads are in the first k lines -/
def lcn (hi : HisS) : Nat → Nat
  | 0 => 0
  | k + 1 => if hi.1 k = 0 then lcn hi k + 1 else lcn hi k
theorem lcn_le {hi : HisS} : ∀ k, lcn hi k ≤ k
  | 0 => Nat.le_refl 0
  | k + 1 => by
    have := lcn_le (hi := hi) k
    unfold lcn
    split <;> omega
/-- the history: every line, and the loads are numbered in order -/
def HO (d n : Nat) (hi : HisS) (u : MdlS) : Prop := d ≤ 180 ∧ (∀ k, k < d → HRow n k hi u ∧ (hi.1 k = 0 → hi.2.1 k = nI (lcn hi k))) ∧ lcn hi d = n ∧ u.2.2.2.2.2.2.2.2.2.2.2.2.2.2.1 = nI d
theorem HO.kept {d n : Nat} {hi : HisS} {u v : MdlS} (h : HO d n hi u) (k : KU u v) : HO d n hi v := by
  obtain ⟨a1, a2, a3, a4, a5, a6, a7, a8, a9, a10, a11, a12, a13, a14, a15, a16, a17, a18⟩ := k
  unfold HO HRow at *
  rw [a14, a15, a16, a17]
  exact h
theorem st_any {d n b k : Nat} {c : CatS} {u : MdlS} {st : SetS} {ld : LodS} {hi : HisS} (q : CR (lcn hi k) (lcn hi k) c u) (hL : LR n b st ld u) (hO : HO d n hi u) (hk : k < d) :
    ∃ u', m_X7_perform u (nI k) = some u' ∧ KU u u' ∧ CR (lcn hi (k + 1)) (lcn hi (k + 1)) (m_X6_doStep st ld hi c (nI k)) u' := by
  obtain ⟨hd, hr, -, -⟩ := hO
  obtain ⟨hrow, hnum⟩ := hr k hk
  by_cases e : hi.1 k = 0
  · have e9 : lcn hi (k + 1) = lcn hi k + 1 := if_pos e
    rw [e9]
    have hle := lcn_le (hi := hi) k
    rcases hrow with ⟨-, e2, i, hin, a1, a2⟩ | ⟨e1, -⟩ | ⟨e1, -⟩ | ⟨e1, -⟩
    · have hn := hL.1
      have hii : i = lcn hi k := (nI_eq (by omega) (by omega)).mp (a1.symm.trans (hnum e))
      rw [hii] at hin a1 a2
      exact st_load q hL (by omega) hin e a1 e2 a2
    · rw [e1] at e; exact absurd e (by decide)
    · rw [e1] at e; exact absurd e (by decide)
    · rw [e1] at e; exact absurd e (by decide)
  · have e9 : lcn hi (k + 1) = lcn hi k := if_neg e
    rw [e9]
    exact st_act q (by omega) hrow e
theorem ra_lp {d n b : Nat} {st : SetS} {ld : LodS} {hi : HisS} {ct c1 : CatS} {mu fin : MdlS} : ∀ (q k : Nat) (c : CatS) (u : MdlS), k + q = d → CR (lcn hi k) (lcn hi k) c u → LR n b st ld u → HO d n hi u → JZ c →
    ∃ u', m_X7_makeAnew_lp23 mu fin q k u = some u' ∧ KU u u' ∧ CR n n (m_X6_doAllAnew_lp6 st ld hi ct c1 q k c) u' ∧ JZ (m_X6_doAllAnew_lp6 st ld hi ct c1 q k c) := by
  intro q
  induction q with
  | zero =>
    intro k c u hkd h hL hO hz
    have hO2 := hO
    obtain ⟨hd, -, hn, hdm⟩ := hO2
    have hk : k = d := by omega
    refine ⟨u, ?_, KU.rf, ?_, hz⟩
    · simp only [m_X7_makeAnew_lp23]
      rw [hdm, if_pos (nI_le (by omega) (by omega))]
    · rw [hk, hn] at h; exact h
  | succ q ih =>
    intro k c u hkd h hL hO hz
    have hO2 := hO
    obtain ⟨hd, hrows, hn, hdm⟩ := hO2
    obtain ⟨u1, p1, p2, p3⟩ := st_any h hL hO (show k < d by omega)
    have hz1 := hz.step h hL (show k < 180 by omega) (hrows k (by omega)).1
    obtain ⟨u2, w1, w2, w3, w4⟩ := ih (k + 1) _ u1 (by omega) p3 (hL.kept p2) (hO.kept p2) hz1
    refine ⟨u2, ?_, p2.tr w2, w3, w4⟩
    simp only [m_X7_makeAnew_lp23]
    rw [hdm, if_neg (nI_ge (show k < d by omega) (by omega)), p1, Option.bind_some]
    exact w1
