/-! PURE: a load, in the class and in the law -/
section LO
variable {qv ql : FL} {qh qn qq qb qt qu : FI} {load r3 : Int32} {x8 fin9 : Int64}
/-- the keys of a load are laid over -/
theorem lk_lp : ∀ (q k : Nat) (x : Int64), k + q = 3 → ∃ y, m_L_loads_lp98 qv qh qn qq ql qb qt qu load r3 x8 q k x = some y ∧ (∀ j, j < 3 → kx y j = if k ≤ j ∧ kx x j = 0 then kx (ql load.toNatClampNeg) j else kx x j) ∧ (∀ j, j < 4 → fx y j = fx x j ∧ sx y j = sx x j ∧ gx y j = gx x j) ∧ ix y = ix x := by
  intro q
  induction q with
  | zero => intro k x hk; exact ⟨x, rfl, fun j hj => by rw [if_neg (by omega)], fun j hj => ⟨rfl, rfl, rfl⟩, rfl⟩
  | succ q ih =>
    intro k x hk
    have hk3 : k < 3 := by omega
    simp only [m_L_loads_lp98]
    rw [L_key hk3, L_key hk3]
    have hxl : kx x k < 64 := kx_lt
    by_cases hc : kx x k = 0
    · rw [if_pos ((n0 (by omega)).mpr hc)]
      obtain ⟨y, a1, a2, a3, a4⟩ := ih (k + 1) (m_L_withKey x (nI k) (nI (kx (ql load.toNatClampNeg) k))) (by omega)
      refine ⟨y, a1, fun j hj => ?_, fun j hj => ?_, ?_⟩
      · rw [a2 j hj, wk_k hk3 kx_lt hj]
        by_cases hj2 : j = k
        · subst hj2
          rw [if_neg (by omega), if_pos rfl, if_pos ⟨Nat.le_refl _, hc⟩]
        · rw [if_neg hj2]
          by_cases h2 : k ≤ j ∧ kx x j = 0
          · rw [if_pos ⟨by omega, h2.2⟩, if_pos h2]
          · rw [if_neg (fun h3 => h2 ⟨by omega, h3.2⟩), if_neg h2]
      · obtain ⟨b1, b2, b3⟩ := a3 j hj
        exact ⟨b1.trans (wk_f hk3 kx_lt hj), b2.trans (wk_s hk3 kx_lt hj), b3.trans (wk_g hk3 kx_lt hj)⟩
      · exact a4.trans (wk_i hk3 kx_lt)
    · rw [if_neg (fun h9 => hc ((n0 (by omega)).mp h9))]
      obtain ⟨y, a1, a2, a3⟩ := ih (k + 1) x (by omega)
      refine ⟨y, a1, fun j hj => ?_, a3⟩
      rw [a2 j hj]
      by_cases h2 : k ≤ j ∧ kx x j = 0
      · have : j ≠ k := fun e => hc (e ▸ h2.2)
        rw [if_pos ⟨by omega, h2.2⟩, if_pos h2]
      · rw [if_neg (fun h3 => h2 ⟨by omega, h3.2⟩), if_neg h2]
/-- where a field of a load is laid, in the law -/
abbrev lf_c (ql : FL) (qq : FI) (load : Int32) (s : Nat) (x : Int64) (j : Nat) : Prop := ¬ fx (ql load.toNatClampNeg) j = 0 ∧ gx x j = 0 ∧ (fx x j = 0 ∨ qq (5 + j) = 2 ∨ (qq (5 + j) = 1 ∧ ¬ qq s < qq (sx x j)))
theorem lf_step {s q k : Nat} {x : Int64} (hk : k < 4) (hs : s < 5) (hb : qb load.toNatClampNeg / 16 = nI s) : m_L_loads_lp147 qv qh qn qq ql qb qt qu load r3 x8 fin9 (q + 1) k x = if lf_c ql qq load s x k then m_L_loads_lp147 qv qh qn qq ql qb qt qu load r3 x8 fin9 q (k + 1) (m_L_withField x (nI k) (nI (fx (ql load.toNatClampNeg) k)) (nI s)) else m_L_loads_lp147 qv qh qn qq ql qb qt qu load r3 x8 fin9 q (k + 1) x := by
  have h1 : fx x k < 128 := fx_lt
  have h2 : fx (ql load.toNatClampNeg) k < 128 := fx_lt
  have h3 : sx x k < 8 := sx_lt
  have h4 : gx x k < 2 := gx_lt
  have e5 : (5 : Int32) + nI k = nI (5 + k) := nI_add 5 k
  have i1 : inb (nI (5 + k)) 12 = true := inb_n (by omega) (by decide)
  have i2 : inb (nI s) 12 = true := inb_n (by omega) (by decide)
  have i3 : inb (nI (sx x k)) 12 = true := inb_n (by omega) (by decide)
  have c1 : (nI (5 + k)).toNatClampNeg = 5 + k := ncl (by omega)
  have c2 : (nI s).toNatClampNeg = s := ncl (by omega)
  have c3 : (nI (sx x k)).toNatClampNeg = sx x k := ncl (by omega)
  simp only [m_L_loads_lp147, L_field hk, L_isKept hk, L_source hk, hb, e5, c1, c2, c3, eq_true i1, eq_true i2, eq_true i3, if_true, n0 (show fx x k < 2147483648 by omega), nle0 (show fx (ql load.toNatClampNeg) k < 2147483648 by omega), n0 (show gx x k < 2147483648 by omega), lf_c]
  by_cases p1 : fx (ql load.toNatClampNeg) k = 0
  · simp only [eq_true p1, if_true, ite_self, not_true_eq_false, false_and, if_false]
  · by_cases p2 : gx x k = 0
    · by_cases p3 : fx x k = 0
      · simp only [eq_false p1, eq_true p2, eq_true p3, if_true, if_false, not_false_eq_true, true_and, true_or]
      · by_cases p4 : qq (5 + k) = 2
        · simp only [eq_false p1, eq_true p2, eq_false p3, eq_true p4, if_true, if_false, not_false_eq_true, true_and, true_or, or_true]
        · by_cases p5 : qq (5 + k) = 1
          · by_cases p6 : qq s < qq (sx x k)
            · simp only [eq_false p1, eq_true p2, eq_false p3, eq_false p4, eq_true p5, eq_true p6, if_true, if_false, not_false_eq_true, not_true_eq_false, true_and, and_false, or_false, false_or]
            · simp only [eq_false p1, eq_true p2, eq_false p3, eq_false p4, eq_true p5, eq_false p6, if_true, if_false, not_false_eq_true, true_and, or_true, false_or]
          · simp only [eq_false p1, eq_true p2, eq_false p3, eq_false p4, eq_false p5, if_true, if_false, not_false_eq_true, true_and, false_and, or_false]
    · by_cases p3 : fx x k = 0
      · simp only [eq_false p1, eq_false p2, eq_true p3, if_true, if_false, false_and, and_false]
      · by_cases p4 : qq (5 + k) = 2
        · simp only [eq_false p1, eq_false p2, eq_false p3, eq_true p4, if_true, if_false, false_and, and_false]
        · by_cases p5 : qq (5 + k) = 1
          · simp only [eq_false p1, eq_false p2, eq_false p3, eq_false p4, eq_true p5, if_true, if_false, false_and, and_false, ite_self]
          · simp only [eq_false p1, eq_false p2, eq_false p3, eq_false p4, eq_false p5, if_true, if_false, false_and, and_false]
theorem lf_lp {s : Nat} (hs : s < 5) (hb : qb load.toNatClampNeg / 16 = nI s) : ∀ (q k : Nat) (x : Int64), k + q = 4 → ∃ y, m_L_loads_lp147 qv qh qn qq ql qb qt qu load r3 x8 fin9 q k x = some y ∧ (∀ j, j < 4 → fx y j = (if k ≤ j ∧ lf_c ql qq load s x j then fx (ql load.toNatClampNeg) j else fx x j) ∧ sx y j = (if k ≤ j ∧ lf_c ql qq load s x j then s else sx x j) ∧ gx y j = gx x j) ∧ (∀ j, j < 3 → kx y j = kx x j) ∧ ix y = ix x := by
  intro q
  induction q with
  | zero => intro k x hk; exact ⟨x, rfl, fun j hj => ⟨by rw [if_neg (by omega)], by rw [if_neg (by omega)], rfl⟩, fun j hj => rfl, rfl⟩
  | succ q ih =>
    intro k x hk
    have hk4 : k < 4 := by omega
    have hs8 : s < 8 := by omega
    rw [lf_step hk4 hs hb]
    by_cases hc : lf_c ql qq load s x k
    · rw [if_pos hc]
      obtain ⟨y, a1, a2, a3, a4⟩ := ih (k + 1) (m_L_withField x (nI k) (nI (fx (ql load.toNatClampNeg) k)) (nI s)) (by omega)
      refine ⟨y, a1, fun j hj => ?_, fun j hj => (a3 j hj).trans (wf_k hk4 fx_lt hs8 hj), a4.trans (wf_i hk4 fx_lt hs8)⟩
      obtain ⟨b1, b2, b3⟩ := a2 j hj
      rw [b1, b2, b3]
      have f1 := wf_f (x := x) (k := k) (a := fx (ql load.toNatClampNeg) k) (s := s) hk4 fx_lt hs8 hj
      have f2 := wf_s (x := x) (k := k) (a := fx (ql load.toNatClampNeg) k) (s := s) hk4 fx_lt hs8 hj
      have f3 := wf_g (x := x) (k := k) (a := fx (ql load.toNatClampNeg) k) (s := s) hk4 fx_lt hs8 hj
      by_cases hj2 : j = k
      · subst hj2
        rw [if_pos rfl] at f1 f2
        have hno : ¬ (j + 1 ≤ j ∧ lf_c ql qq load s (m_L_withField x (nI j) (nI (fx (ql load.toNatClampNeg) j)) (nI s)) j) := fun h9 => absurd h9.1 (by omega)
        rw [if_neg hno, if_neg hno, if_pos ⟨Nat.le_refl _, hc⟩, if_pos ⟨Nat.le_refl _, hc⟩]
        exact ⟨f1, f2, f3⟩
      · rw [if_neg hj2] at f1 f2
        have hq : (k + 1 ≤ j ∧ lf_c ql qq load s (m_L_withField x (nI k) (nI (fx (ql load.toNatClampNeg) k)) (nI s)) j) ↔ (k ≤ j ∧ lf_c ql qq load s x j) := by
          unfold lf_c
          rw [f1, f2, f3]
          exact ⟨fun h9 => ⟨by omega, h9.2⟩, fun h9 => ⟨by omega, h9.2⟩⟩
        by_cases h2 : k ≤ j ∧ lf_c ql qq load s x j
        · rw [if_pos (hq.mpr h2), if_pos (hq.mpr h2), if_pos h2, if_pos h2]; exact ⟨rfl, rfl, f3⟩
        · rw [if_neg (fun h9 => h2 (hq.mp h9)), if_neg (fun h9 => h2 (hq.mp h9)), if_neg h2, if_neg h2]; exact ⟨f1, f2, f3⟩
    · rw [if_neg hc]
      obtain ⟨y, a1, a2, a3⟩ := ih (k + 1) x (by omega)
      refine ⟨y, a1, fun j hj => ?_, a3⟩
      obtain ⟨b1, b2, b3⟩ := a2 j hj
      rw [b1, b2]
      by_cases h2 : k ≤ j ∧ lf_c ql qq load s x j
      · have : j ≠ k := fun e => hc (e ▸ h2.2)
        have h3 : k + 1 ≤ j ∧ lf_c ql qq load s x j := ⟨by omega, h2.2⟩
        rw [if_pos h3, if_pos h3, if_pos h2, if_pos h2]; exact ⟨rfl, rfl, b3⟩
      · have h3 : ¬ (k + 1 ≤ j ∧ lf_c ql qq load s x j) := fun h9 => h2 ⟨by omega, h9.2⟩
        rw [if_neg h3, if_neg h3, if_neg h2, if_neg h2]; exact ⟨rfl, rfl, b3⟩
end LO
section LS
variable {n b i : Nat} {c : CatS} {v l : FL} {h t qn qq qb qu : FI} {u : MdlS} {st : SetS} {ld : LodS}
theorem RC.hits {m : Nat} {y : Int32} (hR : RC m c v h t) (hle : m ≤ i) (hge : i ≤ m) : RC (i + 1) (c.1, c.2.1, c.2.2.1, c.2.2.2.1, c.2.2.2.2.1, c.2.2.2.2.2.1, (upd c.2.2.2.2.2.2 i y)) v h (upd t i y) := by
  obtain ⟨h1, h2, h3⟩ := hR
  refine ⟨h1, fun j hj => ?_, fun r hr => h3 r (by omega)⟩
  show upd c.2.2.2.2.2.2 i y j = upd t i y j
  by_cases e : j = i
  · rw [e, pk_us, pk_us]
  · rw [pk_un e, pk_un e]; exact h2 j (by omega)
/-- a record is made -/
theorem RC.made (hR : RC i c v h t) (hL : LR n b st ld u) (hD : LD n ld l qb) (hi : i < n) (hn : n ≤ 40) :
    RC (i + 1) ((upd c.1 i 1), (fun j => if i * 3 ≤ j ∧ j < i * 3 + 3 ∧ c.2.1 j = -1 then ld.1 (i * 3 + (j - i * 3)) else c.2.1 j), (fun j => if i * 4 ≤ j ∧ j < i * 4 + 4 ∧ pu_lc st ld i (ld.2.2.1 i) c i j then ld.2.1 (i * 4 + (j - i * 4)) else c.2.2.1 j), (fun j => if i * 4 ≤ j ∧ j < i * 4 + 4 ∧ pu_lc st ld i (ld.2.2.1 i) c i j then ld.2.2.1 i else c.2.2.2.1 j), c.2.2.2.2.1, c.2.2.2.2.2.1, (upd c.2.2.2.2.2.2 i (nI i))) (vp_updL v i (l i ||| 4611686018427387904)) (upd h i 0) (upd t i (nI i)) := by
  obtain ⟨h1, h2, h3⟩ := hR
  obtain ⟨d1, d2, d3, s, x, hs, hx, e1, e2, e3, e4⟩ := hD i hi
  obtain ⟨f1, f2, f3, f4⟩ := h3 i (Nat.le_refl i) (by omega)
  refine ⟨fun r hr => ?_, fun j hj => ?_, fun r hr hr2 => ?_⟩
  · by_cases e : r = i
    · subst e
      left
      rw [pk_uLs, pk_us]
      dsimp only
      refine ⟨mk_i, pk_us, fun k hk => ?_, fun k hk => ?_, f4⟩
      · have e9 : kx (l r ||| 4611686018427387904) k = kx (l r) k := mk_q (by omega)
        rw [if_pos ⟨by omega, by omega, f2 k hk⟩, show r * 3 + k - r * 3 = k by omega, d2 k hk, e9]
      · obtain ⟨g1, g2, g3⟩ := f3 k hk
        obtain ⟨w1, w2⟩ := d3 k hk
        have hkk : r * 4 + k - r * 4 = k := by omega
        have q1 : fx (l r ||| 4611686018427387904) k = fx (l r) k := mk_q (by omega)
        have q2 : sx (l r ||| 4611686018427387904) k = sx (l r) k := mk_q (by omega)
        have q3 : gx (l r ||| 4611686018427387904) k = gx (l r) k := mk_q (by omega)
        have hfl : fx (l r) k < 128 := fx_lt
        rw [q1, q2, q3, w2]
        by_cases hc : fx (l r) k = 0
        · have hlf : ld.2.1 (r * 4 + k) = -1 := by rw [w1]; exact (nm0 (by omega)).mpr hc
          have hp : ¬ (r * 4 ≤ r * 4 + k ∧ r * 4 + k < r * 4 + 4 ∧ pu_lc st ld r (ld.2.2.1 r) c r (r * 4 + k)) := fun h9 => h9.2.2.1 (by rw [hkk]; exact hlf)
          rw [if_neg hp, if_neg hp, if_pos hc, g1, g2, g3, hc]
          exact ⟨rfl, rfl, rfl, fun h9 => absurd rfl h9⟩
        · have hp : r * 4 ≤ r * 4 + k ∧ r * 4 + k < r * 4 + 4 ∧ pu_lc st ld r (ld.2.2.1 r) c r (r * 4 + k) := ⟨by omega, by omega, by rw [hkk, w1]; exact fun h9 => hc ((nm0 (by omega)).mp h9), g3, Or.inl g1⟩
          rw [if_pos hp, if_pos hp, if_neg hc, hkk, g3, e1, e4 k hk hc]
          exact ⟨w1, rfl, rfl, fun _ => hs⟩
    · rw [pk_uLn e, pk_un e]
      rcases h1 r hr with ⟨a1, a2, a3, a4, a5⟩ | ⟨a1, a2⟩
      · left
        dsimp only
        refine ⟨a1, by rw [pk_un e]; exact a2, fun k hk => ?_, fun k hk => ?_, a5⟩
        · rw [if_neg (by omega)]; exact a3 k hk
        · rw [if_neg (by omega), if_neg (by omega)]; exact a4 k hk
      · right
        dsimp only
        exact ⟨a1, by rw [pk_un e]; exact a2⟩
  · show upd c.2.2.2.2.2.2 i (nI i) j = upd t i (nI i) j
    by_cases e : j = i
    · rw [e, pk_us, pk_us]
    · rw [pk_un e, pk_un e]; exact h2 j (by omega)
  · dsimp only
    obtain ⟨q1, q2, q3, q4⟩ := h3 r (by omega) hr2
    refine ⟨by rw [pk_un (by omega)]; exact q1, fun k hk => ?_, fun k hk => ?_, q4⟩
    · rw [if_neg (by omega)]; exact q2 k hk
    · rw [if_neg (by omega), if_neg (by omega)]; exact q3 k hk
/-- a load is laid over a record -/
theorem RC.laid {r : Nat} {y : Int64} (hR : RC i c v h t) (hL : LR n b st ld u) (hQ : QR st qq) (hD : LD n ld l qb) (hi : i < n) (hn : n ≤ 40) (hr : r < 40) (ht : c.1 r = 1) {s : Nat} (hs : s < 5) (hls : ld.2.2.1 i = nI s)
    (y1 : ∀ j, j < 3 → kx y j = if kx (v r) j = 0 then kx (l i) j else kx (v r) j)
    (y2 : ∀ j, j < 4 → fx y j = (if lf_c l qq (nI i) s (v r) j then fx (l i) j else fx (v r) j) ∧ sx y j = (if lf_c l qq (nI i) s (v r) j then s else sx (v r) j) ∧ gx y j = gx (v r) j) (y3 : ix y = ix (v r)) :
    RC (i + 1) ((upd c.1 r 1), (fun j => if r * 3 ≤ j ∧ j < r * 3 + 3 ∧ c.2.1 j = -1 then ld.1 (i * 3 + (j - r * 3)) else c.2.1 j), (fun j => if r * 4 ≤ j ∧ j < r * 4 + 4 ∧ pu_lc st ld i (ld.2.2.1 i) c r j then ld.2.1 (i * 4 + (j - r * 4)) else c.2.2.1 j), (fun j => if r * 4 ≤ j ∧ j < r * 4 + 4 ∧ pu_lc st ld i (ld.2.2.1 i) c r j then ld.2.2.1 i else c.2.2.2.1 j), c.2.2.2.2.1, c.2.2.2.2.2.1, (upd c.2.2.2.2.2.2 i (nI r))) (vp_updL v r y) h (upd t i (nI r)) := by
  obtain ⟨h1, h2, h3⟩ := hR
  obtain ⟨d1, d2, d3, -⟩ := hD i hi
  have hri : r < i := by
    rcases Nat.lt_or_ge r i with h9 | h9
    · exact h9
    · have := (h3 r h9 (by omega)).1
      rw [ht] at this
      exact absurd this (by decide)
  have hcl : (nI i).toNatClampNeg = i := ncl (by omega)
  refine ⟨fun r' hr' => ?_, fun j hj => ?_, fun r' hr1 hr2 => ?_⟩
  · by_cases e : r' = r
    · subst e
      rcases h1 r' hr with ⟨a1, a2, a3, a4, a5⟩ | ⟨a1, a2⟩
      · left
        rw [pk_uLs]
        dsimp only
        refine ⟨y3.trans a1, pk_us, fun k hk => ?_, fun k hk => ?_, a5⟩
        · have hkl : kx (v r') k < 64 := kx_lt
          rw [y1 k hk, a3 k hk, show r' * 3 + k - r' * 3 = k by omega, d2 k hk]
          by_cases hc : kx (v r') k = 0
          · rw [if_pos ⟨by omega, by omega, (nm0 (by omega)).mpr hc⟩, if_pos hc]
          · rw [if_neg (fun h9 => hc ((nm0 (by omega)).mp h9.2.2)), if_neg hc]
        · obtain ⟨g1, g2, g3, g4⟩ := a4 k hk
          obtain ⟨w1, w2⟩ := d3 k hk
          obtain ⟨z1, z2, z3⟩ := y2 k hk
          have hkk : r' * 4 + k - r' * 4 = k := by omega
          have hfl : fx (v r') k < 128 := fx_lt
          have hfl2 : fx (l i) k < 128 := fx_lt
          have hgl : gx (v r') k < 2 := gx_lt
          have hq2 : qq (5 + k) = u.2.1 k := by rw [hQ.2.1 k hk]; exact (hL.2.2.2.1 k hk).1
          have hrk : ∀ j, j < 5 → qq j = u.1 j := fun j hj => by rw [hQ.1 j hj]; exact (hL.2.2.1 j hj).1
          have hiff : pu_lc st ld i (ld.2.2.1 i) c r' (r' * 4 + k) ↔ lf_c l qq (nI i) s (v r') k := by
            unfold pu_lc lf_c
            rw [hkk, w1, g1, g2, g3, hls, hcl, nm0 (by omega), n0 (by omega), nm0 (by omega)]
            by_cases hc : fx (v r') k = 0
            · rw [if_pos hc]
              exact ⟨fun h9 => ⟨h9.1, h9.2.1, Or.inl hc⟩, fun h9 => ⟨h9.1, h9.2.1, Or.inl hc⟩⟩
            · have hs5 := g4 hc
              rw [if_neg hc, rep_eq hL.2.2.1 (hL.2.2.2.1 k hk) hk hs (Or.inr ⟨_, hs5, rfl⟩), ncl (show sx (v r') k < 2147483648 by omega), hq2, hrk s hs, hrk _ hs5]
              have hne : ¬ nI (sx (v r') k) = -1 := nI_m1 (by omega)
              exact ⟨fun h9 => ⟨h9.1, h9.2.1, h9.2.2.imp id (fun h8 => h8.imp id (fun h7 => ⟨h7.1, h7.2.resolve_left hne⟩))⟩, fun h9 => ⟨h9.1, h9.2.1, h9.2.2.imp id (fun h8 => h8.imp id (fun h7 => ⟨h7.1, Or.inr h7.2⟩))⟩⟩
          rw [z1, z2, z3]
          by_cases hp : lf_c l qq (nI i) s (v r') k
          · have a9 : r' * 4 ≤ r' * 4 + k ∧ r' * 4 + k < r' * 4 + 4 ∧ pu_lc st ld i (ld.2.2.1 i) c r' (r' * 4 + k) := ⟨by omega, by omega, hiff.mpr hp⟩
            have hne : ¬ fx (l i) k = 0 := by have := hp.1; rw [hcl] at this; exact this
            rw [if_pos a9, if_pos a9, if_pos hp, if_pos hp, if_neg hne, hkk, hls]
            exact ⟨w1, rfl, g3, fun _ => hs⟩
          · have a9 : ¬ (r' * 4 ≤ r' * 4 + k ∧ r' * 4 + k < r' * 4 + 4 ∧ pu_lc st ld i (ld.2.2.1 i) c r' (r' * 4 + k)) := fun h9 => hp (hiff.mp h9.2.2)
            rw [if_neg a9, if_neg a9, if_neg hp, if_neg hp]
            exact ⟨g1, g2, g3, g4⟩
      · rw [ht] at a2; exact absurd a2 (by decide)
    · rw [pk_uLn e]
      rcases h1 r' hr' with ⟨a1, a2, a3, a4, a5⟩ | ⟨a1, a2⟩
      · left
        dsimp only
        refine ⟨a1, by rw [pk_un e]; exact a2, fun k hk => ?_, fun k hk => ?_, a5⟩
        · rw [if_neg (by omega)]; exact a3 k hk
        · rw [if_neg (by omega), if_neg (by omega)]; exact a4 k hk
      · right
        dsimp only
        exact ⟨a1, by rw [pk_un e]; exact a2⟩
  · show upd c.2.2.2.2.2.2 i (nI r) j = upd t i (nI r) j
    by_cases e : j = i
    · rw [e, pk_us, pk_us]
    · rw [pk_un e, pk_un e]; exact h2 j (by omega)
  · dsimp only
    obtain ⟨q1, q2, q3, q4⟩ := h3 r' (by omega) hr2
    refine ⟨by rw [pk_un (by omega)]; exact q1, fun k hk => ?_, fun k hk => ?_, q4⟩
    · rw [if_neg (by omega)]; exact q2 k hk
    · rw [if_neg (by omega), if_neg (by omega)]; exact q3 k hk
/-- one load -/
theorem lq_sim {U : Nat} (hR : RC i c v h t) (hL : LR n b st ld u) (hQ : QR st qq) (hD : LD n ld l qb) (hU : U < 1024) (hu : qu 0 = nI U) (hLU : ∀ x, x < 10 → ld.2.2.2.2.1 x = if U.testBit x then 1 else 0) (h1 : qn 1 = nI n) (hn : n ≤ 40) (hi : i < n) :
    ∃ v' h' t', m_L_loads v h qn qq l qb t qu (nI i) = some (v', h', t') ∧ RC (i + 1) (m_X0_take c st ld (nI i)).1 v' h' t' := by
  obtain ⟨d1, d2, d3, s, x, hs, hx, e1, e2, e3, e4⟩ := hD i hi
  have hcl : (nI i).toNatClampNeg = i := ncl (by omega)
  have hmod : nI (x + 16 * s) - nI (x + 16 * s) / 16 * 16 = nI x := by
    have e9 : nI (x + 16 * s) - nI (x + 16 * s) / nI 16 * nI 16 = nI ((x + 16 * s) % 16) := nI_md (by omega) (by decide)
    rw [show (x + 16 * s) % 16 = x by omega] at e9
    exact e9
  have hdiv : qb (nI i).toNatClampNeg / 16 = nI s := by
    have e9 : nI (x + 16 * s) / nI 16 = nI ((x + 16 * s) / 16) := nI_dv (by omega) (by decide)
    rw [show (x + 16 * s) / 16 = s by omega] at e9
    rw [hcl, e3]; exact e9
  have hbit := ubit U hU x hx
  unfold m_L_loads
  rw [if_pos (inb_n (show i < 40 by omega) (by decide)), hcl, cl0, hu, e3, hmod, hbit]
  have hlu := hLU x hx
  by_cases ho : U.testBit x = true
  · rw [if_pos ho] at hlu
    rw [if_pos ho, if_pos rfl, pu_take_out (by omega) hx e2 hlu]
    exact ⟨v, h, _, rfl, hR.hits (Nat.le_refl i) (Nat.le_refl i)⟩
  · rw [if_neg ho] at hlu
    have hno : ¬ ld.2.2.2.2.1 x = 1 := by rw [hlu]; decide
    rw [if_neg ho, if_neg (show ¬ (0 : Int32) = 1 by decide)]
    obtain ⟨R, hRR, hcase⟩ := tq_lp hR (Nat.le_of_lt hi) hn h1 hL hQ hD hi 3 0 rfl
    have hm : m_L_hits v qn qq (l i) = some R := hRR
    rw [hm, Option.bind_some]
    rcases hcase with ⟨rfl, ht⟩ | ⟨rfl, ht⟩ | ⟨r, hr, rfl, hth, ht⟩
    · have ht2 : m_X0_target c st ld (nI i) = nI i := ht
      rw [if_pos rfl, pu_take_rec (by omega) hx e2 hno (by omega) ht2]
      exact ⟨_, _, _, rfl, hR.made hL hD hi hn⟩
    · have ht2 : m_X0_target c st ld (nI i) = -2 := ht
      rw [if_neg (by decide), if_pos (by decide), pu_take_neg (by omega) hx e2 hno ht2]
      exact ⟨v, h, _, rfl, hR.hits (Nat.le_refl i) (Nat.le_refl i)⟩
    · have ht2 : m_X0_target c st ld (nI i) = nI r := ht
      have hcr : (nI r).toNatClampNeg = r := ncl (by omega)
      rw [if_neg (nI_m1 (by omega)), if_neg (nI_pos (by omega)), if_pos (inb_n hr (by decide)), hcr, pu_take_rec (by omega) hx e2 hno (by omega) ht2]
      dsimp only
      obtain ⟨y, p1, p2, p3, p4⟩ := lk_lp (qv := v) (qh := h) (qn := qn) (qq := qq) (ql := l) (qb := qb) (qt := t) (qu := qu) (load := nI i) (r3 := nI r) (x8 := v r) 3 0 (v r) rfl
      rw [p1, Option.bind_some]
      obtain ⟨z, q1, q2, q3, q4⟩ := lf_lp (qv := v) (qh := h) (qn := qn) (qq := qq) (ql := l) (qb := qb) (qt := t) (qu := qu) (load := nI i) (r3 := nI r) (x8 := v r) (fin9 := y) hs hdiv 4 0 y rfl
      rw [q1, Option.bind_some]
      refine ⟨_, _, _, rfl, hR.laid hL hQ hD hi hn hr hth hs e1 (fun j hj => ?_) (fun j hj => ?_) (q4.trans p4)⟩
      · rw [q3 j hj, p2 j hj, hcl]
        by_cases h9 : kx (v r) j = 0
        · rw [if_pos ⟨Nat.zero_le j, h9⟩, if_pos h9]
        · rw [if_neg (fun h8 => h9 h8.2), if_neg h9]
      · obtain ⟨b1, b2, b3⟩ := q2 j hj
        obtain ⟨w1, w2, w3⟩ := p3 j hj
        have hq : (0 ≤ j ∧ lf_c l qq (nI i) s y j) ↔ lf_c l qq (nI i) s (v r) j := by
          unfold lf_c
          rw [w1, w2, w3]
          exact ⟨fun h9 => h9.2, fun h9 => ⟨Nat.zero_le j, h9⟩⟩
        rw [b1, b2]
        by_cases h2 : lf_c l qq (nI i) s (v r) j
        · rw [if_pos (hq.mpr h2), if_pos (hq.mpr h2), if_pos h2, if_pos h2, hcl]; exact ⟨rfl, rfl, b3.trans w3⟩
        · rw [if_neg (fun h9 => h2 (hq.mp h9)), if_neg (fun h9 => h2 (hq.mp h9)), if_neg h2, if_neg h2]; exact ⟨w1, w2, b3.trans w3⟩
end LS
