/-! PURE: op_load -/
section loads
variable {n b d : Nat} {st : SetS} {ld : LodS} {hi : HisS} {ct cd : CatS} {u : MdlS}
def ldL (ld : LodS) (n b : Nat) (x : Int32) : LodS := (ld.1, ld.2.1, (upd ld.2.2.1 n x), (upd ld.2.2.2.1 n (nI b - 1)), ld.2.2.2.2.1, (nI (n + 1)), ld.2.2.2.2.2.2)
def ldH (hi : HisS) (n d : Nat) : HisS := ((upd hi.1 d 0), (upd hi.2.1 d (nI n)), (upd hi.2.2.1 d (-1)), (upd hi.2.2.2.1 d (-1)), (nI (d + 1)), (nI (n + 1)))
theorem Rel.load {s : Nat} (R : Rel n b d st ld hi ct cd u) (hs : s < 5) (hb : 0 < b) (hn : n < 80) (hin : m_X7_in (nI s) 0 4 = 1) :
    ∃ u', m_X7_load u (nI s) = some (u', u'.2.2.2.2.2.2.2.2.2.2.2.2.1 n) ∧ u'.2.2.2.2.2.2.2.2.2.2.2.2.2.2.2.2.2.2.2.2.2.2.2.2 = 0 ∧ (m_X0_take ct st (ldL ld n b (nI s)) (nI n)).2 = u'.2.2.2.2.2.2.2.2.2.2.2.2.1 n ∧ Rel (n + 1) b (d + 1) st (ldL ld n b (nI s)) (ldH hi n d) (m_X0_take ct st (ldL ld n b (nI s)) (nI n)).1 cd u' := by
  obtain ⟨hL, hc, hO, hz, hct, ⟨g1, g2, g3, g4, g5, g6, g7⟩, h7, h8⟩ := R
  have hb10 := hL.2.1
  have hd180 : d < 180 := by omega
  have hO2 := hO
  obtain ⟨o1, o2, o3, o4⟩ := hO2
  have hbm : ¬ u.2.2.2.2.2.1 = 0 := by rw [g5]; exact fun h => absurd ((nI_eq (b := 0) (by omega) (by decide)).mp h) (by omega)
  obtain ⟨M, rfl⟩ : ∃ M, b = M + 1 := ⟨b - 1, by omega⟩
  have hpm : nI (M + 1) - 1 = nI M := nI_pred M
  have hL1 : LR (n + 1) (M + 1) st (ldL ld n (M + 1) (nI s)) (ldU u n d (nI s)) := by
    refine ⟨by omega, hL.2.1, hL.2.2.1, hL.2.2.2.1, hL.2.2.2.2.1, fun i hi9 => ?_, hL.2.2.2.2.2.2⟩
    show (∀ k, k < 3 → ld.1 (i * 3 + k) = (if n * 3 + 0 ≤ i * 3 + k ∧ i * 3 + k < n * 3 + 3 then u.2.2.2.1 (i * 3 + k - n * 3) else u.2.2.2.2.2.2.2.2.2.2.1 (i * 3 + k)) ∧ -1 ≤ ld.1 (i * 3 + k)) ∧ (∀ k, k < 4 → ld.2.1 (i * 4 + k) = (if n * 4 + 0 ≤ i * 4 + k ∧ i * 4 + k < n * 4 + 4 then u.2.2.2.2.1 (i * 4 + k - n * 4) else u.2.2.2.2.2.2.2.2.2.2.2.1 (i * 4 + k)) ∧ -1 ≤ ld.2.1 (i * 4 + k)) ∧ upd ld.2.2.1 n (nI s) i = upd u.2.2.2.2.2.2.2.2.2.1 n (nI s) i ∧ (∃ s', s' < 5 ∧ upd ld.2.2.1 n (nI s) i = nI s') ∧ upd ld.2.2.2.1 n (nI (M + 1) - 1) i = upd u.2.2.2.2.2.2.2.2.1 n (u.2.2.2.2.2.1 - 1) i ∧ ∃ x, x < M + 1 ∧ upd ld.2.2.2.1 n (nI (M + 1) - 1) i = nI x
    by_cases e : i = n
    · subst e
      refine ⟨fun k hk => ?_, fun k hk => ?_, ?_, ?_, ?_, ?_⟩
      · rw [if_pos (by omega), show i * 3 + k - i * 3 = k by omega]; exact h8.1 k hk
      · rw [if_pos (by omega), show i * 4 + k - i * 4 = k by omega]; exact h8.2.1 k hk
      · rw [pk_us, pk_us]
      · rw [pk_us]; exact ⟨s, hs, rfl⟩
      · rw [pk_us, pk_us, g5]
      · rw [pk_us, hpm]; exact ⟨M, by omega, rfl⟩
    · obtain ⟨z1, z2, z3, z4, z5, z6⟩ := hL.2.2.2.2.2.1 i (by omega)
      rw [pk_un e, pk_un e, pk_un e, pk_un e]
      refine ⟨fun k hk => ?_, fun k hk => ?_, z3, z4, z5, z6⟩
      · rw [if_neg (by omega)]; exact z1 k hk
      · rw [if_neg (by omega)]; exact z2 k hk
  have hc1 : CR n n ct (ldU u n d (nI s)) := hc
  have hls : ∀ j, j ≤ d → lcn (ldH hi n d) j = lcn hi j := fun j hj => lcn_same j (fun i hi9 => pk_un (by omega))
  have hO1 : HO (d + 1) (n + 1) (ldH hi n d) (ldU u n d (nI s)) := by
    refine ⟨by omega, fun j hj => ?_, ?_, rfl⟩
    · by_cases e : j = d
      · subst e
        refine ⟨Or.inl ⟨pk_us, pk_us, n, by omega, pk_us, pk_us⟩, fun _ => ?_⟩
        rw [hls j (Nat.le_refl j), o3]
        exact pk_us
      · obtain ⟨w1, w2⟩ := o2 j (by omega)
        refine ⟨w1.same (Nat.le_succ n) (pk_un e) (pk_un e) (pk_un e) (pk_un e) (pk_un e) (pk_un e) (pk_un e), fun h9 => ?_⟩
        rw [hls j (by omega)]
        show upd hi.2.1 d (nI n) j = _
        rw [pk_un e]
        exact w2 ((pk_un e).symm.trans h9)
    · show (if upd hi.1 d 0 d = 0 then lcn (ldH hi n d) d + 1 else lcn (ldH hi n d) d) = n + 1
      rw [pk_us, if_pos rfl, hls d (Nat.le_refl d), o3]
  obtain ⟨u', q1, q2, q3, q4⟩ := ld_sim hc1 hL1 (Nat.lt_succ_self n)
  have hpf : m_X7_perform (ldU u n d (nI s)) (nI d) = some u' := by
    have e3 : (ldU u n d (nI s)).2.2.2.2.2.2.2.2.2.2.2.2.2.2.2.1 d = 0 := pk_us
    have e4 : (ldU u n d (nI s)).2.2.2.2.2.2.2.2.2.2.2.2.2.2.2.2.1 d = nI n := pk_us
    unfold m_X7_perform
    rw [if_pos (inb_n hd180 (by decide)), ncl (show d < 2147483648 by omega)]
    dsimp only
    rw [if_pos e3, e4, q1]
    rfl
  have hle : LE n ld (ldL ld n (M + 1) (nI s)) := LE.of hL (fun i hin => ⟨fun k hk => rfl, fun k hk => rfl, pk_un (by omega), pk_un (by omega)⟩) (fun x hx => rfl)
  have hrp := RP.same (hi := hi) (hi' := ldH hi n d) hle (fun j hj => ⟨pk_un (by omega), pk_un (by omega), pk_un (by omega), pk_un (by omega)⟩) hL hO
  have hds : m_X6_doStep st (ldL ld n (M + 1) (nI s)) (ldH hi n d) ct (nI d) = (m_X0_take ct st (ldL ld n (M + 1) (nI s)) (nI n)).1 := by
    have a1 : (ldH hi n d).1 d = 0 := pk_us
    have a2 : (ldH hi n d).2.1 d = nI n := pk_us
    unfold m_X6_doStep
    rw [pu_get hd180 (by decide), pu_get hd180 (by decide), pu_get hd180 (by decide), pu_get hd180 (by decide)]
    dsimp only
    rw [if_pos a1, a2]
  have q2' := q2
  obtain ⟨a1, a2, a3, a4, a5, a6, a7, a8, a9, a10, a11, a12, a13, a14, a15, a16, a17, a18⟩ := q2'
  refine ⟨u', ml_eq hin hbm g6 hn o4 hd180 hpf, a18, q4, ⟨hL1.kept q2, q3, hO1.kept q2, hz, ?_, ⟨rfl, rfl, rfl, g4, a6.trans g5, a8.trans ?_, a13.trans ?_⟩, ⟨by omega, by omega, fun h9 => absurd h9 (by omega), fun h9 => absurd h9 (by omega)⟩, ?_⟩⟩
  · rw [RP.succ, hrp, ← hct, hds]
  · show u.2.2.2.2.2.2.2.1 + 1 = nI (n + 1)
    rw [g6, nI_1]
  · show u.2.2.2.2.2.2.2.2.2.2.2.2.2.1 = nI (d + 1 - (n + 1))
    rw [g7, Nat.add_sub_add_right]
  · rw [a4, a5]
    refine ⟨fun k hk => ?_, fun k hk => ?_, fun j hj1 hj2 => ?_, fun j hj1 hj2 => ?_, h8.2.2.2.2⟩
    · have e9 : ld.1 ((n + 1) * 3 + k) = -1 := h8.2.2.1 _ (by omega) (by omega)
      show ld.1 ((n + 1) * 3 + k) = (if 0 ≤ k ∧ k < 3 then -1 else u.2.2.2.1 k) ∧ -1 ≤ ld.1 ((n + 1) * 3 + k)
      rw [e9, if_pos ⟨Nat.zero_le k, hk⟩]
      exact ⟨rfl, by decide⟩
    · have e9 : ld.2.1 ((n + 1) * 4 + k) = -1 := h8.2.2.2.1 _ (by omega) (by omega)
      show ld.2.1 ((n + 1) * 4 + k) = (if 0 ≤ k ∧ k < 4 then -1 else u.2.2.2.2.1 k) ∧ -1 ≤ ld.2.1 ((n + 1) * 4 + k)
      rw [e9, if_pos ⟨Nat.zero_le k, hk⟩]
      exact ⟨rfl, by decide⟩
    · exact h8.2.2.1 j (by omega) hj2
    · exact h8.2.2.2.1 j (by omega) hj2
theorem op_load (R : Rel n b d st ld hi ct cd u) (v : Int32) : ∃ u' r, m_X7_load u v = some (u', r) ∧ ((u'.2.2.2.2.2.2.2.2.2.2.2.2.2.2.2.2.2.2.2.2.2.2.2.2 = 0 ∧ ∃ ld' hi' ct', m_X6_load st ld hi ct cd v = .inr ((ld', hi', ct'), r) ∧ Rel (n + 1) b (d + 1) st ld' hi' ct' cd u') ∨ (Rel n b d st ld hi ct cd u' ∧ ((u'.2.2.2.2.2.2.2.2.2.2.2.2.2.2.2.2.2.2.2.2.2.2.2.2 = 1 ∧ m_X6_load st ld hi ct cd v = .inl "java/lang/IndexOutOfBoundsException") ∨ (u'.2.2.2.2.2.2.2.2.2.2.2.2.2.2.2.2.2.2.2.2.2.2.2.2 = 2 ∧ m_X6_load st ld hi ct cd v = .inl "java/lang/IllegalStateException")))) := by
  have R0 := R
  obtain ⟨hL, hc, hO, hz, hct, ⟨g1, g2, g3, g4, g5, g6, g7⟩, h7, h8⟩ := R0
  have hn80 := hL.1
  have hb10 := hL.2.1
  rcases ix_cases v (show 5 ≤ 1000 by decide) with ⟨a, ha, rfl, q1, q2⟩ | ⟨q1, q2⟩
  · have q3 : m_X7_in (nI a) 0 4 = 1 := q2
    have q4 : m_X6_needIndex (nI a) 5 = .inr () := q1
    by_cases hb : b = 0
    · have e9 : u.2.2.2.2.2.1 = 0 := by rw [g5, hb]; rfl
      have e8 : ld.2.2.2.2.2.2 = 0 := by rw [g4, hb]; rfl
      refine ⟨(u.1, u.2.1, u.2.2.1, u.2.2.2.1, u.2.2.2.2.1, u.2.2.2.2.2.1, u.2.2.2.2.2.2.1, u.2.2.2.2.2.2.2.1, u.2.2.2.2.2.2.2.2.1, u.2.2.2.2.2.2.2.2.2.1, u.2.2.2.2.2.2.2.2.2.2.1, u.2.2.2.2.2.2.2.2.2.2.2.1, u.2.2.2.2.2.2.2.2.2.2.2.2.1, u.2.2.2.2.2.2.2.2.2.2.2.2.2.1, u.2.2.2.2.2.2.2.2.2.2.2.2.2.2.1, u.2.2.2.2.2.2.2.2.2.2.2.2.2.2.2.1, u.2.2.2.2.2.2.2.2.2.2.2.2.2.2.2.2.1, u.2.2.2.2.2.2.2.2.2.2.2.2.2.2.2.2.2.1, u.2.2.2.2.2.2.2.2.2.2.2.2.2.2.2.2.2.2.1, u.2.2.2.2.2.2.2.2.2.2.2.2.2.2.2.2.2.2.2.1, u.2.2.2.2.2.2.2.2.2.2.2.2.2.2.2.2.2.2.2.2.1, u.2.2.2.2.2.2.2.2.2.2.2.2.2.2.2.2.2.2.2.2.2.1, u.2.2.2.2.2.2.2.2.2.2.2.2.2.2.2.2.2.2.2.2.2.2.1, u.2.2.2.2.2.2.2.2.2.2.2.2.2.2.2.2.2.2.2.2.2.2.2.1, (2)), 0, ?_, Or.inr ⟨R.thrown 2, Or.inr ⟨rfl, ?_⟩⟩⟩
      · unfold m_X7_load
        rw [q3, if_neg (show ¬ (1 : Int32) = 0 by decide), if_pos e9]
      · unfold m_X6_load
        rw [q4, xb_r, if_pos e8]
    · have e8 : ¬ ld.2.2.2.2.2.2 = 0 := by rw [g4]; exact fun h => absurd ((nI_eq (b := 0) (by omega) (by decide)).mp h) hb
      by_cases hn : n = 80
      · have e9 : ¬ u.2.2.2.2.2.1 = 0 := by rw [g5]; exact fun h => absurd ((nI_eq (b := 0) (by omega) (by decide)).mp h) hb
        have e7 : u.2.2.2.2.2.2.2.1 = 80 := by rw [g6, hn]; rfl
        have e6 : ¬ ld.2.2.2.2.2.1 < 80 := by rw [g3, hn]; decide
        refine ⟨(u.1, u.2.1, u.2.2.1, u.2.2.2.1, u.2.2.2.2.1, u.2.2.2.2.2.1, u.2.2.2.2.2.2.1, u.2.2.2.2.2.2.2.1, u.2.2.2.2.2.2.2.2.1, u.2.2.2.2.2.2.2.2.2.1, u.2.2.2.2.2.2.2.2.2.2.1, u.2.2.2.2.2.2.2.2.2.2.2.1, u.2.2.2.2.2.2.2.2.2.2.2.2.1, u.2.2.2.2.2.2.2.2.2.2.2.2.2.1, u.2.2.2.2.2.2.2.2.2.2.2.2.2.2.1, u.2.2.2.2.2.2.2.2.2.2.2.2.2.2.2.1, u.2.2.2.2.2.2.2.2.2.2.2.2.2.2.2.2.1, u.2.2.2.2.2.2.2.2.2.2.2.2.2.2.2.2.2.1, u.2.2.2.2.2.2.2.2.2.2.2.2.2.2.2.2.2.2.1, u.2.2.2.2.2.2.2.2.2.2.2.2.2.2.2.2.2.2.2.1, u.2.2.2.2.2.2.2.2.2.2.2.2.2.2.2.2.2.2.2.2.1, u.2.2.2.2.2.2.2.2.2.2.2.2.2.2.2.2.2.2.2.2.2.1, u.2.2.2.2.2.2.2.2.2.2.2.2.2.2.2.2.2.2.2.2.2.2.1, u.2.2.2.2.2.2.2.2.2.2.2.2.2.2.2.2.2.2.2.2.2.2.2.1, (2)), 0, ?_, Or.inr ⟨R.thrown 2, Or.inr ⟨rfl, ?_⟩⟩⟩
        · unfold m_X7_load
          rw [q3, if_neg (show ¬ (1 : Int32) = 0 by decide), if_neg e9, if_pos e7]
        · unfold m_X6_load
          rw [q4, xb_r, if_neg e8, if_neg e6]
      · obtain ⟨u', p1, p2, p3, p4⟩ := R.load ha (by omega) (by omega) q3
        have e6 : ld.2.2.2.2.2.1 < 80 := by rw [g3]; exact nI_lt (b := 80) (by omega) (by decide)
        have hcl : (m_X3_close ld (nI a)).1 = ldL ld n b (nI a) := by
          unfold m_X3_close ldL
          dsimp only
          rw [g3, g4, pu_set (show n < 80 by omega) (by decide), pu_set (show n < 80 by omega) (by decide), nI_1]
        have hcx : (m_X3_close ld (nI a)).2 = nI n := g3
        have hap : m_X2_append hi 0 (nI n) (-1) (-1) = ldH hi n d := by
          unfold m_X2_append ldH
          rw [if_pos rfl, g1, g2, pu_set (show d < 180 by omega) (by decide), pu_set (show d < 180 by omega) (by decide), pu_set (show d < 180 by omega) (by decide), pu_set (show d < 180 by omega) (by decide), nI_1, nI_1]
        refine ⟨u', _, p1, Or.inl ⟨p2, _, _, _, ?_, p4⟩⟩
        unfold m_X6_load
        rw [q4, xb_r, if_neg e8, if_pos e6]
        dsimp only
        rw [hcl, hcx, hap, p3]
  · have q3 : m_X7_in v 0 4 = 0 := q2
    have q4 : m_X6_needIndex v 5 = .inl "java/lang/IndexOutOfBoundsException" := q1
    refine ⟨(u.1, u.2.1, u.2.2.1, u.2.2.2.1, u.2.2.2.2.1, u.2.2.2.2.2.1, u.2.2.2.2.2.2.1, u.2.2.2.2.2.2.2.1, u.2.2.2.2.2.2.2.2.1, u.2.2.2.2.2.2.2.2.2.1, u.2.2.2.2.2.2.2.2.2.2.1, u.2.2.2.2.2.2.2.2.2.2.2.1, u.2.2.2.2.2.2.2.2.2.2.2.2.1, u.2.2.2.2.2.2.2.2.2.2.2.2.2.1, u.2.2.2.2.2.2.2.2.2.2.2.2.2.2.1, u.2.2.2.2.2.2.2.2.2.2.2.2.2.2.2.1, u.2.2.2.2.2.2.2.2.2.2.2.2.2.2.2.2.1, u.2.2.2.2.2.2.2.2.2.2.2.2.2.2.2.2.2.1, u.2.2.2.2.2.2.2.2.2.2.2.2.2.2.2.2.2.2.1, u.2.2.2.2.2.2.2.2.2.2.2.2.2.2.2.2.2.2.2.1, u.2.2.2.2.2.2.2.2.2.2.2.2.2.2.2.2.2.2.2.2.1, u.2.2.2.2.2.2.2.2.2.2.2.2.2.2.2.2.2.2.2.2.2.1, u.2.2.2.2.2.2.2.2.2.2.2.2.2.2.2.2.2.2.2.2.2.2.1, u.2.2.2.2.2.2.2.2.2.2.2.2.2.2.2.2.2.2.2.2.2.2.2.1, (1)), 0, ?_, Or.inr ⟨R.thrown 1, Or.inl ⟨rfl, ?_⟩⟩⟩
    · unfold m_X7_load
      rw [q3, if_pos rfl]
    · unfold m_X6_load
      rw [q4, xb_l]
end loads
