/-! PURE: an act is appended to the history and done -/
theorem nI_sub (e n : Nat) : nI (e + n) - nI n = nI e := by rw [← nI_add]; exact Int32.add_sub_cancel _ _
theorem lcn_same {hi hi' : HisS} : ∀ k, (∀ j, j < k → hi'.1 j = hi.1 j) → lcn hi' k = lcn hi k
  | 0, _ => rfl
  | k + 1, h => by
    have := lcn_same (hi := hi) (hi' := hi') k (fun j hj => h j (by omega))
    unfold lcn
    rw [h k (Nat.lt_succ_self k), this]
theorem HRow.same {n n' k : Nat} {hi hi' : HisS} {u u' : MdlS} (h : HRow n k hi u) (hn : n ≤ n') (a1 : hi'.1 k = hi.1 k) (a2 : hi'.2.1 k = hi.2.1 k) (a3 : hi'.2.2.1 k = hi.2.2.1 k) (a4 : hi'.2.2.2.1 k = hi.2.2.2.1 k) (b1 : u'.2.2.2.2.2.2.2.2.2.2.2.2.2.2.2.1 k = u.2.2.2.2.2.2.2.2.2.2.2.2.2.2.2.1 k) (b2 : u'.2.2.2.2.2.2.2.2.2.2.2.2.2.2.2.2.1 k = u.2.2.2.2.2.2.2.2.2.2.2.2.2.2.2.2.1 k) (b3 : u'.2.2.2.2.2.2.2.2.2.2.2.2.2.2.2.2.2.1 k = u.2.2.2.2.2.2.2.2.2.2.2.2.2.2.2.2.2.1 k) : HRow n' k hi' u' := by
  unfold HRow at *
  rw [a1, a2, a3, a4, b1, b2, b3]
  rcases h with ⟨e1, e2, i, hi2, e3⟩ | h | h | h
  · exact Or.inl ⟨e1, e2, i, by omega, e3⟩
  · exact Or.inr (Or.inl h)
  · exact Or.inr (Or.inr (Or.inl h))
  · exact Or.inr (Or.inr (Or.inr h))
section acts
variable {n b d : Nat} {st : SetS} {ld : LodS} {hi : HisS} {ct cd : CatS} {u : MdlS}
theorem ap_eq {k o1 o2 o3 : Int32} (hN : hi.2.2.2.2.1 = nI d) (hd : d < 180) (hk : ¬ k = 0) : m_X2_append hi k o1 o2 o3 = ((upd hi.1 d k), (upd hi.2.1 d o1), (upd hi.2.2.1 d o2), (upd hi.2.2.2.1 d o3), (nI (d + 1)), hi.2.2.2.2.2) := by
  unfold m_X2_append
  rw [if_neg hk, hN, pu_set hd (by decide), pu_set hd (by decide), pu_set hd (by decide), pu_set hd (by decide), nI_1]
theorem al_0 (hN : hi.2.2.2.2.1 = nI d) (hL : hi.2.2.2.2.2 = nI n) (hnd : n ≤ d) (hd : d < n + 100) : m_X6_needActLeft st ld hi ct cd = .inr () := by
  obtain ⟨e, rfl⟩ : ∃ e, d = e + n := ⟨d - n, by omega⟩
  unfold m_X6_needActLeft m_X2_acts
  rw [hN, hL, nI_sub, if_pos (show nI e < 100 from nI_lt (b := 100) (by omega) (by decide))]
theorem al_1 (hN : hi.2.2.2.2.1 = nI d) (hL : hi.2.2.2.2.2 = nI n) (hd : d = n + 100) : m_X6_needActLeft st ld hi ct cd = .inl "java/lang/IllegalStateException" := by
  unfold m_X6_needActLeft m_X2_acts
  rw [hN, hL, hd, Nat.add_comm n 100, nI_sub, if_neg (by decide)]
theorem Rel.act {k o1 o2 o3 q p1 p2 : Int32} (R : Rel n b d st ld hi ct cd u) (hn : 0 < n) (hd : d < n + 100) (hk : ¬ k = 0)
    (hrow : HRow n d ((upd hi.1 d k), (upd hi.2.1 d o1), (upd hi.2.2.1 d o2), (upd hi.2.2.2.1 d o3), (nI (d + 1)), hi.2.2.2.2.2) (u.1, u.2.1, u.2.2.1, u.2.2.2.1, u.2.2.2.2.1, u.2.2.2.2.2.1, u.2.2.2.2.2.2.1, u.2.2.2.2.2.2.2.1, u.2.2.2.2.2.2.2.2.1, u.2.2.2.2.2.2.2.2.2.1, u.2.2.2.2.2.2.2.2.2.2.1, u.2.2.2.2.2.2.2.2.2.2.2.1, u.2.2.2.2.2.2.2.2.2.2.2.2.1, (u.2.2.2.2.2.2.2.2.2.2.2.2.2.1 + 1), (nI (d + 1)), (upd u.2.2.2.2.2.2.2.2.2.2.2.2.2.2.2.1 d q), (upd u.2.2.2.2.2.2.2.2.2.2.2.2.2.2.2.2.1 d p1), (upd u.2.2.2.2.2.2.2.2.2.2.2.2.2.2.2.2.2.1 d p2), u.2.2.2.2.2.2.2.2.2.2.2.2.2.2.2.2.2.2.1, u.2.2.2.2.2.2.2.2.2.2.2.2.2.2.2.2.2.2.2.1, u.2.2.2.2.2.2.2.2.2.2.2.2.2.2.2.2.2.2.2.2.1, u.2.2.2.2.2.2.2.2.2.2.2.2.2.2.2.2.2.2.2.2.2.1, u.2.2.2.2.2.2.2.2.2.2.2.2.2.2.2.2.2.2.2.2.2.2.1, u.2.2.2.2.2.2.2.2.2.2.2.2.2.2.2.2.2.2.2.2.2.2.2.1, (0))) :
    ∃ u', m_X7_add (u.1, u.2.1, u.2.2.1, u.2.2.2.1, u.2.2.2.2.1, u.2.2.2.2.2.1, u.2.2.2.2.2.2.1, u.2.2.2.2.2.2.2.1, u.2.2.2.2.2.2.2.2.1, u.2.2.2.2.2.2.2.2.2.1, u.2.2.2.2.2.2.2.2.2.2.1, u.2.2.2.2.2.2.2.2.2.2.2.1, u.2.2.2.2.2.2.2.2.2.2.2.2.1, (u.2.2.2.2.2.2.2.2.2.2.2.2.2.1 + 1), u.2.2.2.2.2.2.2.2.2.2.2.2.2.2.1, u.2.2.2.2.2.2.2.2.2.2.2.2.2.2.2.1, u.2.2.2.2.2.2.2.2.2.2.2.2.2.2.2.2.1, u.2.2.2.2.2.2.2.2.2.2.2.2.2.2.2.2.2.1, u.2.2.2.2.2.2.2.2.2.2.2.2.2.2.2.2.2.2.1, u.2.2.2.2.2.2.2.2.2.2.2.2.2.2.2.2.2.2.2.1, u.2.2.2.2.2.2.2.2.2.2.2.2.2.2.2.2.2.2.2.2.1, u.2.2.2.2.2.2.2.2.2.2.2.2.2.2.2.2.2.2.2.2.2.1, u.2.2.2.2.2.2.2.2.2.2.2.2.2.2.2.2.2.2.2.2.2.2.1, u.2.2.2.2.2.2.2.2.2.2.2.2.2.2.2.2.2.2.2.2.2.2.2.1, (0)) q p1 p2 = some u' ∧ u'.2.2.2.2.2.2.2.2.2.2.2.2.2.2.2.2.2.2.2.2.2.2.2.2 = 0 ∧ Rel n b (d + 1) st ld (m_X2_append hi k o1 o2 o3) (m_X6_doStep st ld (m_X2_append hi k o1 o2 o3) ct (nI d)) cd u' := by
  obtain ⟨hL, hc, hO, hz, hct, ⟨g1, g2, g3, g4, g5, g6, g7⟩, h7, h8⟩ := R
  have hn80 := hL.1
  have hd180 : d < 180 := by omega
  rw [ap_eq g1 hd180 hk]
  have hO2 := hO
  obtain ⟨o1', o2', o3', o4'⟩ := hO2
  have e1 : inb u.2.2.2.2.2.2.2.2.2.2.2.2.2.2.1 180 = true := by rw [o4']; exact inb_n hd180 (by decide)
  have e2 : u.2.2.2.2.2.2.2.2.2.2.2.2.2.2.1.toNatClampNeg = d := by rw [o4', ncl (by omega)]
  have e3 : u.2.2.2.2.2.2.2.2.2.2.2.2.2.2.1 + 1 = nI (d + 1) := by rw [o4', nI_1]
  have e4 : nI (d + 1) - 1 = nI d := nI_pred d
  have hL1 : LR n b st ld (u.1, u.2.1, u.2.2.1, u.2.2.2.1, u.2.2.2.2.1, u.2.2.2.2.2.1, u.2.2.2.2.2.2.1, u.2.2.2.2.2.2.2.1, u.2.2.2.2.2.2.2.2.1, u.2.2.2.2.2.2.2.2.2.1, u.2.2.2.2.2.2.2.2.2.2.1, u.2.2.2.2.2.2.2.2.2.2.2.1, u.2.2.2.2.2.2.2.2.2.2.2.2.1, (u.2.2.2.2.2.2.2.2.2.2.2.2.2.1 + 1), (nI (d + 1)), (upd u.2.2.2.2.2.2.2.2.2.2.2.2.2.2.2.1 d q), (upd u.2.2.2.2.2.2.2.2.2.2.2.2.2.2.2.2.1 d p1), (upd u.2.2.2.2.2.2.2.2.2.2.2.2.2.2.2.2.2.1 d p2), u.2.2.2.2.2.2.2.2.2.2.2.2.2.2.2.2.2.2.1, u.2.2.2.2.2.2.2.2.2.2.2.2.2.2.2.2.2.2.2.1, u.2.2.2.2.2.2.2.2.2.2.2.2.2.2.2.2.2.2.2.2.1, u.2.2.2.2.2.2.2.2.2.2.2.2.2.2.2.2.2.2.2.2.2.1, u.2.2.2.2.2.2.2.2.2.2.2.2.2.2.2.2.2.2.2.2.2.2.1, u.2.2.2.2.2.2.2.2.2.2.2.2.2.2.2.2.2.2.2.2.2.2.2.1, (0)) := hL
  have hc1 : CR n n ct (u.1, u.2.1, u.2.2.1, u.2.2.2.1, u.2.2.2.2.1, u.2.2.2.2.2.1, u.2.2.2.2.2.2.1, u.2.2.2.2.2.2.2.1, u.2.2.2.2.2.2.2.2.1, u.2.2.2.2.2.2.2.2.2.1, u.2.2.2.2.2.2.2.2.2.2.1, u.2.2.2.2.2.2.2.2.2.2.2.1, u.2.2.2.2.2.2.2.2.2.2.2.2.1, (u.2.2.2.2.2.2.2.2.2.2.2.2.2.1 + 1), (nI (d + 1)), (upd u.2.2.2.2.2.2.2.2.2.2.2.2.2.2.2.1 d q), (upd u.2.2.2.2.2.2.2.2.2.2.2.2.2.2.2.2.1 d p1), (upd u.2.2.2.2.2.2.2.2.2.2.2.2.2.2.2.2.2.1 d p2), u.2.2.2.2.2.2.2.2.2.2.2.2.2.2.2.2.2.2.1, u.2.2.2.2.2.2.2.2.2.2.2.2.2.2.2.2.2.2.2.1, u.2.2.2.2.2.2.2.2.2.2.2.2.2.2.2.2.2.2.2.2.1, u.2.2.2.2.2.2.2.2.2.2.2.2.2.2.2.2.2.2.2.2.2.1, u.2.2.2.2.2.2.2.2.2.2.2.2.2.2.2.2.2.2.2.2.2.2.1, u.2.2.2.2.2.2.2.2.2.2.2.2.2.2.2.2.2.2.2.2.2.2.2.1, (0)) := hc
  have hO1 : HO (d + 1) n ((upd hi.1 d k), (upd hi.2.1 d o1), (upd hi.2.2.1 d o2), (upd hi.2.2.2.1 d o3), (nI (d + 1)), hi.2.2.2.2.2) (u.1, u.2.1, u.2.2.1, u.2.2.2.1, u.2.2.2.2.1, u.2.2.2.2.2.1, u.2.2.2.2.2.2.1, u.2.2.2.2.2.2.2.1, u.2.2.2.2.2.2.2.2.1, u.2.2.2.2.2.2.2.2.2.1, u.2.2.2.2.2.2.2.2.2.2.1, u.2.2.2.2.2.2.2.2.2.2.2.1, u.2.2.2.2.2.2.2.2.2.2.2.2.1, (u.2.2.2.2.2.2.2.2.2.2.2.2.2.1 + 1), (nI (d + 1)), (upd u.2.2.2.2.2.2.2.2.2.2.2.2.2.2.2.1 d q), (upd u.2.2.2.2.2.2.2.2.2.2.2.2.2.2.2.2.1 d p1), (upd u.2.2.2.2.2.2.2.2.2.2.2.2.2.2.2.2.2.1 d p2), u.2.2.2.2.2.2.2.2.2.2.2.2.2.2.2.2.2.2.1, u.2.2.2.2.2.2.2.2.2.2.2.2.2.2.2.2.2.2.2.1, u.2.2.2.2.2.2.2.2.2.2.2.2.2.2.2.2.2.2.2.2.1, u.2.2.2.2.2.2.2.2.2.2.2.2.2.2.2.2.2.2.2.2.2.1, u.2.2.2.2.2.2.2.2.2.2.2.2.2.2.2.2.2.2.2.2.2.2.1, u.2.2.2.2.2.2.2.2.2.2.2.2.2.2.2.2.2.2.2.2.2.2.2.1, (0)) := by
    have hls : ∀ j, j ≤ d → lcn ((upd hi.1 d k), (upd hi.2.1 d o1), (upd hi.2.2.1 d o2), (upd hi.2.2.2.1 d o3), (nI (d + 1)), hi.2.2.2.2.2) j = lcn hi j := fun j hj => lcn_same j (fun i hi9 => pk_un (by omega))
    refine ⟨by omega, fun j hj => ?_, ?_, rfl⟩
    · by_cases e : j = d
      · subst e
        refine ⟨hrow, fun h9 => absurd h9 ?_⟩
        show ¬ upd hi.1 j k j = 0
        rw [pk_us]; exact hk
      · obtain ⟨w1, w2⟩ := o2' j (by omega)
        refine ⟨w1.same (Nat.le_refl n) (pk_un e) (pk_un e) (pk_un e) (pk_un e) (pk_un e) (pk_un e) (pk_un e), fun h9 => ?_⟩
        rw [hls j (by omega)]
        show upd hi.2.1 d o1 j = _
        rw [pk_un e]
        exact w2 ((pk_un e).symm.trans h9)
    · show (if upd hi.1 d k d = 0 then _ else _) = n
      rw [pk_us, if_neg hk, hls d (Nat.le_refl d)]
      exact o3'
  obtain ⟨u', p1', p2', p3'⟩ := st_act (st := st) (ld := ld) hc1 hd180 hrow (by show ¬ upd hi.1 d k d = 0; rw [pk_us]; exact hk)
  have hrp := RP.same (hi := hi) (hi' := ((upd hi.1 d k), (upd hi.2.1 d o1), (upd hi.2.2.1 d o2), (upd hi.2.2.2.1 d o3), (nI (d + 1)), hi.2.2.2.2.2)) (LE.of (ld' := ld) hL (fun i hin => ⟨fun k hk => rfl, fun k hk => rfl, rfl, rfl⟩) (fun x hx => rfl)) (fun j hj => ⟨pk_un (by omega), pk_un (by omega), pk_un (by omega), pk_un (by omega)⟩) hL hO
  have p2'' := p2'
  obtain ⟨a1, a2, a3, a4, a5, a6, a7, a8, a9, a10, a11, a12, a13, a14, a15, a16, a17, a18⟩ := p2''
  refine ⟨u', ?_, a18, ⟨hL1.kept p2', p3', hO1.kept p2', hz, ?_, ⟨rfl, g2, g3, g4, a6.trans g5, a8.trans g6, ?_⟩, ⟨by omega, by omega, fun h9 => absurd h9 (by omega), h7.2.2.2⟩, ?_⟩⟩
  · unfold m_X7_add
    dsimp only
    rw [if_pos e1, e2, e3, e4, p1']
    rfl
  · rw [RP.succ, hrp, ← hct]
  · rw [a13]
    show u.2.2.2.2.2.2.2.2.2.2.2.2.2.1 + 1 = nI (d + 1 - n)
    rw [g7, nI_1, show d - n + 1 = d + 1 - n by omega]
  · rw [a4, a5]; exact h8
end acts
