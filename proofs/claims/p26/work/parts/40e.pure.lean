/-! PURE: a load, in the class and in the reference -/
theorem CR.hits {m i : Nat} {c : CatS} {u : MdlS} {v : Int32} (h : CR m i c u) : CR m (i + 1) (c.1, c.2.1, c.2.2.1, c.2.2.2.1, c.2.2.2.2.1, c.2.2.2.2.2.1, (upd c.2.2.2.2.2.2 i v)) (u.1, u.2.1, u.2.2.1, u.2.2.2.1, u.2.2.2.2.1, u.2.2.2.2.2.1, u.2.2.2.2.2.2.1, u.2.2.2.2.2.2.2.1, u.2.2.2.2.2.2.2.2.1, u.2.2.2.2.2.2.2.2.2.1, u.2.2.2.2.2.2.2.2.2.2.1, u.2.2.2.2.2.2.2.2.2.2.2.1, (upd u.2.2.2.2.2.2.2.2.2.2.2.2.1 i v), u.2.2.2.2.2.2.2.2.2.2.2.2.2.1, u.2.2.2.2.2.2.2.2.2.2.2.2.2.2.1, u.2.2.2.2.2.2.2.2.2.2.2.2.2.2.2.1, u.2.2.2.2.2.2.2.2.2.2.2.2.2.2.2.2.1, u.2.2.2.2.2.2.2.2.2.2.2.2.2.2.2.2.2.1, u.2.2.2.2.2.2.2.2.2.2.2.2.2.2.2.2.2.2.1, u.2.2.2.2.2.2.2.2.2.2.2.2.2.2.2.2.2.2.2.1, u.2.2.2.2.2.2.2.2.2.2.2.2.2.2.2.2.2.2.2.2.1, u.2.2.2.2.2.2.2.2.2.2.2.2.2.2.2.2.2.2.2.2.2.1, u.2.2.2.2.2.2.2.2.2.2.2.2.2.2.2.2.2.2.2.2.2.2.1, u.2.2.2.2.2.2.2.2.2.2.2.2.2.2.2.2.2.2.2.2.2.2.2.1, u.2.2.2.2.2.2.2.2.2.2.2.2.2.2.2.2.2.2.2.2.2.2.2.2) := by
  obtain ⟨h1, h2, h3, h4, h5, h6⟩ := h
  refine ⟨h1, h2, fun j hj => ?_, h4, h5, h6⟩
  show upd c.2.2.2.2.2.2 i v j = upd u.2.2.2.2.2.2.2.2.2.2.2.2.1 i v j
  by_cases hji : j = i
  · rw [hji, pk_us, pk_us]
  · rw [pk_un hji, pk_un hji]
    exact h3 j (by omega)
theorem CR.less {m m' h h' : Nat} {c : CatS} {u : MdlS} (k : CR m h c u) (hm : m ≤ m') (hh : h' ≤ h) : CR m' h' c u := by
  obtain ⟨h1, h2, h3, h4, h5, h6⟩ := k
  exact ⟨h1, h2, fun j hj => h3 j (by omega), fun r hr => h4 r (by omega), h5, h6⟩
/-- a new record -/
theorem CR.made {i n b : Nat} {c : CatS} {u : MdlS} {st : SetS} {ld : LodS} (h : CR i i c u) (hL : LR n b st ld u) (hi : i < n) :
    CR (i + 1) i ((upd c.1 i 1), (fun j => if i * 3 ≤ j ∧ j < i * 3 + 3 ∧ c.2.1 j = -1 then ld.1 (i * 3 + (j - i * 3)) else c.2.1 j), (fun j => if i * 4 ≤ j ∧ j < i * 4 + 4 ∧ pu_lc st ld i (ld.2.2.1 i) c i j then ld.2.1 (i * 4 + (j - i * 4)) else c.2.2.1 j), (fun j => if i * 4 ≤ j ∧ j < i * 4 + 4 ∧ pu_lc st ld i (ld.2.2.1 i) c i j then ld.2.2.1 i else c.2.2.2.1 j), c.2.2.2.2.1, c.2.2.2.2.2.1, c.2.2.2.2.2.2)
      (u.1, u.2.1, u.2.2.1, u.2.2.2.1, u.2.2.2.2.1, u.2.2.2.2.2.1, u.2.2.2.2.2.2.1, u.2.2.2.2.2.2.2.1, u.2.2.2.2.2.2.2.2.1, u.2.2.2.2.2.2.2.2.2.1, u.2.2.2.2.2.2.2.2.2.2.1, u.2.2.2.2.2.2.2.2.2.2.2.1, u.2.2.2.2.2.2.2.2.2.2.2.2.1, u.2.2.2.2.2.2.2.2.2.2.2.2.2.1, u.2.2.2.2.2.2.2.2.2.2.2.2.2.2.1, u.2.2.2.2.2.2.2.2.2.2.2.2.2.2.2.1, u.2.2.2.2.2.2.2.2.2.2.2.2.2.2.2.2.1, u.2.2.2.2.2.2.2.2.2.2.2.2.2.2.2.2.2.1, (upd u.2.2.2.2.2.2.2.2.2.2.2.2.2.2.2.2.2.2.1 i 1), (fun j => if i * 3 ≤ j ∧ j < i * 3 + 3 then u.2.2.2.2.2.2.2.2.2.2.1 j else u.2.2.2.2.2.2.2.2.2.2.2.2.2.2.2.2.2.2.2.1 j), (fun j => if i * 4 ≤ j ∧ j < i * 4 + 4 then u.2.2.2.2.2.2.2.2.2.2.2.1 j else u.2.2.2.2.2.2.2.2.2.2.2.2.2.2.2.2.2.2.2.2.1 j), (fun j => if i * 4 ≤ j ∧ j < i * 4 + 4 then (if u.2.2.2.2.2.2.2.2.2.2.2.1 j = -1 then -1 else u.2.2.2.2.2.2.2.2.2.1 i) else u.2.2.2.2.2.2.2.2.2.2.2.2.2.2.2.2.2.2.2.2.2.1 j), (fun j => if i * 4 ≤ j ∧ j < i * 4 + 4 then 0 else u.2.2.2.2.2.2.2.2.2.2.2.2.2.2.2.2.2.2.2.2.2.2.1 j), (upd u.2.2.2.2.2.2.2.2.2.2.2.2.2.2.2.2.2.2.2.2.2.2.2.1 i 0), u.2.2.2.2.2.2.2.2.2.2.2.2.2.2.2.2.2.2.2.2.2.2.2.2) := by
  obtain ⟨h1, h2, h3, h4, h5, h6⟩ := h
  obtain ⟨hn, hb, -, -, -, hLd, -⟩ := hL
  obtain ⟨hlk, hlf, hls, ⟨s, hs, hs2⟩, -, -⟩ := hLd i hi
  obtain ⟨f1, f2, f3, f4⟩ := h4 i (Nat.le_refl i) (by omega)
  refine ⟨fun r hr => ?_, fun r hr ht => ?_, h3, fun r hr1 hr2 => ?_, fun j hj => ?_, fun j hj => ?_⟩
  · show upd c.1 i 1 r = upd u.2.2.2.2.2.2.2.2.2.2.2.2.2.2.2.2.2.2.1 i 1 r ∧ (upd c.1 i 1 r = 0 ∨ upd c.1 i 1 r = 1)
    by_cases hri : r = i
    · rw [hri, pk_us, pk_us]; exact ⟨rfl, Or.inr rfl⟩
    · rw [pk_un hri, pk_un hri]; exact h1 r hr
  · dsimp only at ht ⊢
    by_cases hri : r = i
    · subst hri
      refine ⟨fun k hk => ?_, fun k hk => ?_, ?_⟩
      · rw [if_pos ⟨by omega, by omega, f2 k hk⟩, if_pos (by omega), show r * 3 + k - r * 3 = k by omega]
        exact (hlk k hk).1
      · obtain ⟨g1, g2, g3⟩ := f3 k hk
        have hkk : r * 4 + k - r * 4 = k := by omega
        rw [if_pos (show r * 4 ≤ r * 4 + k ∧ r * 4 + k < r * 4 + 4 by omega), if_pos (show r * 4 ≤ r * 4 + k ∧ r * 4 + k < r * 4 + 4 by omega), if_pos (show r * 4 ≤ r * 4 + k ∧ r * 4 + k < r * 4 + 4 by omega), ← (hlf k hk).1, ← hls]
        by_cases hc : ld.2.1 (r * 4 + k) = -1
        · rw [if_neg (fun h9 => h9.2.2.1 (by rw [hkk]; exact hc)), if_neg (fun h9 => h9.2.2.1 (by rw [hkk]; exact hc)), if_pos hc, g1, g2, g3]
          exact ⟨hc.symm, rfl, rfl⟩
        · have hp : pu_lc st ld r (ld.2.2.1 r) c r (r * 4 + k) := ⟨by rw [hkk]; exact hc, g3, Or.inl g1⟩
          rw [if_pos ⟨by omega, by omega, hp⟩, if_pos ⟨by omega, by omega, hp⟩, if_neg hc, hkk]
          exact ⟨rfl, rfl, g3⟩
      · rw [pk_us]; exact f4
    · rw [pk_un hri] at ht
      obtain ⟨q1, q2, q3⟩ := h2 r hr ht
      refine ⟨fun k hk => ?_, fun k hk => ?_, ?_⟩
      · rw [if_neg (by omega), if_neg (by omega)]; exact q1 k hk
      · rw [if_neg (by omega), if_neg (by omega), if_neg (by omega), if_neg (by omega), if_neg (by omega)]; exact q2 k hk
      · rw [pk_un hri]; exact q3
  · dsimp only
    obtain ⟨q1, q2, q3, q4⟩ := h4 r (by omega) hr2
    refine ⟨by rw [pk_un (by omega)]; exact q1, fun k hk => ?_, fun k hk => ?_, q4⟩
    · rw [if_neg (by omega)]; exact q2 k hk
    · rw [if_neg (by omega), if_neg (by omega)]; exact q3 k hk
  · dsimp only
    obtain ⟨q1, q2, q3⟩ := h5 j hj
    refine ⟨?_, q2, ?_⟩
    · split
      · exact Or.inr ⟨s, hs, hs2⟩
      · exact q1
    · split
      · rename_i h9
        exact (hlf (j - i * 4) (by omega)).2
      · exact q3
  · dsimp only
    split
    · rename_i h9
      exact (hlk (j - i * 3) (by omega)).2
    · exact h6 j hj
theorem rep_eq {st : SetS} {u : MdlS} {k s : Nat} {before : Int32} (hr : ∀ i, i < 5 → st.1 i = u.1 i ∧ 0 ≤ st.1 i) (hu : st.2.1 k = u.2.1 k ∧ (st.2.1 k = 0 ∨ st.2.1 k = 1 ∨ st.2.1 k = 2)) (hk : k < 4) (hs : s < 5) (hb : before = -1 ∨ ∃ s, s < 5 ∧ before = nI s) :
    (¬ m_X5_replaces st (nI k) (nI s) before = 0) ↔ (u.2.1 k = 2 ∨ (u.2.1 k = 1 ∧ (before = -1 ∨ ¬ u.1 s < u.1 before.toNatClampNeg))) := by
  unfold m_X5_replaces
  rw [pu_get hk (by decide), pu_get hs (by decide)]
  dsimp only
  rw [← hu.1]
  rcases hu.2 with h | h | h
  · rw [h, if_pos rfl]
    exact ⟨fun h9 => absurd rfl h9, fun h9 => h9.elim (fun h8 => absurd h8 (by decide)) (fun h8 => absurd h8.1 (by decide))⟩
  · rw [h, if_neg (by decide), if_neg (by decide)]
    rcases hb with rfl | ⟨s', hs', rfl⟩
    · have e : m_X4_get 5 st.1 (-1) = -1 := by unfold m_X4_get; rw [if_pos (by decide)]
      rw [e, if_neg (fun h9 => absurd (Int32.lt_of_le_of_lt (hr s hs).2 h9) (by decide))]
      exact ⟨fun _ => Or.inr ⟨rfl, Or.inl rfl⟩, fun _ => by decide⟩
    · rw [pu_get hs' (by decide), ncl (by omega), (hr s hs).1, (hr s' hs').1]
      by_cases hlt : u.1 s < u.1 s'
      · rw [if_pos hlt]
        exact ⟨fun h9 => absurd rfl h9, fun h9 => h9.elim (fun h8 => absurd h8 (by decide)) (fun h8 => h8.2.elim (fun h7 => absurd h7 (nI_m1 (by omega))) (fun h7 => absurd hlt h7))⟩
      · rw [if_neg hlt]
        exact ⟨fun _ => Or.inr ⟨rfl, Or.inr hlt⟩, fun _ => by decide⟩
  · rw [h, if_neg (by decide), if_pos rfl]
    exact ⟨fun _ => Or.inl rfl, fun _ => by decide⟩
/-- laid over a record that is there -/
theorem CR.laid {i n b r : Nat} {c : CatS} {u : MdlS} {st : SetS} {ld : LodS} (h : CR i i c u) (hL : LR n b st ld u) (hi : i < n) (hr : r < 80) (ht : c.1 r = 1) :
    CR (i + 1) i ((upd c.1 r 1), (fun j => if r * 3 ≤ j ∧ j < r * 3 + 3 ∧ c.2.1 j = -1 then ld.1 (i * 3 + (j - r * 3)) else c.2.1 j), (fun j => if r * 4 ≤ j ∧ j < r * 4 + 4 ∧ pu_lc st ld i (ld.2.2.1 i) c r j then ld.2.1 (i * 4 + (j - r * 4)) else c.2.2.1 j), (fun j => if r * 4 ≤ j ∧ j < r * 4 + 4 ∧ pu_lc st ld i (ld.2.2.1 i) c r j then ld.2.2.1 i else c.2.2.2.1 j), c.2.2.2.2.1, c.2.2.2.2.2.1, c.2.2.2.2.2.2)
      (u.1, u.2.1, u.2.2.1, u.2.2.2.1, u.2.2.2.2.1, u.2.2.2.2.2.1, u.2.2.2.2.2.2.1, u.2.2.2.2.2.2.2.1, u.2.2.2.2.2.2.2.2.1, u.2.2.2.2.2.2.2.2.2.1, u.2.2.2.2.2.2.2.2.2.2.1, u.2.2.2.2.2.2.2.2.2.2.2.1, u.2.2.2.2.2.2.2.2.2.2.2.2.1, u.2.2.2.2.2.2.2.2.2.2.2.2.2.1, u.2.2.2.2.2.2.2.2.2.2.2.2.2.2.1, u.2.2.2.2.2.2.2.2.2.2.2.2.2.2.2.1, u.2.2.2.2.2.2.2.2.2.2.2.2.2.2.2.2.1, u.2.2.2.2.2.2.2.2.2.2.2.2.2.2.2.2.2.1, u.2.2.2.2.2.2.2.2.2.2.2.2.2.2.2.2.2.2.1, (fun j => if r * 3 ≤ j ∧ j < r * 3 + 3 ∧ u.2.2.2.2.2.2.2.2.2.2.2.2.2.2.2.2.2.2.2.1 j = -1 then u.2.2.2.2.2.2.2.2.2.2.1 (i * 3 + (j - r * 3)) else u.2.2.2.2.2.2.2.2.2.2.2.2.2.2.2.2.2.2.2.1 j), (fun j => if r * 4 ≤ j ∧ j < r * 4 + 4 ∧ rf_lc u i r j then u.2.2.2.2.2.2.2.2.2.2.2.1 (i * 4 + (j - r * 4)) else u.2.2.2.2.2.2.2.2.2.2.2.2.2.2.2.2.2.2.2.2.1 j), (fun j => if r * 4 ≤ j ∧ j < r * 4 + 4 ∧ rf_lc u i r j then u.2.2.2.2.2.2.2.2.2.1 i else u.2.2.2.2.2.2.2.2.2.2.2.2.2.2.2.2.2.2.2.2.2.1 j), u.2.2.2.2.2.2.2.2.2.2.2.2.2.2.2.2.2.2.2.2.2.2.1, u.2.2.2.2.2.2.2.2.2.2.2.2.2.2.2.2.2.2.2.2.2.2.2.1, u.2.2.2.2.2.2.2.2.2.2.2.2.2.2.2.2.2.2.2.2.2.2.2.2) := by
  obtain ⟨h1, h2, h3, h4, h5, h6⟩ := h
  obtain ⟨hn, hb, hRK, hRU, -, hLd, -⟩ := hL
  obtain ⟨hlk, hlf, hls, ⟨s, hs, hs2⟩, -, -⟩ := hLd i hi
  have hri : r < i := by
    rcases Nat.lt_or_ge r i with h9 | h9
    · exact h9
    · have := (h4 r h9 hr).1
      rw [ht] at this
      exact absurd this (by decide)
  refine ⟨fun r' hr' => ?_, fun r' hr' ht' => ?_, h3, fun r' hr1 hr2 => ?_, fun j hj => ?_, fun j hj => ?_⟩
  · show upd c.1 r 1 r' = u.2.2.2.2.2.2.2.2.2.2.2.2.2.2.2.2.2.2.1 r' ∧ (upd c.1 r 1 r' = 0 ∨ upd c.1 r 1 r' = 1)
    by_cases hq : r' = r
    · rw [hq, pk_us]; exact ⟨ht.symm.trans (h1 r hr).1, Or.inr rfl⟩
    · rw [pk_un hq]; exact h1 r' hr'
  · dsimp only at ht' ⊢
    by_cases hq : r' = r
    · subst hq
      obtain ⟨q1, q2, q3⟩ := h2 r' hr ht
      refine ⟨fun k hk => ?_, fun k hk => ?_, q3⟩
      · rw [← q1 k hk, show r' * 3 + k - r' * 3 = k by omega, (hlk k hk).1]
      · obtain ⟨g1, g2, g3⟩ := q2 k hk
        have hkk : r' * 4 + k - r' * 4 = k := by omega
        have hiff : pu_lc st ld i (ld.2.2.1 i) c r' (r' * 4 + k) ↔ rf_lc u i r' (r' * 4 + k) := by
          unfold pu_lc rf_lc
          rw [hkk, (hlf k hk).1, g1, g3, g2, hs2, rep_eq hRK (hRU k hk) hk hs (by rw [← g2]; exact (h5 _ (by omega)).1), ← hls, hs2, ncl (by omega)]
        by_cases hp : rf_lc u i r' (r' * 4 + k)
        · have a1 : r' * 4 ≤ r' * 4 + k ∧ r' * 4 + k < r' * 4 + 4 ∧ pu_lc st ld i (ld.2.2.1 i) c r' (r' * 4 + k) := ⟨by omega, by omega, hiff.mpr hp⟩
          have a2 : r' * 4 ≤ r' * 4 + k ∧ r' * 4 + k < r' * 4 + 4 ∧ rf_lc u i r' (r' * 4 + k) := ⟨by omega, by omega, hp⟩
          rw [if_pos a1, if_pos a2, if_pos a1, if_pos a2, hkk]
          exact ⟨(hlf k hk).1, hls, g3⟩
        · have a1 : ¬ (r' * 4 ≤ r' * 4 + k ∧ r' * 4 + k < r' * 4 + 4 ∧ pu_lc st ld i (ld.2.2.1 i) c r' (r' * 4 + k)) := fun h9 => hp (hiff.mp h9.2.2)
          have a2 : ¬ (r' * 4 ≤ r' * 4 + k ∧ r' * 4 + k < r' * 4 + 4 ∧ rf_lc u i r' (r' * 4 + k)) := fun h9 => hp h9.2.2
          rw [if_neg a1, if_neg a2, if_neg a1, if_neg a2]
          exact ⟨g1, g2, g3⟩
    · rw [pk_un hq] at ht'
      obtain ⟨q1, q2, q3⟩ := h2 r' hr' ht'
      refine ⟨fun k hk => ?_, fun k hk => ?_, q3⟩
      · rw [if_neg (by omega), if_neg (by omega)]; exact q1 k hk
      · rw [if_neg (by omega), if_neg (by omega), if_neg (by omega), if_neg (by omega)]; exact q2 k hk
  · dsimp only
    obtain ⟨q1, q2, q3, q4⟩ := h4 r' (by omega) hr2
    refine ⟨by rw [pk_un (by omega)]; exact q1, fun k hk => ?_, fun k hk => ?_, q4⟩
    · rw [if_neg (by omega)]; exact q2 k hk
    · rw [if_neg (by omega), if_neg (by omega)]; exact q3 k hk
  · dsimp only
    obtain ⟨q1, q2, q3⟩ := h5 j hj
    refine ⟨?_, q2, ?_⟩
    · split
      · exact Or.inr ⟨s, hs, hs2⟩
      · exact q1
    · split
      · rename_i h9
        exact (hlf (j - r * 4) (by omega)).2
      · exact q3
  · dsimp only
    split
    · rename_i h9
      exact (hlk (j - r * 3) (by omega)).2
    · exact h6 j hj
theorem ld_sim {i n b : Nat} {c : CatS} {u : MdlS} {st : SetS} {ld : LodS} (h : CR i i c u) (hL : LR n b st ld u) (hi : i < n) :
    ∃ u' : MdlS, m_X7_doLoad u (nI i) = some u' ∧ KU u u' ∧ CR (i + 1) (i + 1) (m_X0_take c st ld (nI i)).1 u' ∧ (m_X0_take c st ld (nI i)).2 = u'.2.2.2.2.2.2.2.2.2.2.2.2.1 i := by
  obtain ⟨hn, hb, hRK, hRU, hO, hLd, hLU⟩ := id hL
  have hi80 : i < 80 := by omega
  obtain ⟨hlk, hlf, hls, ⟨s, hs, hs2⟩, hlb, x, hx, hx2⟩ := hLd i hi
  have hx10 : x < 10 := by omega
  obtain ⟨hlu, hlu2⟩ := hLU x hx
  unfold m_X7_doLoad
  rw [if_pos (inb_n hi80 (by decide)), ncl (show i < 2147483648 by omega), ← hlb, hx2, if_pos (inb_n hx10 (by decide)), ncl (show x < 2147483648 by omega), ← hlu]
  by_cases hout : ld.2.2.2.2.1 x = 0
  · rw [if_pos hout]
    have hno : ¬ ld.2.2.2.2.1 x = 1 := by rw [hout]; decide
    obtain ⟨R, hR, hcase⟩ := tm_lp h hL hi 3 0 rfl
    have hm : m_X7_match u (nI i) = some R := hR
    rw [hm, Option.bind_some]
    rcases hcase with ⟨rfl, ht⟩ | ⟨rfl, ht⟩ | ⟨r, hr, rfl, hth, ht⟩
    · have ht2 : m_X0_target c st ld (nI i) = nI i := ht
      rw [if_pos rfl, rf_mr hi80, Option.bind_some, pu_take_rec hi80 hx10 hx2 hno hi80 ht2]
      refine ⟨_, rfl, KU.rf, (CR.made h hL hi).hits, ?_⟩
      exact pk_us.symm
    · have ht2 : m_X0_target c st ld (nI i) = -2 := ht
      rw [if_neg (by decide), if_pos rfl, pu_take_neg hi80 hx10 hx2 hno ht2]
      refine ⟨_, rfl, KU.rf, (h.less (Nat.le_succ i) (Nat.le_refl i)).hits, ?_⟩
      exact pk_us.symm
    · have ht2 : m_X0_target c st ld (nI i) = nI r := ht
      have hsrc : ∀ q, q < 4 → u.2.2.2.2.2.2.2.2.2.2.2.2.2.2.2.2.2.2.2.2.2.1 (r * 4 + q) = -1 ∨ inb (u.2.2.2.2.2.2.2.2.2.2.2.2.2.2.2.2.2.2.2.2.2.1 (r * 4 + q)) 5 = true := by
        intro q hq
        rw [← ((h.2.1 r hr hth).2.1 q hq).2.1]
        rcases (h.2.2.2.2.1 (r * 4 + q) (by omega)).1 with h9 | ⟨s', hs', h9⟩
        · exact Or.inl h9
        · rw [h9]; exact Or.inr (inb_n hs' (by decide))
      rw [if_neg (nI_m1 (by omega)), if_neg (nI_m2 (by omega)), rf_lo (u := (u.1, u.2.1, u.2.2.1, u.2.2.2.1, u.2.2.2.2.1, u.2.2.2.2.2.1, u.2.2.2.2.2.2.1, u.2.2.2.2.2.2.2.1, u.2.2.2.2.2.2.2.2.1, u.2.2.2.2.2.2.2.2.2.1, u.2.2.2.2.2.2.2.2.2.2.1, u.2.2.2.2.2.2.2.2.2.2.2.1, (upd u.2.2.2.2.2.2.2.2.2.2.2.2.1 i (nI r)), u.2.2.2.2.2.2.2.2.2.2.2.2.2.1, u.2.2.2.2.2.2.2.2.2.2.2.2.2.2.1, u.2.2.2.2.2.2.2.2.2.2.2.2.2.2.2.1, u.2.2.2.2.2.2.2.2.2.2.2.2.2.2.2.2.1, u.2.2.2.2.2.2.2.2.2.2.2.2.2.2.2.2.2.1, u.2.2.2.2.2.2.2.2.2.2.2.2.2.2.2.2.2.2.1, u.2.2.2.2.2.2.2.2.2.2.2.2.2.2.2.2.2.2.2.1, u.2.2.2.2.2.2.2.2.2.2.2.2.2.2.2.2.2.2.2.2.1, u.2.2.2.2.2.2.2.2.2.2.2.2.2.2.2.2.2.2.2.2.2.1, u.2.2.2.2.2.2.2.2.2.2.2.2.2.2.2.2.2.2.2.2.2.2.1, u.2.2.2.2.2.2.2.2.2.2.2.2.2.2.2.2.2.2.2.2.2.2.2.1, u.2.2.2.2.2.2.2.2.2.2.2.2.2.2.2.2.2.2.2.2.2.2.2.2)) hi80 hr (by show inb (u.2.2.2.2.2.2.2.2.2.1 i) 5 = true; rw [← hls, hs2]; exact inb_n hs (by decide)) hsrc, Option.bind_some, pu_take_rec hi80 hx10 hx2 hno hr ht2]
      refine ⟨_, rfl, KU.rf, (CR.laid h hL hi hr hth).hits, ?_⟩
      exact pk_us.symm
  · rw [if_neg hout, pu_take_out hi80 hx10 hx2 (hlu2.resolve_left hout)]
    refine ⟨_, rfl, KU.rf, (h.less (Nat.le_succ i) (Nat.le_refl i)).hits, ?_⟩
    exact pk_us.symm
