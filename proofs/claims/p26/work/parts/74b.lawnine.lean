/-! THE LAW'S NINE ROWS, as they were made, in the order of the law's own calls -/
theorem lz_ap.nodup {A : Nat → Prop} {w : List Nat} (h : lz_ap A w) : w.Nodup := by
  rw [List.nodup_iff_pairwise_ne, List.pairwise_iff_getElem]
  intro i j hi hj hij e9
  have h9 := h.1 i j w[i] (List.getElem?_eq_getElem hi) (by rw [e9]; exact List.getElem?_eq_getElem hj)
  omega
theorem lz_ap.ofNd {A : Nat → Prop} {w : List Nat} (h : w.Nodup) (k : ∀ x ∈ w, A x) : lz_ap A w :=
  ⟨fun i j x hi hj => (List.getElem?_inj (List.getElem?_eq_some_iff.mp hi).1 h).mp (hi.trans hj.symm), k⟩
theorem lz_ap.perm {A : Nat → Prop} {w w' : List Nat} (h : lz_ap A w) (p : w.Perm w') : lz_ap A w' := lz_ap.ofNd (p.nodup h.nodup) (fun x hx => h.2 x (p.mem_iff.mpr hx))
theorem qz_nine {D : va_G} {A : Nat → Prop} {H : Heap} {WK : va_W} {aK : List Nat} {r0 r1 r2 r3 r4 r5 r6 r7 r8 : Nat} {x0 x1 x2 x3 x4 x5 x6 x7 x8 : va_E} (e : WK.map (·.1) = aK)
    (hP : va_P D vwCl (((((((((WK ++ [(r0, x0)]) ++ [(r1, x1)]) ++ [(r2, x2)]) ++ [(r3, x3)]) ++ [(r4, x4)]) ++ [(r5, x5)]) ++ [(r6, x6)]) ++ [(r7, x7)]) ++ [(r8, x8)]) H)
    (hD : va_D A (((((((((WK ++ [(r0, x0)]) ++ [(r1, x1)]) ++ [(r2, x2)]) ++ [(r3, x3)]) ++ [(r4, x4)]) ++ [(r5, x5)]) ++ [(r6, x6)]) ++ [(r7, x7)]) ++ [(r8, x8)])) :
    va_P D vwCl WK H ∧ va_P D vwCl [(r0, x0), (r1, x1), (r2, x2), (r6, x6), (r8, x8), (r3, x3), (r4, x4), (r5, x5), (r7, x7)] H ∧ lz_ap A ([r0, r1, r2, r6, r8, r3, r4, r5, r7] ++ aK) := by
  have hap := lz_ap.of hD
  simp only [List.map_append, List.map_cons, List.map_nil, e] at hap
  obtain ⟨h7, q8⟩ := lz_apP hP
  obtain ⟨h6, q7⟩ := lz_apP h7
  obtain ⟨h5, q6⟩ := lz_apP h6
  obtain ⟨h4, q5⟩ := lz_apP h5
  obtain ⟨h3, q4⟩ := lz_apP h4
  obtain ⟨h2, q3⟩ := lz_apP h3
  obtain ⟨h1, q2⟩ := lz_apP h2
  obtain ⟨h0, q1⟩ := lz_apP h1
  obtain ⟨hK, q0⟩ := lz_apP h0
  refine ⟨hK, lz_paP q0 (lz_paP q1 (lz_paP q2 (lz_paP q6 (lz_paP q8 (lz_paP q3 (lz_paP q4 (lz_paP q5 q7))))))), hap.perm (List.perm_iff_count.mpr (fun a => ?_))⟩
  simp only [List.count_append, List.count_cons, List.count_nil]
  omega
