/-! THE LAW'S ENTRY: what the tables give -/
theorem lz_w0 : Cond.instantiable RX0 7 ∈ lw_tbl := by decide +kernel
theorem lz_w1 : Cond.instantiable RX1 3 ∈ lw_tbl := by decide +kernel
theorem lz_w2 : Cond.instantiable RX2 6 ∈ lw_tbl := by decide +kernel
theorem lz_w3 : Cond.instantiable RX3 7 ∈ lw_tbl := by decide +kernel
theorem lz_w4 : Cond.instantiable RX4 1 ∈ lw_tbl := by decide +kernel
theorem lz_w5 : Cond.instantiable RX5 3 ∈ lw_tbl := by decide +kernel
theorem lz_w6 : Cond.instantiable RX6 5 ∈ lw_tbl := by decide +kernel
theorem lz_w7 : Cond.instantiable RX7 25 ∈ lw_tbl := by decide +kernel
theorem lz_wa0 : Cond.arrayClass .int ∈ lw_tbl := by decide +kernel
theorem lz_wa1 : Cond.arrayClass .boolean ∈ lw_tbl := by decide +kernel
theorem lz_wa2 : Cond.arrayClass .long ∈ lw_tbl := by decide +kernel
theorem lz_wn : ∀ t ∈ cq_nl, cq_nw t ∈ lw_tbl := by decide +kernel
theorem lz_wb : ∀ w ∈ cq_bd, w ∈ lw_tbl ∧ w.onTables = true := by decide +kernel
theorem lz_ws : ∀ t ∈ cq_strs, Cond.stringRef RX6 t.1 t.2 ∈ lw_tbl := by decide +kernel
theorem lz_wt : Cond.laysStatic Bundle.tN "UNASSIGNED_STACK" Bundle.steD ∈ lw_tbl ∧ Cond.laysStatic Bundle.tN "SUPPRESSED_SENTINEL" Bundle.listD ∈ lw_tbl ∧ Cond.initialized Bundle.tN ∈ lw_tbl := by decide +kernel
theorem lz_wr : Cond.isRef (.static Bundle.tN "UNASSIGNED_STACK" Bundle.steD) ∈ flatC (Jvm.Cond.and given_1 narrow_1) ∧ Cond.isRef (.static Bundle.tN "SUPPRESSED_SENTINEL" Bundle.listD) ∈ flatC (Jvm.Cond.and given_1 narrow_1) := by decide +kernel
theorem lz_wc : ∀ q ∈ cq_nc, Cond.not (.castable q.1 q.2) ∈ flatC (Jvm.Cond.and given_1 narrow_1) := by decide +kernel
section CTX
variable {p : Program} {l : Launch} {s : State} {m : MethodId} {meth : Method} {c : Code} {b L : Nat} {xs : Nat → Int32}
theorem lz_known (hts : ∀ w ∈ lw_tbl, w.before #[Value.ref b] s = true) : ∃ (D : va_G) (Y : cq_Y), va_K D vwCl (cq_ty Y) s := by
  obtain ⟨c0, i0, k0⟩ := u_known (C := RX0) (T := TX0) (N := 7) (n := 7) hts in_wsX00 (hts (.instantiable RX0 7) lz_w0)
  obtain ⟨c1, i1, k1⟩ := u_known (C := RX1) (T := TX1) (N := 3) (n := 3) hts in_wsX10 (hts (.instantiable RX1 3) lz_w1)
  obtain ⟨c2, i2, k2⟩ := u_known (C := RX2) (T := TX2) (N := 6) (n := 6) hts in_wsX20 (hts (.instantiable RX2 6) lz_w2)
  obtain ⟨c3, i3, k3⟩ := u_known (C := RX3) (T := TX3) (N := 7) (n := 7) hts in_wsX30 (hts (.instantiable RX3 7) lz_w3)
  obtain ⟨c4, i4, k4⟩ := u_known (C := RX4) (T := TX4) (N := 1) (n := 1) hts in_wsX40 (hts (.instantiable RX4 1) lz_w4)
  obtain ⟨c5, i5, k5⟩ := u_known (C := RX5) (T := TX5) (N := 3) (n := 3) hts in_wsX50 (hts (.instantiable RX5 3) lz_w5)
  obtain ⟨c6, i6, k6⟩ := u_known (C := RX6) (T := TX6) (N := 5) (n := 5) hts in_wsX60 (hts (.instantiable RX6 5) lz_w6)
  obtain ⟨c7, i7, k7⟩ := u_known (C := RX7) (T := TX7) (N := 25) (n := 25) hts in_wsX70 (hts (.instantiable RX7 25) lz_w7)
  obtain ⟨cI, kI, pI, fI, gI, tI⟩ := Cond.arrayClass_spec (hts (.arrayClass .int) lz_wa0)
  obtain ⟨cZ, kZ, pZ, fZ, gZ, tZ⟩ := Cond.arrayClass_spec (hts (.arrayClass .boolean) lz_wa1)
  obtain ⟨cJ, kJ, pJ, fJ, gJ, tJ⟩ := Cond.arrayClass_spec (hts (.arrayClass .long) lz_wa2)
  refine ⟨(fun k => match k with | 0 => c0 | 1 => c1 | 2 => c2 | 3 => c3 | 4 => c4 | 5 => c5 | 6 => c6 | _ => c7, fun k => match k with | 0 => i0 | 1 => i1 | 2 => i2 | 3 => i3 | 4 => i4 | 5 => i5 | 6 => i6 | _ => i7), (cI, cZ, cJ), fun k q hq => ?_, fun k q hq => ?_⟩
  · match k, hq with
    | 0, hq => cases hq; exact k0
    | 1, hq => cases hq; exact k1
    | 2, hq => cases hq; exact k2
    | 3, hq => cases hq; exact k3
    | 4, hq => cases hq; exact k4
    | 5, hq => cases hq; exact k5
    | 6, hq => cases hq; exact k6
    | 7, hq => cases hq; exact k7
    | k + 8, hq => simp [vwCl] at hq
  · match k, hq with
    | 0, hq => cases hq; exact ⟨fun n z => ⟨fun k h => (by cases h), kI, gI, pI, tI⟩, fI⟩
    | 1, hq => cases hq; exact ⟨fun n z => ⟨fun k h => (by cases h), kZ, gZ, pZ, tZ⟩, fZ⟩
    | 2, hq => cases hq; exact ⟨fun n z => ⟨fun k h => (by cases h), kJ, gJ, pJ, tJ⟩, fJ⟩
    | k + 3, hq => simp [cq_ty] at hq
theorem lz_ctx (hflags : l.flags = flags0) (C0 : lw_At p s m meth c b L xs) : ∃ (D : va_G) (Y : cq_Y), l.stackTraces = false ∧ cq_G D Y s ∧ lz_B s ∧ cq_NC s := by
  obtain ⟨hx, hb, hr, hml, hown, hts, hX, hbl, hlocks, hgv⟩ := C0
  obtain ⟨D, Y, hK⟩ := lz_known hts
  have hfl := flat_of_before _ hgv
  have hA : ∀ a : Nat, a < s.heap.size → ¬ (fun q : Nat => s.heap.size ≤ q) a := fun a h h2 => absurd h (Nat.not_lt.mpr h2)
  have hcur : s.vm.findClass RX6 = some (D.1 6) := (hK.1 6 (RX6, TX6, 5) rfl).2.1
  refine ⟨D, Y, ?_, ⟨hK, fun t ht => va_Nw.of rfl (hts _ (lz_wn t ht))⟩, ⟨fun w hw => va_Nw.of (lz_wb w hw).2 (hts w (lz_wb w hw).1), ?_, vx_Zqof (hts _ lz_wt.1) (hts _ lz_wt.2.2) (hfl _ lz_wr.1) hA, vx_Zqof (hts _ lz_wt.2.1) (hts _ lz_wt.2.2) (hfl _ lz_wr.2) hA⟩, fun q hq => va_Nc.of (hfl _ (lz_wc q hq))⟩
  · unfold Launch.stackTraces
    rw [hflags]
    decide
  · have key : ∀ i : Nat, ∃ a : Nat, ∀ t : Nat × String, cq_strs[i]? = some t → vk_R RX6 t.1 t.2 a s := by
      intro i
      cases hi : cq_strs[i]? with
      | none => exact ⟨0, fun t ht => by cases ht⟩
      | some t =>
        have h1 := hts _ (lz_ws t (List.mem_of_getElem? hi))
        obtain ⟨k, cf, j, a, -, -, -, -, -, hev⟩ := Cond.stringRef_spec hcur h1
        exact ⟨a, fun t' ht' => by cases ht'; exact vk_R.of h1 hev⟩
    exact ⟨fun i => (key i).choose, fun i t ht => (key i).choose_spec t ht⟩
theorem lz_ap.join {A : Nat → Prop} {a b : List Nat} (ha : lz_ap A a) (hb : lz_ap A b) (hd : ∀ x ∈ b, x ∉ a) : lz_ap A (a ++ b) := by
  have split : ∀ (i x : Nat), (a ++ b)[i]? = some x → (i < a.length ∧ a[i]? = some x) ∨ (a.length ≤ i ∧ b[i - a.length]? = some x) := fun i x hi => by
    by_cases hl : i < a.length
    · rw [List.getElem?_append_left hl] at hi; exact Or.inl ⟨hl, hi⟩
    · rw [List.getElem?_append_right (by omega)] at hi; exact Or.inr ⟨by omega, hi⟩
  refine ⟨fun i j x hi hj => ?_, fun x hx => (List.mem_append.mp hx).elim (ha.2 x) (hb.2 x)⟩
  rcases split i x hi with ⟨h1, h2⟩ | ⟨h1, h2⟩
  · rcases split j x hj with ⟨h3, h4⟩ | ⟨h3, h4⟩
    · exact ha.1 i j x h2 h4
    · exact absurd (List.mem_of_getElem? h2) (hd x (List.mem_of_getElem? h4))
  · rcases split j x hj with ⟨h3, h4⟩ | ⟨h3, h4⟩
    · exact absurd (List.mem_of_getElem? h4) (hd x (List.mem_of_getElem? h2))
    · have := hb.1 _ _ x h2 h4
      omega
end CTX
theorem lz_cmp {i L : Nat} (hi : i ≤ 4096) (hL : L ≤ 2048) (h : ¬ Int32.ofNat L - 4 < nI i) : i + 4 ≤ L := by
  rcases Nat.lt_or_ge L 4 with h9 | h9
  · exfalso
    apply h
    have h8 : Int32.ofNat L - 4 < 0 := by
      rcases (show L = 0 ∨ L = 1 ∨ L = 2 ∨ L = 3 by omega) with rfl | rfl | rfl | rfl <;> decide
    exact Int32.lt_of_lt_of_le h8 (nI_pos' (by omega))
  · have e : nI (L - 4 + 4) - nI 4 = nI (L - 4) := nI_sub (L - 4) 4
    rw [Nat.sub_add_cancel h9] at e
    have e2 : Int32.ofNat L - 4 = nI (L - 4) := e
    rw [e2] at h
    rcases Nat.lt_or_ge (L - 4) i with h7 | h7
    · exact absurd (nI_lt h7 (by omega)) h
    · omega
theorem lz_and31 (v : Int32) : ∃ k, k < 32 ∧ v &&& 31 = nI k := by
  refine ⟨(v &&& 31).toBitVec.toNat, ?_, ?_⟩
  · have h : (v &&& 31).toBitVec.toNat = v.toBitVec.toNat &&& 31 := by
      rw [Int32.toBitVec_and, BitVec.toNat_and]; rfl
    rw [h]
    exact Nat.lt_of_le_of_lt Nat.and_le_right (by decide)
  · apply Int32.toBitVec_inj.mp
    apply BitVec.eq_of_toNat_eq
    show (v &&& 31).toBitVec.toNat = (BitVec.ofNat 32 ((v &&& 31).toBitVec.toNat)).toNat
    rw [BitVec.toNat_ofNat, Nat.mod_eq_of_lt (BitVec.isLt _)]
