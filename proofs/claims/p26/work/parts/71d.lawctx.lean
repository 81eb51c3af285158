/-! THE LAW'S ENTRY: what the tables give -/
theorem lz_w0 : Cond.instantiable RX0 7 ∈ lw_tbl := by decide +kernel
theorem lz_w1 : Cond.instantiable RX1 3 ∈ lw_tbl := by decide +kernel
theorem lz_w2 : Cond.instantiable RX2 6 ∈ lw_tbl := by decide +kernel
theorem lz_w3 : Cond.instantiable RX3 7 ∈ lw_tbl := by decide +kernel
theorem lz_w4 : Cond.instantiable RX4 1 ∈ lw_tbl := by decide +kernel
theorem lz_w5 : Cond.instantiable RX5 3 ∈ lw_tbl := by decide +kernel
theorem lz_w6 : Cond.instantiable RX6 5 ∈ lw_tbl := by decide +kernel
theorem lz_wa0 : Cond.arrayClass .int ∈ lw_tbl := by decide +kernel
theorem lz_wa2 : Cond.arrayClass .long ∈ lw_tbl := by decide +kernel
theorem lz_wn : ∀ t ∈ cq_nl, cq_nw t ∈ lw_tbl := by decide +kernel
theorem lz_wb : ∀ w ∈ cq_bd, w ∈ lw_tbl ∧ w.onTables = true := by decide +kernel
theorem lz_ws : ∀ t ∈ cq_strs, Cond.stringRef RX6 t.1 t.2 ∈ lw_tbl := by decide +kernel
theorem lz_wt : Cond.laysStatic Bundle.tN "UNASSIGNED_STACK" Bundle.steD ∈ lw_tbl ∧ Cond.laysStatic Bundle.tN "SUPPRESSED_SENTINEL" Bundle.listD ∈ lw_tbl ∧ Cond.initialized Bundle.tN ∈ lw_tbl := by decide +kernel
theorem lz_wr : Cond.isRef (.static Bundle.tN "UNASSIGNED_STACK" Bundle.steD) ∈ flatC (Jvm.Cond.and given_1 narrow_1) ∧ Cond.isRef (.static Bundle.tN "SUPPRESSED_SENTINEL" Bundle.listD) ∈ flatC (Jvm.Cond.and given_1 narrow_1) := by decide +kernel
theorem lz_wc : ∀ q ∈ cq_nc, Cond.not (.castable q.1 q.2) ∈ flatC (Jvm.Cond.and given_1 narrow_1) := by decide +kernel
section CTX
variable {p : Program} {l : Launch} {s : State} {m : MethodId} {meth : Method} {c : Code} {b L : Nat} {xs : Nat → Int32}
theorem lz_known (hts : ∀ w ∈ lw_tbl, w.before #[Value.ref b] s = true) : ∃ (D : va_G) (Y : cq_Y), va_K D vwCl (cq_ty Y) s := by
  obtain ⟨c0, i0, k0⟩ := u_known (C := RX0) (T := TX0) (N := 7) (n := 7) hts in_wsX00 (hts (.instantiable RX0 7) lz_w0)
  obtain ⟨c1, i1, k1⟩ := u_known (C := RX1) (T := TX1) (N := 3) (n := 3) hts in_wsX10 (hts (.instantiable RX1 3) lz_w1)
  obtain ⟨c2, i2, k2⟩ := u_known (C := RX2) (T := TX2) (N := 6) (n := 6) hts in_wsX20 (hts (.instantiable RX2 6) lz_w2)
  obtain ⟨c3, i3, k3⟩ := u_known (C := RX3) (T := TX3) (N := 7) (n := 7) hts in_wsX30 (hts (.instantiable RX3 7) lz_w3)
  obtain ⟨c4, i4, k4⟩ := u_known (C := RX4) (T := TX4) (N := 1) (n := 1) hts in_wsX40 (hts (.instantiable RX4 1) lz_w4)
  obtain ⟨c5, i5, k5⟩ := u_known (C := RX5) (T := TX5) (N := 3) (n := 3) hts in_wsX50 (hts (.instantiable RX5 3) lz_w5)
  obtain ⟨c6, i6, k6⟩ := u_known (C := RX6) (T := TX6) (N := 5) (n := 5) hts in_wsX60 (hts (.instantiable RX6 5) lz_w6)
  obtain ⟨cI, kI, pI, fI, gI, tI⟩ := Cond.arrayClass_spec (hts (.arrayClass .int) lz_wa0)
  obtain ⟨cJ, kJ, pJ, fJ, gJ, tJ⟩ := Cond.arrayClass_spec (hts (.arrayClass .long) lz_wa2)
  refine ⟨(fun k => match k with | 0 => c0 | 1 => c1 | 2 => c2 | 3 => c3 | 4 => c4 | 5 => c5 | _ => c6, fun k => match k with | 0 => i0 | 1 => i1 | 2 => i2 | 3 => i3 | 4 => i4 | 5 => i5 | _ => i6), (cI, cI, cJ), fun k q hq => ?_, fun k q hq => ?_⟩
  · match k, hq with
    | 0, hq => cases hq; exact k0
    | 1, hq => cases hq; exact k1
    | 2, hq => cases hq; exact k2
    | 3, hq => cases hq; exact k3
    | 4, hq => cases hq; exact k4
    | 5, hq => cases hq; exact k5
    | 6, hq => cases hq; exact k6
    | k + 7, hq => simp [vwCl] at hq
  · match k, hq with
    | 0, hq => cases hq; exact ⟨fun n z => ⟨fun k h => (by cases h), kI, gI, pI, tI⟩, fI⟩
    | 1, hq => cases hq; exact ⟨fun n z => ⟨fun k h => (by cases h), kI, gI, pI, tI⟩, fI⟩
    | 2, hq => cases hq; exact ⟨fun n z => ⟨fun k h => (by cases h), kJ, gJ, pJ, tJ⟩, fJ⟩
    | k + 3, hq => simp [cq_ty] at hq
theorem lz_ctx (hflags : l.flags = flags0) (C0 : lw_At p s m meth c b L xs) : ∃ (D : va_G) (Y : cq_Y), l.stackTraces = false ∧ cq_G D Y s ∧ lz_B s ∧ cq_NC s := by
  obtain ⟨hx, hb, hr, hml, hown, hts, hX, hbl, hlocks, hgv⟩ := C0
  obtain ⟨D, Y, hK⟩ := lz_known hts
  have hfl := flat_of_before _ hgv
  have hA : ∀ a : Nat, a < s.heap.size → ¬ (fun q : Nat => s.heap.size ≤ q) a := fun a h h2 => absurd h (Nat.not_lt.mpr h2)
  have hcur : s.vm.findClass RX6 = some (D.1 6) := (hK.1 6 (RX6, TX6, 5) rfl).2.1
  refine ⟨D, Y, ?_, ⟨hK, fun t ht => va_Nw.of rfl (hts _ (lz_wn t ht))⟩, ⟨fun w hw => va_Nw.of (lz_wb w hw).2 (hts w (lz_wb w hw).1), ?_, vx_Zqof (hts _ lz_wt.1) (hts _ lz_wt.2.2) (hfl _ lz_wr.1) hA, vx_Zqof (hts _ lz_wt.2.1) (hts _ lz_wt.2.2) (hfl _ lz_wr.2) hA⟩, fun q hq => va_Nc.of (hfl _ (lz_wc q hq))⟩
  · unfold Launch.stackTraces
    rw [hflags]
    decide
  · have key : ∀ i : Nat, ∃ a : Nat, ∀ t : Nat × String, cq_strs[i]? = some t → vk_R RX6 t.1 t.2 a s := by
      intro i
      cases hi : cq_strs[i]? with
      | none => exact ⟨0, fun t ht => by cases ht⟩
      | some t =>
        have h1 := hts _ (lz_ws t (List.mem_of_getElem? hi))
        obtain ⟨k, cf, j, a, -, -, -, -, -, hev⟩ := Cond.stringRef_spec hcur h1
        exact ⟨a, fun t' ht' => by cases ht'; exact vk_R.of h1 hev⟩
    exact ⟨fun i => (key i).choose, fun i t ht => (key i).choose_spec t ht⟩
end CTX
