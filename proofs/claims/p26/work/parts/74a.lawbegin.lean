theorem qz_I0 : IV 0 0 0 0 i_X5 i_X3 i_X2 i_X0 i_X0 i_X7 (fun _ => 0) (fun _ => 0) (fun _ => 0) (fun _ => 0) (upd (upd (upd (upd (upd (upd (upd (upd (upd (upd (upd (fun _ => 0) 0 (0 : Int32)) 1 (1 : Int32)) 2 (2 : Int32)) 3 (3 : Int32)) 4 (4 : Int32)) (5 + 0) (1 : Int32)) (5 + 1) (1 : Int32)) (5 + 2) (1 : Int32)) (5 + 3) (1 : Int32)) 10 (1 : Int32)) 11 (2 : Int32)) (fun _ => 0) (fun _ => 0) (fun _ => 0) (fun _ => 0) 0 := by
  refine ⟨Rel.start, ⟨fun r hr => Or.inr ⟨lq_0, by rw [c00_i]; rfl⟩, fun j hj => absurd hj (Nat.not_lt_zero j), fun r _ hr => ?_⟩, ⟨by decide +kernel, by decide +kernel, by decide +kernel⟩, fun i hi => absurd hi (Nat.not_lt_zero i), fun k hk => absurd hk (Nat.not_lt_zero k), ⟨rfl, by decide, fun x hx => ?_⟩, ⟨rfl, rfl, rfl⟩, ⟨by decide, by decide⟩, lq_0, fun k hk => ?_, fun k hk => ⟨?_, lq_0⟩⟩
  · rw [c00_i]
    exact ⟨rfl, fun k hk => if_pos (by omega), fun k hk => ⟨if_pos (by omega), if_pos (by omega), rfl⟩, rfl⟩
  · rw [iLU, Nat.zero_testBit]; rfl
  · rw [show kx 0 k = 0 from lq_0, iLK]
    exact if_pos (by omega)
  · rw [show fx 0 k = 0 from lq_0, iLF]
    exact if_pos (by omega)
section LAW
variable {p : Program} {l : Launch} {e : Env} {s : State} {m : MethodId} {below : List Frame} {meth : Method} {c : Code} {H : Heap} {locs : List Loc} {cells slots : Nat} {Q : State → Prop} {ls : Array Slot} {D : va_G} {Y : cq_Y} {b L : Nat} {xs : Nat → Int32} {o0 : Nat} {ast ald ahi act acd ar : Nat → Nat}
variable {n bt d U tn K y r : Nat} {st : SetS} {ld : LodS} {hi : HisS} {ct cd : CatS} {u : MdlS} {v li : FL} {h ev nn qq bb t uu : FI} {dr : Int64}
set_option maxHeartbeats 4000000 in
set_option maxRecDepth 100000 in
theorem qz_begin (X : qz_X p l s m meth c b L xs D Y o0 ast ald ahi act acd ar) (hL : L ≤ 260) (hc : cells ≤ 1000) (hsl : slots ≤ 10000) (hP : va_P D vwCl (qz_A Y ar (fun _ => 0) (fun _ => 0) (fun _ => 0) (fun _ => 0) (fun _ => 0) (fun _ => 0) (fun _ => 0) (fun _ => 0) (fun _ => 0)) H) (hPK : va_P D vwCl (lz_K Y o0 ast ald ahi act acd i_X5 i_X3 i_X2 i_X0 i_X0) H) (hS : va_S (fun q => s.heap.size ≤ q) s.heap H locs) (hl : lv_has ls 23 [(10, .ref (ar 4)), (9, .ref (ar 8)), (8, .ref (ar 3)), (7, .ref (ar 7)), (6, .ref (ar 6)), (5, .ref (ar 5)), (4, .ref (ar 2)), (3, .ref (ar 1)), (2, .ref (ar 0)), (1, .ref o0), (0, .ref b)]) : W p l e room_1 s m #[Value.ref b] below meth c H locs cells slots (lw_Z below #[Value.ref b] s) (F0 m 58 ls []) := by
  obtain ⟨C0, hl0, hG, hB, hNC, hap⟩ := id X
  obtain ⟨hx, hb, hr, hml, hown, htb, hX, hbl, hlocks, hgv⟩ := id C0
  have hown : s.vm.findClass RL = some m.cls := hown
  have hts : ∀ w ∈ wsL_law, w.before #[Value.ref b] s = true := fun w h => htb w (wsL_law_in w h)
  have hD : va_D (fun q => s.heap.size ≤ q) (qz_A Y ar (fun _ => 0) (fun _ => 0) (fun _ => 0) (fun _ => 0) (fun _ => 0) (fun _ => 0) (fun _ => 0) (fun _ => 0) (fun _ => 0)) := qz_apD hap qz_eA
  refine lv_lconst (v := 0) hx hb dL_law_58 (by decide) ?_
  refine lv_lstore (lv' := [(11, .long 0), (10, .ref (ar 4)), (9, .ref (ar 8)), (8, .ref (ar 3)), (7, .ref (ar 7)), (6, .ref (ar 6)), (5, .ref (ar 5)), (4, .ref (ar 2)), (3, .ref (ar 1)), (2, .ref (ar 0)), (1, .ref o0), (0, .ref b)]) hx hb dL_law_59 hl (by decide) rfl (fun ls hl => ?_)
  refine lv_iconst (v := 0) hx hb dL_law_61 (by decide) ?_
  refine lv_istore (lv' := [(13, .int 0), (11, .long 0), (10, .ref (ar 4)), (9, .ref (ar 8)), (8, .ref (ar 3)), (7, .ref (ar 7)), (6, .ref (ar 6)), (5, .ref (ar 5)), (4, .ref (ar 2)), (3, .ref (ar 1)), (2, .ref (ar 0)), (1, .ref o0), (0, .ref b)]) hx hb dL_law_62 hl (by decide) rfl (fun ls hl => ?_)
  refine lv_iload hx hb dL_law_64 (lv_at hl 0 rfl) ?_
  refine lv_iconst (v := 5) hx hb dL_law_66 (by decide) ?_
  refine lv_icmp_ge (tgt := 83) hx hb dL_law_67 (by decide) (fun c_754 => ?_) (fun c_754 => ?_)
  · exact absurd c_754 (by decide)
  · refine lv_aload hx hb dL_law_70 (lv_at hl 2 rfl) ?_
    refine lv_iload hx hb dL_law_72 (lv_at hl 0 rfl) ?_
    refine lv_iload hx hb dL_law_74 (lv_at hl 0 rfl) ?_
    refine qz_ist hx hb hG.1 hap qz_eA lz_eK hP hPK hS 4 0 rfl rfl (inb_in (by decide)) dL_law_76 (fun H locs hP hPK hS => ?_)
    rw [show ((0 : Int32).toNatClampNeg) = 0 by decide] at hP
    have hP : va_P D vwCl (qz_A Y ar (fun _ => 0) (fun _ => 0) (fun _ => 0) (fun _ => 0) (upd (fun _ => 0) 0 (0 : Int32)) (fun _ => 0) (fun _ => 0) (fun _ => 0) (fun _ => 0)) H := hP
    have hD : va_D (fun q => s.heap.size ≤ q) (qz_A Y ar (fun _ => 0) (fun _ => 0) (fun _ => 0) (fun _ => 0) (upd (fun _ => 0) 0 (0 : Int32)) (fun _ => 0) (fun _ => 0) (fun _ => 0) (fun _ => 0)) := qz_apD hap qz_eA
    refine lv_iinc (v := 1) (lv' := [(13, .int 1), (11, .long 0), (10, .ref (ar 4)), (9, .ref (ar 8)), (8, .ref (ar 3)), (7, .ref (ar 7)), (6, .ref (ar 6)), (5, .ref (ar 5)), (4, .ref (ar 2)), (3, .ref (ar 1)), (2, .ref (ar 0)), (1, .ref o0), (0, .ref b)]) hx hb dL_law_77 hl (k := 0) rfl (by decide) (by decide) rfl (fun ls hl => ?_)
    refine lv_goto (tgt := 64) hx hb dL_law_80 (by decide) ?_
    refine lv_iload hx hb dL_law_64 (lv_at hl 0 rfl) ?_
    refine lv_iconst (v := 5) hx hb dL_law_66 (by decide) ?_
    refine lv_icmp_ge (tgt := 83) hx hb dL_law_67 (by decide) (fun c_755 => ?_) (fun c_755 => ?_)
    · exact absurd c_755 (by decide)
    · refine lv_aload hx hb dL_law_70 (lv_at hl 2 rfl) ?_
      refine lv_iload hx hb dL_law_72 (lv_at hl 0 rfl) ?_
      refine lv_iload hx hb dL_law_74 (lv_at hl 0 rfl) ?_
      refine qz_ist hx hb hG.1 hap qz_eA lz_eK hP hPK hS 4 0 rfl rfl (inb_in (by decide)) dL_law_76 (fun H locs hP hPK hS => ?_)
      rw [show ((1 : Int32).toNatClampNeg) = 1 by decide] at hP
      have hP : va_P D vwCl (qz_A Y ar (fun _ => 0) (fun _ => 0) (fun _ => 0) (fun _ => 0) (upd (upd (fun _ => 0) 0 (0 : Int32)) 1 (1 : Int32)) (fun _ => 0) (fun _ => 0) (fun _ => 0) (fun _ => 0)) H := hP
      have hD : va_D (fun q => s.heap.size ≤ q) (qz_A Y ar (fun _ => 0) (fun _ => 0) (fun _ => 0) (fun _ => 0) (upd (upd (fun _ => 0) 0 (0 : Int32)) 1 (1 : Int32)) (fun _ => 0) (fun _ => 0) (fun _ => 0) (fun _ => 0)) := qz_apD hap qz_eA
      refine lv_iinc (v := 2) (lv' := [(13, .int 2), (11, .long 0), (10, .ref (ar 4)), (9, .ref (ar 8)), (8, .ref (ar 3)), (7, .ref (ar 7)), (6, .ref (ar 6)), (5, .ref (ar 5)), (4, .ref (ar 2)), (3, .ref (ar 1)), (2, .ref (ar 0)), (1, .ref o0), (0, .ref b)]) hx hb dL_law_77 hl (k := 0) rfl (by decide) (by decide) rfl (fun ls hl => ?_)
      refine lv_goto (tgt := 64) hx hb dL_law_80 (by decide) ?_
      refine lv_iload hx hb dL_law_64 (lv_at hl 0 rfl) ?_
      refine lv_iconst (v := 5) hx hb dL_law_66 (by decide) ?_
      refine lv_icmp_ge (tgt := 83) hx hb dL_law_67 (by decide) (fun c_756 => ?_) (fun c_756 => ?_)
      · exact absurd c_756 (by decide)
      · refine lv_aload hx hb dL_law_70 (lv_at hl 2 rfl) ?_
        refine lv_iload hx hb dL_law_72 (lv_at hl 0 rfl) ?_
        refine lv_iload hx hb dL_law_74 (lv_at hl 0 rfl) ?_
        refine qz_ist hx hb hG.1 hap qz_eA lz_eK hP hPK hS 4 0 rfl rfl (inb_in (by decide)) dL_law_76 (fun H locs hP hPK hS => ?_)
        rw [show ((2 : Int32).toNatClampNeg) = 2 by decide] at hP
        have hP : va_P D vwCl (qz_A Y ar (fun _ => 0) (fun _ => 0) (fun _ => 0) (fun _ => 0) (upd (upd (upd (fun _ => 0) 0 (0 : Int32)) 1 (1 : Int32)) 2 (2 : Int32)) (fun _ => 0) (fun _ => 0) (fun _ => 0) (fun _ => 0)) H := hP
        have hD : va_D (fun q => s.heap.size ≤ q) (qz_A Y ar (fun _ => 0) (fun _ => 0) (fun _ => 0) (fun _ => 0) (upd (upd (upd (fun _ => 0) 0 (0 : Int32)) 1 (1 : Int32)) 2 (2 : Int32)) (fun _ => 0) (fun _ => 0) (fun _ => 0) (fun _ => 0)) := qz_apD hap qz_eA
        refine lv_iinc (v := 3) (lv' := [(13, .int 3), (11, .long 0), (10, .ref (ar 4)), (9, .ref (ar 8)), (8, .ref (ar 3)), (7, .ref (ar 7)), (6, .ref (ar 6)), (5, .ref (ar 5)), (4, .ref (ar 2)), (3, .ref (ar 1)), (2, .ref (ar 0)), (1, .ref o0), (0, .ref b)]) hx hb dL_law_77 hl (k := 0) rfl (by decide) (by decide) rfl (fun ls hl => ?_)
        refine lv_goto (tgt := 64) hx hb dL_law_80 (by decide) ?_
        refine lv_iload hx hb dL_law_64 (lv_at hl 0 rfl) ?_
        refine lv_iconst (v := 5) hx hb dL_law_66 (by decide) ?_
        refine lv_icmp_ge (tgt := 83) hx hb dL_law_67 (by decide) (fun c_757 => ?_) (fun c_757 => ?_)
        · exact absurd c_757 (by decide)
        · refine lv_aload hx hb dL_law_70 (lv_at hl 2 rfl) ?_
          refine lv_iload hx hb dL_law_72 (lv_at hl 0 rfl) ?_
          refine lv_iload hx hb dL_law_74 (lv_at hl 0 rfl) ?_
          refine qz_ist hx hb hG.1 hap qz_eA lz_eK hP hPK hS 4 0 rfl rfl (inb_in (by decide)) dL_law_76 (fun H locs hP hPK hS => ?_)
          rw [show ((3 : Int32).toNatClampNeg) = 3 by decide] at hP
          have hP : va_P D vwCl (qz_A Y ar (fun _ => 0) (fun _ => 0) (fun _ => 0) (fun _ => 0) (upd (upd (upd (upd (fun _ => 0) 0 (0 : Int32)) 1 (1 : Int32)) 2 (2 : Int32)) 3 (3 : Int32)) (fun _ => 0) (fun _ => 0) (fun _ => 0) (fun _ => 0)) H := hP
          have hD : va_D (fun q => s.heap.size ≤ q) (qz_A Y ar (fun _ => 0) (fun _ => 0) (fun _ => 0) (fun _ => 0) (upd (upd (upd (upd (fun _ => 0) 0 (0 : Int32)) 1 (1 : Int32)) 2 (2 : Int32)) 3 (3 : Int32)) (fun _ => 0) (fun _ => 0) (fun _ => 0) (fun _ => 0)) := qz_apD hap qz_eA
          refine lv_iinc (v := 4) (lv' := [(13, .int 4), (11, .long 0), (10, .ref (ar 4)), (9, .ref (ar 8)), (8, .ref (ar 3)), (7, .ref (ar 7)), (6, .ref (ar 6)), (5, .ref (ar 5)), (4, .ref (ar 2)), (3, .ref (ar 1)), (2, .ref (ar 0)), (1, .ref o0), (0, .ref b)]) hx hb dL_law_77 hl (k := 0) rfl (by decide) (by decide) rfl (fun ls hl => ?_)
          refine lv_goto (tgt := 64) hx hb dL_law_80 (by decide) ?_
          refine lv_iload hx hb dL_law_64 (lv_at hl 0 rfl) ?_
          refine lv_iconst (v := 5) hx hb dL_law_66 (by decide) ?_
          refine lv_icmp_ge (tgt := 83) hx hb dL_law_67 (by decide) (fun c_758 => ?_) (fun c_758 => ?_)
          · exact absurd c_758 (by decide)
          · refine lv_aload hx hb dL_law_70 (lv_at hl 2 rfl) ?_
            refine lv_iload hx hb dL_law_72 (lv_at hl 0 rfl) ?_
            refine lv_iload hx hb dL_law_74 (lv_at hl 0 rfl) ?_
            refine qz_ist hx hb hG.1 hap qz_eA lz_eK hP hPK hS 4 0 rfl rfl (inb_in (by decide)) dL_law_76 (fun H locs hP hPK hS => ?_)
            rw [show ((4 : Int32).toNatClampNeg) = 4 by decide] at hP
            have hP : va_P D vwCl (qz_A Y ar (fun _ => 0) (fun _ => 0) (fun _ => 0) (fun _ => 0) (upd (upd (upd (upd (upd (fun _ => 0) 0 (0 : Int32)) 1 (1 : Int32)) 2 (2 : Int32)) 3 (3 : Int32)) 4 (4 : Int32)) (fun _ => 0) (fun _ => 0) (fun _ => 0) (fun _ => 0)) H := hP
            have hD : va_D (fun q => s.heap.size ≤ q) (qz_A Y ar (fun _ => 0) (fun _ => 0) (fun _ => 0) (fun _ => 0) (upd (upd (upd (upd (upd (fun _ => 0) 0 (0 : Int32)) 1 (1 : Int32)) 2 (2 : Int32)) 3 (3 : Int32)) 4 (4 : Int32)) (fun _ => 0) (fun _ => 0) (fun _ => 0) (fun _ => 0)) := qz_apD hap qz_eA
            refine lv_iinc (v := 5) (lv' := [(13, .int 5), (11, .long 0), (10, .ref (ar 4)), (9, .ref (ar 8)), (8, .ref (ar 3)), (7, .ref (ar 7)), (6, .ref (ar 6)), (5, .ref (ar 5)), (4, .ref (ar 2)), (3, .ref (ar 1)), (2, .ref (ar 0)), (1, .ref o0), (0, .ref b)]) hx hb dL_law_77 hl (k := 0) rfl (by decide) (by decide) rfl (fun ls hl => ?_)
            refine lv_goto (tgt := 64) hx hb dL_law_80 (by decide) ?_
            refine lv_iload hx hb dL_law_64 (lv_at hl 0 rfl) ?_
            refine lv_iconst (v := 5) hx hb dL_law_66 (by decide) ?_
            refine lv_icmp_ge (tgt := 83) hx hb dL_law_67 (by decide) (fun c_759 => ?_) (fun c_759 => ?_)
            · refine lv_iconst (v := 0) hx hb dL_law_83 (by decide) ?_
              refine lv_istore (lv' := [(13, .int 0), (11, .long 0), (10, .ref (ar 4)), (9, .ref (ar 8)), (8, .ref (ar 3)), (7, .ref (ar 7)), (6, .ref (ar 6)), (5, .ref (ar 5)), (4, .ref (ar 2)), (3, .ref (ar 1)), (2, .ref (ar 0)), (1, .ref o0), (0, .ref b)]) hx hb dL_law_84 hl (by decide) rfl (fun ls hl => ?_)
              refine lv_iload hx hb dL_law_86 (lv_at hl 0 rfl) ?_
              refine lv_iconst (v := 4) hx hb dL_law_88 (by decide) ?_
              refine lv_icmp_ge (tgt := 106) hx hb dL_law_89 (by decide) (fun c_760 => ?_) (fun c_760 => ?_)
              · exact absurd c_760 (by decide)
              · refine lv_aload hx hb dL_law_92 (lv_at hl 2 rfl) ?_
                refine lv_iconst (v := 5) hx hb dL_law_94 (by decide) ?_
                refine lv_iload hx hb dL_law_95 (lv_at hl 0 rfl) ?_
                refine lv_iadd hx hb dL_law_97 ?_
                refine lv_topi (fun w_761 ew_761 => ?_)
                obtain rfl : w_761 = nI (5 + 0) := ew_761.trans (nI_add 5 0)
                refine lv_iconst (v := 1) hx hb dL_law_98 (by decide) ?_
                refine qz_ist hx hb hG.1 hap qz_eA lz_eK hP hPK hS 4 0 rfl rfl (inb_in (inb_n (show 5 + 0 < 12 by omega) (by decide))) dL_law_99 (fun H locs hP hPK hS => ?_)
                rw [show (nI (5 + 0)).toNatClampNeg = 5 + 0 from ncl (by omega)] at hP
                have hP : va_P D vwCl (qz_A Y ar (fun _ => 0) (fun _ => 0) (fun _ => 0) (fun _ => 0) (upd (upd (upd (upd (upd (upd (fun _ => 0) 0 (0 : Int32)) 1 (1 : Int32)) 2 (2 : Int32)) 3 (3 : Int32)) 4 (4 : Int32)) (5 + 0) (1 : Int32)) (fun _ => 0) (fun _ => 0) (fun _ => 0) (fun _ => 0)) H := hP
                have hD : va_D (fun q => s.heap.size ≤ q) (qz_A Y ar (fun _ => 0) (fun _ => 0) (fun _ => 0) (fun _ => 0) (upd (upd (upd (upd (upd (upd (fun _ => 0) 0 (0 : Int32)) 1 (1 : Int32)) 2 (2 : Int32)) 3 (3 : Int32)) 4 (4 : Int32)) (5 + 0) (1 : Int32)) (fun _ => 0) (fun _ => 0) (fun _ => 0) (fun _ => 0)) := qz_apD hap qz_eA
                refine lv_iinc (v := 1) (lv' := [(13, .int 1), (11, .long 0), (10, .ref (ar 4)), (9, .ref (ar 8)), (8, .ref (ar 3)), (7, .ref (ar 7)), (6, .ref (ar 6)), (5, .ref (ar 5)), (4, .ref (ar 2)), (3, .ref (ar 1)), (2, .ref (ar 0)), (1, .ref o0), (0, .ref b)]) hx hb dL_law_100 hl (k := 0) rfl (by decide) (by decide) rfl (fun ls hl => ?_)
                refine lv_goto (tgt := 86) hx hb dL_law_103 (by decide) ?_
                refine lv_iload hx hb dL_law_86 (lv_at hl 0 rfl) ?_
                refine lv_iconst (v := 4) hx hb dL_law_88 (by decide) ?_
                refine lv_icmp_ge (tgt := 106) hx hb dL_law_89 (by decide) (fun c_762 => ?_) (fun c_762 => ?_)
                · exact absurd c_762 (by decide)
                · refine lv_aload hx hb dL_law_92 (lv_at hl 2 rfl) ?_
                  refine lv_iconst (v := 5) hx hb dL_law_94 (by decide) ?_
                  refine lv_iload hx hb dL_law_95 (lv_at hl 0 rfl) ?_
                  refine lv_iadd hx hb dL_law_97 ?_
                  refine lv_topi (fun w_763 ew_763 => ?_)
                  obtain rfl : w_763 = nI (5 + 1) := ew_763.trans (nI_add 5 1)
                  refine lv_iconst (v := 1) hx hb dL_law_98 (by decide) ?_
                  refine qz_ist hx hb hG.1 hap qz_eA lz_eK hP hPK hS 4 0 rfl rfl (inb_in (inb_n (show 5 + 1 < 12 by omega) (by decide))) dL_law_99 (fun H locs hP hPK hS => ?_)
                  rw [show (nI (5 + 1)).toNatClampNeg = 5 + 1 from ncl (by omega)] at hP
                  have hP : va_P D vwCl (qz_A Y ar (fun _ => 0) (fun _ => 0) (fun _ => 0) (fun _ => 0) (upd (upd (upd (upd (upd (upd (upd (fun _ => 0) 0 (0 : Int32)) 1 (1 : Int32)) 2 (2 : Int32)) 3 (3 : Int32)) 4 (4 : Int32)) (5 + 0) (1 : Int32)) (5 + 1) (1 : Int32)) (fun _ => 0) (fun _ => 0) (fun _ => 0) (fun _ => 0)) H := hP
                  have hD : va_D (fun q => s.heap.size ≤ q) (qz_A Y ar (fun _ => 0) (fun _ => 0) (fun _ => 0) (fun _ => 0) (upd (upd (upd (upd (upd (upd (upd (fun _ => 0) 0 (0 : Int32)) 1 (1 : Int32)) 2 (2 : Int32)) 3 (3 : Int32)) 4 (4 : Int32)) (5 + 0) (1 : Int32)) (5 + 1) (1 : Int32)) (fun _ => 0) (fun _ => 0) (fun _ => 0) (fun _ => 0)) := qz_apD hap qz_eA
                  refine lv_iinc (v := 2) (lv' := [(13, .int 2), (11, .long 0), (10, .ref (ar 4)), (9, .ref (ar 8)), (8, .ref (ar 3)), (7, .ref (ar 7)), (6, .ref (ar 6)), (5, .ref (ar 5)), (4, .ref (ar 2)), (3, .ref (ar 1)), (2, .ref (ar 0)), (1, .ref o0), (0, .ref b)]) hx hb dL_law_100 hl (k := 0) rfl (by decide) (by decide) rfl (fun ls hl => ?_)
                  refine lv_goto (tgt := 86) hx hb dL_law_103 (by decide) ?_
                  refine lv_iload hx hb dL_law_86 (lv_at hl 0 rfl) ?_
                  refine lv_iconst (v := 4) hx hb dL_law_88 (by decide) ?_
                  refine lv_icmp_ge (tgt := 106) hx hb dL_law_89 (by decide) (fun c_764 => ?_) (fun c_764 => ?_)
                  · exact absurd c_764 (by decide)
                  · refine lv_aload hx hb dL_law_92 (lv_at hl 2 rfl) ?_
                    refine lv_iconst (v := 5) hx hb dL_law_94 (by decide) ?_
                    refine lv_iload hx hb dL_law_95 (lv_at hl 0 rfl) ?_
                    refine lv_iadd hx hb dL_law_97 ?_
                    refine lv_topi (fun w_765 ew_765 => ?_)
                    obtain rfl : w_765 = nI (5 + 2) := ew_765.trans (nI_add 5 2)
                    refine lv_iconst (v := 1) hx hb dL_law_98 (by decide) ?_
                    refine qz_ist hx hb hG.1 hap qz_eA lz_eK hP hPK hS 4 0 rfl rfl (inb_in (inb_n (show 5 + 2 < 12 by omega) (by decide))) dL_law_99 (fun H locs hP hPK hS => ?_)
                    rw [show (nI (5 + 2)).toNatClampNeg = 5 + 2 from ncl (by omega)] at hP
                    have hP : va_P D vwCl (qz_A Y ar (fun _ => 0) (fun _ => 0) (fun _ => 0) (fun _ => 0) (upd (upd (upd (upd (upd (upd (upd (upd (fun _ => 0) 0 (0 : Int32)) 1 (1 : Int32)) 2 (2 : Int32)) 3 (3 : Int32)) 4 (4 : Int32)) (5 + 0) (1 : Int32)) (5 + 1) (1 : Int32)) (5 + 2) (1 : Int32)) (fun _ => 0) (fun _ => 0) (fun _ => 0) (fun _ => 0)) H := hP
                    have hD : va_D (fun q => s.heap.size ≤ q) (qz_A Y ar (fun _ => 0) (fun _ => 0) (fun _ => 0) (fun _ => 0) (upd (upd (upd (upd (upd (upd (upd (upd (fun _ => 0) 0 (0 : Int32)) 1 (1 : Int32)) 2 (2 : Int32)) 3 (3 : Int32)) 4 (4 : Int32)) (5 + 0) (1 : Int32)) (5 + 1) (1 : Int32)) (5 + 2) (1 : Int32)) (fun _ => 0) (fun _ => 0) (fun _ => 0) (fun _ => 0)) := qz_apD hap qz_eA
                    refine lv_iinc (v := 3) (lv' := [(13, .int 3), (11, .long 0), (10, .ref (ar 4)), (9, .ref (ar 8)), (8, .ref (ar 3)), (7, .ref (ar 7)), (6, .ref (ar 6)), (5, .ref (ar 5)), (4, .ref (ar 2)), (3, .ref (ar 1)), (2, .ref (ar 0)), (1, .ref o0), (0, .ref b)]) hx hb dL_law_100 hl (k := 0) rfl (by decide) (by decide) rfl (fun ls hl => ?_)
                    refine lv_goto (tgt := 86) hx hb dL_law_103 (by decide) ?_
                    refine lv_iload hx hb dL_law_86 (lv_at hl 0 rfl) ?_
                    refine lv_iconst (v := 4) hx hb dL_law_88 (by decide) ?_
                    refine lv_icmp_ge (tgt := 106) hx hb dL_law_89 (by decide) (fun c_766 => ?_) (fun c_766 => ?_)
                    · exact absurd c_766 (by decide)
                    · refine lv_aload hx hb dL_law_92 (lv_at hl 2 rfl) ?_
                      refine lv_iconst (v := 5) hx hb dL_law_94 (by decide) ?_
                      refine lv_iload hx hb dL_law_95 (lv_at hl 0 rfl) ?_
                      refine lv_iadd hx hb dL_law_97 ?_
                      refine lv_topi (fun w_767 ew_767 => ?_)
                      obtain rfl : w_767 = nI (5 + 3) := ew_767.trans (nI_add 5 3)
                      refine lv_iconst (v := 1) hx hb dL_law_98 (by decide) ?_
                      refine qz_ist hx hb hG.1 hap qz_eA lz_eK hP hPK hS 4 0 rfl rfl (inb_in (inb_n (show 5 + 3 < 12 by omega) (by decide))) dL_law_99 (fun H locs hP hPK hS => ?_)
                      rw [show (nI (5 + 3)).toNatClampNeg = 5 + 3 from ncl (by omega)] at hP
                      have hP : va_P D vwCl (qz_A Y ar (fun _ => 0) (fun _ => 0) (fun _ => 0) (fun _ => 0) (upd (upd (upd (upd (upd (upd (upd (upd (upd (fun _ => 0) 0 (0 : Int32)) 1 (1 : Int32)) 2 (2 : Int32)) 3 (3 : Int32)) 4 (4 : Int32)) (5 + 0) (1 : Int32)) (5 + 1) (1 : Int32)) (5 + 2) (1 : Int32)) (5 + 3) (1 : Int32)) (fun _ => 0) (fun _ => 0) (fun _ => 0) (fun _ => 0)) H := hP
                      have hD : va_D (fun q => s.heap.size ≤ q) (qz_A Y ar (fun _ => 0) (fun _ => 0) (fun _ => 0) (fun _ => 0) (upd (upd (upd (upd (upd (upd (upd (upd (upd (fun _ => 0) 0 (0 : Int32)) 1 (1 : Int32)) 2 (2 : Int32)) 3 (3 : Int32)) 4 (4 : Int32)) (5 + 0) (1 : Int32)) (5 + 1) (1 : Int32)) (5 + 2) (1 : Int32)) (5 + 3) (1 : Int32)) (fun _ => 0) (fun _ => 0) (fun _ => 0) (fun _ => 0)) := qz_apD hap qz_eA
                      refine lv_iinc (v := 4) (lv' := [(13, .int 4), (11, .long 0), (10, .ref (ar 4)), (9, .ref (ar 8)), (8, .ref (ar 3)), (7, .ref (ar 7)), (6, .ref (ar 6)), (5, .ref (ar 5)), (4, .ref (ar 2)), (3, .ref (ar 1)), (2, .ref (ar 0)), (1, .ref o0), (0, .ref b)]) hx hb dL_law_100 hl (k := 0) rfl (by decide) (by decide) rfl (fun ls hl => ?_)
                      refine lv_goto (tgt := 86) hx hb dL_law_103 (by decide) ?_
                      refine lv_iload hx hb dL_law_86 (lv_at hl 0 rfl) ?_
                      refine lv_iconst (v := 4) hx hb dL_law_88 (by decide) ?_
                      refine lv_icmp_ge (tgt := 106) hx hb dL_law_89 (by decide) (fun c_768 => ?_) (fun c_768 => ?_)
                      · refine lv_aload hx hb dL_law_106 (lv_at hl 2 rfl) ?_
                        refine lv_bipush (v := 10) hx hb dL_law_108 (by decide) ?_
                        refine lv_iconst (v := 1) hx hb dL_law_110 (by decide) ?_
                        refine qz_ist hx hb hG.1 hap qz_eA lz_eK hP hPK hS 4 0 rfl rfl (inb_in (by decide)) dL_law_111 (fun H locs hP hPK hS => ?_)
                        rw [show ((10 : Int32).toNatClampNeg) = 10 by decide] at hP
                        have hP : va_P D vwCl (qz_A Y ar (fun _ => 0) (fun _ => 0) (fun _ => 0) (fun _ => 0) (upd (upd (upd (upd (upd (upd (upd (upd (upd (upd (fun _ => 0) 0 (0 : Int32)) 1 (1 : Int32)) 2 (2 : Int32)) 3 (3 : Int32)) 4 (4 : Int32)) (5 + 0) (1 : Int32)) (5 + 1) (1 : Int32)) (5 + 2) (1 : Int32)) (5 + 3) (1 : Int32)) 10 (1 : Int32)) (fun _ => 0) (fun _ => 0) (fun _ => 0) (fun _ => 0)) H := hP
                        have hD : va_D (fun q => s.heap.size ≤ q) (qz_A Y ar (fun _ => 0) (fun _ => 0) (fun _ => 0) (fun _ => 0) (upd (upd (upd (upd (upd (upd (upd (upd (upd (upd (fun _ => 0) 0 (0 : Int32)) 1 (1 : Int32)) 2 (2 : Int32)) 3 (3 : Int32)) 4 (4 : Int32)) (5 + 0) (1 : Int32)) (5 + 1) (1 : Int32)) (5 + 2) (1 : Int32)) (5 + 3) (1 : Int32)) 10 (1 : Int32)) (fun _ => 0) (fun _ => 0) (fun _ => 0) (fun _ => 0)) := qz_apD hap qz_eA
                        refine lv_aload hx hb dL_law_112 (lv_at hl 2 rfl) ?_
                        refine lv_bipush (v := 11) hx hb dL_law_114 (by decide) ?_
                        refine lv_iconst (v := 2) hx hb dL_law_116 (by decide) ?_
                        refine qz_ist hx hb hG.1 hap qz_eA lz_eK hP hPK hS 4 0 rfl rfl (inb_in (by decide)) dL_law_117 (fun H locs hP hPK hS => ?_)
                        rw [show ((11 : Int32).toNatClampNeg) = 11 by decide] at hP
                        have hP : va_P D vwCl (qz_A Y ar (fun _ => 0) (fun _ => 0) (fun _ => 0) (fun _ => 0) (upd (upd (upd (upd (upd (upd (upd (upd (upd (upd (upd (fun _ => 0) 0 (0 : Int32)) 1 (1 : Int32)) 2 (2 : Int32)) 3 (3 : Int32)) 4 (4 : Int32)) (5 + 0) (1 : Int32)) (5 + 1) (1 : Int32)) (5 + 2) (1 : Int32)) (5 + 3) (1 : Int32)) 10 (1 : Int32)) 11 (2 : Int32)) (fun _ => 0) (fun _ => 0) (fun _ => 0) (fun _ => 0)) H := hP
                        have hD : va_D (fun q => s.heap.size ≤ q) (qz_A Y ar (fun _ => 0) (fun _ => 0) (fun _ => 0) (fun _ => 0) (upd (upd (upd (upd (upd (upd (upd (upd (upd (upd (upd (fun _ => 0) 0 (0 : Int32)) 1 (1 : Int32)) 2 (2 : Int32)) 3 (3 : Int32)) 4 (4 : Int32)) (5 + 0) (1 : Int32)) (5 + 1) (1 : Int32)) (5 + 2) (1 : Int32)) (5 + 3) (1 : Int32)) 10 (1 : Int32)) 11 (2 : Int32)) (fun _ => 0) (fun _ => 0) (fun _ => 0) (fun _ => 0)) := qz_apD hap qz_eA
                        refine lv_aload_n hx hb dL_law_118 rfl (lv_at hl 11 rfl) ?_
                        refine lv_aload_n hx hb dL_law_119 rfl (lv_at hl 10 rfl) ?_
                        refine lv_aload_n hx hb dL_law_120 rfl (lv_at hl 9 rfl) ?_
                        refine lv_aload hx hb dL_law_121 (lv_at hl 4 rfl) ?_
                        refine lv_aload hx hb dL_law_123 (lv_at hl 5 rfl) ?_
                        refine lv_aload hx hb dL_law_125 (lv_at hl 3 rfl) ?_
                        have I := qz_I0
                        refine qz_cat X I hP hPK hS hl.1 dL_law_127 (by omega) (by omega) (fun cd' u' H locs I hP hPK hS => ?_)
                        have hP : va_P D vwCl (qz_A Y ar (fun _ => 0) (fun _ => 0) (fun _ => 0) (fun _ => 0) (upd (upd (upd (upd (upd (upd (upd (upd (upd (upd (upd (fun _ => 0) 0 (0 : Int32)) 1 (1 : Int32)) 2 (2 : Int32)) 3 (3 : Int32)) 4 (4 : Int32)) (5 + 0) (1 : Int32)) (5 + 1) (1 : Int32)) (5 + 2) (1 : Int32)) (5 + 3) (1 : Int32)) 10 (1 : Int32)) 11 (2 : Int32)) (fun _ => 0) (fun _ => 0) (fun _ => 0) (fun _ => 0)) H := hP
                        have hD : va_D (fun q => s.heap.size ≤ q) (qz_A Y ar (fun _ => 0) (fun _ => 0) (fun _ => 0) (fun _ => 0) (upd (upd (upd (upd (upd (upd (upd (upd (upd (upd (upd (fun _ => 0) 0 (0 : Int32)) 1 (1 : Int32)) 2 (2 : Int32)) 3 (3 : Int32)) 4 (4 : Int32)) (5 + 0) (1 : Int32)) (5 + 1) (1 : Int32)) (5 + 2) (1 : Int32)) (5 + 3) (1 : Int32)) 10 (1 : Int32)) 11 (2 : Int32)) (fun _ => 0) (fun _ => 0) (fun _ => 0) (fun _ => 0)) := qz_apD hap qz_eA
                        change W _ _ _ _ _ _ _ _ _ _ _ _ _ _ _ (F0 m 130 _ [.int 1])
                        refine lv_istore (lv' := [(13, .int 1), (11, .long 0), (10, .ref (ar 4)), (9, .ref (ar 8)), (8, .ref (ar 3)), (7, .ref (ar 7)), (6, .ref (ar 6)), (5, .ref (ar 5)), (4, .ref (ar 2)), (3, .ref (ar 1)), (2, .ref (ar 0)), (1, .ref o0), (0, .ref b)]) hx hb dL_law_130 hl (by decide) rfl (fun ls hl => ?_)
                        refine lv_iconst (v := 0) hx hb dL_law_132 (by decide) ?_
                        refine lv_topi (fun w_769 ew_769 => ?_)
                        obtain rfl : w_769 = nI 0 := ew_769.trans (show (0 : Int32) = nI 0 from rfl)
                        refine lv_istore (lv' := [(14, .int (nI 0)), (13, .int 1), (11, .long 0), (10, .ref (ar 4)), (9, .ref (ar 8)), (8, .ref (ar 3)), (7, .ref (ar 7)), (6, .ref (ar 6)), (5, .ref (ar 5)), (4, .ref (ar 2)), (3, .ref (ar 1)), (2, .ref (ar 0)), (1, .ref o0), (0, .ref b)]) hx hb dL_law_133 hl (by decide) rfl (fun ls hl => ?_)
                        exact W.widen (by omega) (by omega) (qz_loop X hL 130 0 rfl _ _ _ _ _ _ _ _ _ _ _ _ _ _ _ _ _ _ _ _ H locs ls (fun _ => rfl) I hP hPK hS (lv_sub hl [13, 12, 11, 10, 9, 8, 7, 6, 5, 4, 3, 2, 1, 0] rfl))
                      · exact absurd c_768 (by decide)
            · exact absurd c_759 (by decide)
end LAW
