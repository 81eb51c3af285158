section LAW
variable {p : Program} {l : Launch} {e : Env} {s : State} {m : MethodId} {below : List Frame} {meth : Method} {c : Code} {H : Heap} {locs : List Loc} {cells slots : Nat} {Q : State → Prop} {ls : Array Slot} {D : va_G} {Y : cq_Y} {b L : Nat} {xs : Nat → Int32} {o0 : Nat} {ast ald ahi act acd ar : Nat → Nat}
variable {n bt d U tn K y r : Nat} {st : SetS} {ld : LodS} {hi : HisS} {ct cd : CatS} {u : MdlS} {v li : FL} {h ev nn qq bb t uu : FI} {dr : Int64}
set_option maxHeartbeats 4000000 in
set_option maxRecDepth 100000 in
theorem qz_D (X : qz_X p l s m meth c b L xs D Y o0 ast ald ahi act acd ar) (hc : cells + 4000 ≤ 600130) (hsl : slots + 24000 ≤ 7301080) (I : IV n bt d U st ld hi ct cd u v h ev nn qq li bb t uu dr) (hP : va_P D vwCl (qz_A Y ar v h ev nn qq li bb t uu) H) (hPK : va_P D vwCl (lz_K Y o0 ast ald ahi act acd st ld hi ct cd) H) (hS : va_S (fun q => s.heap.size ≤ q) s.heap H locs) (go : qz_go p l e s m below meth c b D Y o0 ast ald ahi act acd ar Q 1522 tn (fun n => tn + 1 ≤ 6 → n = 0) (cells + 10) (slots + 60)) (hy : y < 2147483648) (hr9 : r < 40) (hK25 : K < 25) (hT : tn + 1 ≤ 6 → n = 0) (hK3 : K < 3 → n = 0) (hK7 : 12 ≤ K → 6 < tn) (hl : lv_has ls 23 [(0, .ref b), (1, .ref o0), (2, .ref (ar 0)), (3, .ref (ar 1)), (4, .ref (ar 2)), (5, .ref (ar 5)), (6, .ref (ar 6)), (7, .ref (ar 7)), (8, .ref (ar 3)), (9, .ref (ar 8)), (10, .ref (ar 4)), (11, .long dr), (13, .int 1), (14, .int (nI tn)), (16, .int (nI K)), (17, .int (nI y)), (18, .int (nI r))]) : W p l e room_1 s m #[Value.ref b] below meth c H locs (cells) (slots) Q (F0 m 295 ls []) := by
  obtain ⟨C0, hl0, hG, hB, hNC, hap⟩ := id X
  obtain ⟨hx, hb, hr, hml, hown, htb, hX, hbl, hlocks, hgv⟩ := id C0
  have hown : s.vm.findClass RL = some m.cls := hown
  have hts : ∀ w ∈ wsL_law, w.before #[Value.ref b] s = true := fun w h => htb w (wsL_law_in w h)
  have hD : va_D (fun q => s.heap.size ≤ q) (qz_A Y ar v h ev nn qq li bb t uu) := qz_apD hap qz_eA
  have hN := I.2.2.2.2.2.2.1
  have hn40 := I.2.2.2.2.2.2.2.1
  have hb10 := I.1.1.2.1
  have k1355 : ∀ ls : Array Slot, lv_has ls 23 [(0, .ref b), (1, .ref o0), (2, .ref (ar 0)), (3, .ref (ar 1)), (4, .ref (ar 2)), (5, .ref (ar 5)), (6, .ref (ar 6)), (7, .ref (ar 7)), (8, .ref (ar 3)), (9, .ref (ar 8)), (10, .ref (ar 4)), (11, .long dr), (13, .int 1), (14, .int (nI tn)), (16, .int (nI K)), (17, .int (nI y)), (18, .int (nI r))] → W p l e room_1 s m #[Value.ref b] below meth c H locs (cells) (slots) Q (F0 m 1355 ls []) := fun ls hl => qz_B10 X hc hsl I hP hPK hS hy (fun x o9 nx ls h1 h2 h3 h4 hl => qz_B10u X hc hsl I hP hPK hS go hT h1 h2 h3 h4 hl) (lv_sub hl [0, 1, 2, 3, 4, 5, 6, 7, 8, 9, 10, 11, 12, 13, 15] rfl)
  have k1198 : ∀ ls : Array Slot, lv_has ls 23 [(0, .ref b), (1, .ref o0), (2, .ref (ar 0)), (3, .ref (ar 1)), (4, .ref (ar 2)), (5, .ref (ar 5)), (6, .ref (ar 6)), (7, .ref (ar 7)), (8, .ref (ar 3)), (9, .ref (ar 8)), (10, .ref (ar 4)), (11, .long dr), (13, .int 1), (14, .int (nI tn)), (16, .int (nI K)), (17, .int (nI y)), (18, .int (nI r))] → W p l e room_1 s m #[Value.ref b] below meth c H locs (cells) (slots) Q (F0 m 1198 ls []) := by
    intro ls hl
    by_cases hK : K = 21
    · by_cases hd : d < 64
      · refine lv_iload hx hb dL_law_1198 (lv_at hl 14 rfl) ?_
        refine lv_bipush (v := 21) hx hb dL_law_1200 (by decide) ?_
        refine lv_icmp_ne (tgt := 1355) hx hb dL_law_1202 (by decide) (fun c_581 => ?_) (fun c_581 => ?_)
        · exact absurd (show nI K = 21 from congrArg nI hK) c_581
        · refine lv_aload hx hb dL_law_1205 (lv_at hl 8 rfl) ?_
          refine lv_iconst (v := 2) hx hb dL_law_1207 (by decide) ?_
          refine va_iald hx hb hG.1 hP 3 0 rfl rfl (inb_in (by decide)) dL_law_1208 ?_
          refine lv_topi (fun w_582 ew_582 => ?_)
          obtain rfl : w_582 = nn 2 := ew_582.trans (congrArg nn (show ((2 : Int32).toNatClampNeg) = 2 by decide))
          refine lv_topi (fun w_583 ew_583 => ?_)
          obtain rfl : w_583 = nI d := ew_583.trans hN.2.2
          refine lv_bipush (v := 64) hx hb dL_law_1209 (by decide) ?_
          refine lv_icmp_ge (tgt := 1355) hx hb dL_law_1211 (by decide) (fun c_584 => ?_) (fun c_584 => ?_)
          · exact absurd c_584 (nI_ge (a := d) (b := 64) hd (by decide))
          · exact qz_B9 X hc hsl I hP hPK hS hy hr9 (fun o a ls h1 h2 hl => qz_B9m X hc hsl I hP hPK hS go hT hd hr9 h1 h2 (lv_sub hl [0, 1, 2, 3, 4, 5, 6, 7, 8, 9, 10, 11, 12, 13, 15, 16, 17] rfl)) (lv_sub hl [0, 1, 2, 3, 4, 5, 6, 7, 8, 9, 10, 11, 12, 13, 15, 16] rfl)
      · refine lv_iload hx hb dL_law_1198 (lv_at hl 14 rfl) ?_
        refine lv_bipush (v := 21) hx hb dL_law_1200 (by decide) ?_
        refine lv_icmp_ne (tgt := 1355) hx hb dL_law_1202 (by decide) (fun c_585 => ?_) (fun c_585 => ?_)
        · exact absurd (show nI K = 21 from congrArg nI hK) c_585
        · refine lv_aload hx hb dL_law_1205 (lv_at hl 8 rfl) ?_
          refine lv_iconst (v := 2) hx hb dL_law_1207 (by decide) ?_
          refine va_iald hx hb hG.1 hP 3 0 rfl rfl (inb_in (by decide)) dL_law_1208 ?_
          refine lv_topi (fun w_586 ew_586 => ?_)
          obtain rfl : w_586 = nn 2 := ew_586.trans (congrArg nn (show ((2 : Int32).toNatClampNeg) = 2 by decide))
          refine lv_topi (fun w_587 ew_587 => ?_)
          obtain rfl : w_587 = nI d := ew_587.trans hN.2.2
          refine lv_bipush (v := 64) hx hb dL_law_1209 (by decide) ?_
          refine lv_icmp_ge (tgt := 1355) hx hb dL_law_1211 (by decide) (fun c_588 => ?_) (fun c_588 => ?_)
          · exact k1355 ls (lv_sub hl [0, 1, 2, 3, 4, 5, 6, 7, 8, 9, 10, 11, 12, 13, 14, 15, 16] rfl)
          · exact absurd (nI_le (a := 64) (b := d) (by omega) (by omega)) c_588
    · refine lv_iload hx hb dL_law_1198 (lv_at hl 14 rfl) ?_
      refine lv_bipush (v := 21) hx hb dL_law_1200 (by decide) ?_
      refine lv_icmp_ne (tgt := 1355) hx hb dL_law_1202 (by decide) (fun c_589 => ?_) (fun c_589 => ?_)
      · exact k1355 ls (lv_sub hl [0, 1, 2, 3, 4, 5, 6, 7, 8, 9, 10, 11, 12, 13, 14, 15, 16] rfl)
      · exact absurd c_589 (fun h9 => hK ((nI_eq (b := 21) (by omega) (by decide)).mp h9))
  have k985 : ∀ ls : Array Slot, lv_has ls 23 [(0, .ref b), (1, .ref o0), (2, .ref (ar 0)), (3, .ref (ar 1)), (4, .ref (ar 2)), (5, .ref (ar 5)), (6, .ref (ar 6)), (7, .ref (ar 7)), (8, .ref (ar 3)), (9, .ref (ar 8)), (10, .ref (ar 4)), (11, .long dr), (13, .int 1), (14, .int (nI tn)), (16, .int (nI K)), (17, .int (nI y)), (18, .int (nI r))] → W p l e room_1 s m #[Value.ref b] below meth c H locs (cells) (slots) Q (F0 m 985 ls []) := by
    intro ls hl
    by_cases hK : K < 21
    · by_cases hd : d < 64
      · refine lv_iload hx hb dL_law_985 (lv_at hl 14 rfl) ?_
        refine lv_bipush (v := 21) hx hb dL_law_987 (by decide) ?_
        refine lv_icmp_ge (tgt := 1198) hx hb dL_law_989 (by decide) (fun c_590 => ?_) (fun c_590 => ?_)
        · exact absurd c_590 (nI_ge (a := K) (b := 21) hK (by decide))
        · refine lv_aload hx hb dL_law_992 (lv_at hl 8 rfl) ?_
          refine lv_iconst (v := 2) hx hb dL_law_994 (by decide) ?_
          refine va_iald hx hb hG.1 hP 3 0 rfl rfl (inb_in (by decide)) dL_law_995 ?_
          refine lv_topi (fun w_591 ew_591 => ?_)
          obtain rfl : w_591 = nn 2 := ew_591.trans (congrArg nn (show ((2 : Int32).toNatClampNeg) = 2 by decide))
          refine lv_topi (fun w_592 ew_592 => ?_)
          obtain rfl : w_592 = nI d := ew_592.trans hN.2.2
          refine lv_bipush (v := 64) hx hb dL_law_996 (by decide) ?_
          refine lv_icmp_ge (tgt := 1198) hx hb dL_law_998 (by decide) (fun c_593 => ?_) (fun c_593 => ?_)
          · exact absurd c_593 (nI_ge (a := d) (b := 64) hd (by decide))
          · exact qz_B8 X hc hsl I hP hPK hS hy hr9 (fun on ls h9 hl => (if hK18 : K = 18 then qz_B8p X hc hsl I hP hPK hS go hT hd hr9 (by omega) h9 hK18 hK25 (lv_sub hl [0, 1, 2, 3, 4, 5, 6, 7, 8, 9, 10, 11, 12, 13, 14, 16, 17, 18, 19, 20] rfl) else qz_B8h X hc hsl I hP hPK hS go hT hd hr9 hK18 hK25 (lv_sub hl [0, 1, 2, 3, 4, 5, 6, 7, 8, 9, 10, 11, 12, 13, 14, 16, 17, 18, 19, 20] rfl))) (lv_sub hl [0, 1, 2, 3, 4, 5, 6, 7, 8, 9, 10, 11, 12, 13, 14, 15, 16] rfl)
      · refine lv_iload hx hb dL_law_985 (lv_at hl 14 rfl) ?_
        refine lv_bipush (v := 21) hx hb dL_law_987 (by decide) ?_
        refine lv_icmp_ge (tgt := 1198) hx hb dL_law_989 (by decide) (fun c_594 => ?_) (fun c_594 => ?_)
        · exact absurd c_594 (nI_ge (a := K) (b := 21) hK (by decide))
        · refine lv_aload hx hb dL_law_992 (lv_at hl 8 rfl) ?_
          refine lv_iconst (v := 2) hx hb dL_law_994 (by decide) ?_
          refine va_iald hx hb hG.1 hP 3 0 rfl rfl (inb_in (by decide)) dL_law_995 ?_
          refine lv_topi (fun w_595 ew_595 => ?_)
          obtain rfl : w_595 = nn 2 := ew_595.trans (congrArg nn (show ((2 : Int32).toNatClampNeg) = 2 by decide))
          refine lv_topi (fun w_596 ew_596 => ?_)
          obtain rfl : w_596 = nI d := ew_596.trans hN.2.2
          refine lv_bipush (v := 64) hx hb dL_law_996 (by decide) ?_
          refine lv_icmp_ge (tgt := 1198) hx hb dL_law_998 (by decide) (fun c_597 => ?_) (fun c_597 => ?_)
          · exact k1198 ls (lv_sub hl [0, 1, 2, 3, 4, 5, 6, 7, 8, 9, 10, 11, 12, 13, 14, 15, 16] rfl)
          · exact absurd (nI_le (a := 64) (b := d) (by omega) (by omega)) c_597
    · refine lv_iload hx hb dL_law_985 (lv_at hl 14 rfl) ?_
      refine lv_bipush (v := 21) hx hb dL_law_987 (by decide) ?_
      refine lv_icmp_ge (tgt := 1198) hx hb dL_law_989 (by decide) (fun c_598 => ?_) (fun c_598 => ?_)
      · exact k1198 ls (lv_sub hl [0, 1, 2, 3, 4, 5, 6, 7, 8, 9, 10, 11, 12, 13, 14, 15, 16] rfl)
      · exact absurd (nI_le (a := 21) (b := K) (by omega) (by omega)) c_598
  by_cases hK0 : K = 0
  · refine lv_iload hx hb dL_law_295 (lv_at hl 14 rfl) ?_
    refine lv_if_ne (tgt := 351) hx hb dL_law_297 (by decide) (fun c_599 => ?_) (fun c_599 => ?_)
    · exact absurd ((n0 (by omega)).mpr hK0) c_599
    · exact qz_B0 X hc hsl I hP hPK hS go hy hT (hK3 (by omega)) (lv_sub hl [0, 1, 2, 3, 4, 5, 6, 7, 8, 9, 10, 11, 12, 13, 15] rfl)
  · by_cases hK1 : K = 1
    · refine lv_iload hx hb dL_law_295 (lv_at hl 14 rfl) ?_
      refine lv_if_ne (tgt := 351) hx hb dL_law_297 (by decide) (fun c_600 => ?_) (fun c_600 => ?_)
      · refine lv_iload hx hb dL_law_351 (lv_at hl 14 rfl) ?_
        refine lv_iconst (v := 1) hx hb dL_law_353 (by decide) ?_
        refine lv_icmp_ne (tgt := 410) hx hb dL_law_354 (by decide) (fun c_601 => ?_) (fun c_601 => ?_)
        · exact absurd (show nI K = 1 from congrArg nI hK1) c_601
        · exact qz_B1 X hc hsl I hP hPK hS go hy hT (hK3 (by omega)) (lv_sub hl [0, 1, 2, 3, 4, 5, 6, 7, 8, 9, 10, 11, 12, 13, 15] rfl)
      · exact absurd c_600 (fun h9 => hK0 ((n0 (by omega)).mp h9))
    · by_cases hK2 : K = 2
      · refine lv_iload hx hb dL_law_295 (lv_at hl 14 rfl) ?_
        refine lv_if_ne (tgt := 351) hx hb dL_law_297 (by decide) (fun c_602 => ?_) (fun c_602 => ?_)
        · refine lv_iload hx hb dL_law_351 (lv_at hl 14 rfl) ?_
          refine lv_iconst (v := 1) hx hb dL_law_353 (by decide) ?_
          refine lv_icmp_ne (tgt := 410) hx hb dL_law_354 (by decide) (fun c_603 => ?_) (fun c_603 => ?_)
          · refine lv_iload hx hb dL_law_410 (lv_at hl 14 rfl) ?_
            refine lv_iconst (v := 2) hx hb dL_law_412 (by decide) ?_
            refine lv_icmp_ne (tgt := 481) hx hb dL_law_413 (by decide) (fun c_604 => ?_) (fun c_604 => ?_)
            · exact absurd (show nI K = 2 from congrArg nI hK2) c_604
            · exact qz_B2 X hc hsl I hP hPK hS go hy hT (hK3 (by omega)) (lv_sub hl [0, 1, 2, 3, 4, 5, 6, 7, 8, 9, 10, 11, 12, 13, 15] rfl)
          · exact absurd c_603 (fun h9 => hK1 ((nI_eq (b := 1) (by omega) (by decide)).mp h9))
        · exact absurd c_602 (fun h9 => hK0 ((n0 (by omega)).mp h9))
      · by_cases hK3x : K = 3
        · refine lv_iload hx hb dL_law_295 (lv_at hl 14 rfl) ?_
          refine lv_if_ne (tgt := 351) hx hb dL_law_297 (by decide) (fun c_605 => ?_) (fun c_605 => ?_)
          · refine lv_iload hx hb dL_law_351 (lv_at hl 14 rfl) ?_
            refine lv_iconst (v := 1) hx hb dL_law_353 (by decide) ?_
            refine lv_icmp_ne (tgt := 410) hx hb dL_law_354 (by decide) (fun c_606 => ?_) (fun c_606 => ?_)
            · refine lv_iload hx hb dL_law_410 (lv_at hl 14 rfl) ?_
              refine lv_iconst (v := 2) hx hb dL_law_412 (by decide) ?_
              refine lv_icmp_ne (tgt := 481) hx hb dL_law_413 (by decide) (fun c_607 => ?_) (fun c_607 => ?_)
              · refine lv_iload hx hb dL_law_481 (lv_at hl 14 rfl) ?_
                refine lv_iconst (v := 3) hx hb dL_law_483 (by decide) ?_
                refine lv_icmp_ne (tgt := 567) hx hb dL_law_484 (by decide) (fun c_608 => ?_) (fun c_608 => ?_)
                · exact absurd (show nI K = 3 from congrArg nI hK3x) c_608
                · exact qz_B3 X hc hsl I hP hPK hS go hy hT (lv_sub hl [0, 1, 2, 3, 4, 5, 6, 7, 8, 9, 10, 11, 12, 13, 15] rfl)
              · exact absurd c_607 (fun h9 => hK2 ((nI_eq (b := 2) (by omega) (by decide)).mp h9))
            · exact absurd c_606 (fun h9 => hK1 ((nI_eq (b := 1) (by omega) (by decide)).mp h9))
          · exact absurd c_605 (fun h9 => hK0 ((n0 (by omega)).mp h9))
        · by_cases hK4 : K = 4
          · refine lv_iload hx hb dL_law_295 (lv_at hl 14 rfl) ?_
            refine lv_if_ne (tgt := 351) hx hb dL_law_297 (by decide) (fun c_609 => ?_) (fun c_609 => ?_)
            · refine lv_iload hx hb dL_law_351 (lv_at hl 14 rfl) ?_
              refine lv_iconst (v := 1) hx hb dL_law_353 (by decide) ?_
              refine lv_icmp_ne (tgt := 410) hx hb dL_law_354 (by decide) (fun c_610 => ?_) (fun c_610 => ?_)
              · refine lv_iload hx hb dL_law_410 (lv_at hl 14 rfl) ?_
                refine lv_iconst (v := 2) hx hb dL_law_412 (by decide) ?_
                refine lv_icmp_ne (tgt := 481) hx hb dL_law_413 (by decide) (fun c_611 => ?_) (fun c_611 => ?_)
                · refine lv_iload hx hb dL_law_481 (lv_at hl 14 rfl) ?_
                  refine lv_iconst (v := 3) hx hb dL_law_483 (by decide) ?_
                  refine lv_icmp_ne (tgt := 567) hx hb dL_law_484 (by decide) (fun c_612 => ?_) (fun c_612 => ?_)
                  · refine lv_iload hx hb dL_law_567 (lv_at hl 14 rfl) ?_
                    refine lv_iconst (v := 4) hx hb dL_law_569 (by decide) ?_
                    refine lv_icmp_ne (tgt := 632) hx hb dL_law_570 (by decide) (fun c_613 => ?_) (fun c_613 => ?_)
                    · exact absurd (show nI K = 4 from congrArg nI hK4) c_613
                    · exact qz_B4 X hc hsl I hP hPK hS go hT (lv_sub hl [0, 1, 2, 3, 4, 5, 6, 7, 8, 9, 10, 11, 12, 13, 15] rfl)
                  · exact absurd c_612 (fun h9 => hK3x ((nI_eq (b := 3) (by omega) (by decide)).mp h9))
                · exact absurd c_611 (fun h9 => hK2 ((nI_eq (b := 2) (by omega) (by decide)).mp h9))
              · exact absurd c_610 (fun h9 => hK1 ((nI_eq (b := 1) (by omega) (by decide)).mp h9))
            · exact absurd c_609 (fun h9 => hK0 ((n0 (by omega)).mp h9))
          · by_cases hq9 : K < 9
            · refine lv_iload hx hb dL_law_295 (lv_at hl 14 rfl) ?_
              refine lv_if_ne (tgt := 351) hx hb dL_law_297 (by decide) (fun c_614 => ?_) (fun c_614 => ?_)
              · refine lv_iload hx hb dL_law_351 (lv_at hl 14 rfl) ?_
                refine lv_iconst (v := 1) hx hb dL_law_353 (by decide) ?_
                refine lv_icmp_ne (tgt := 410) hx hb dL_law_354 (by decide) (fun c_615 => ?_) (fun c_615 => ?_)
                · refine lv_iload hx hb dL_law_410 (lv_at hl 14 rfl) ?_
                  refine lv_iconst (v := 2) hx hb dL_law_412 (by decide) ?_
                  refine lv_icmp_ne (tgt := 481) hx hb dL_law_413 (by decide) (fun c_616 => ?_) (fun c_616 => ?_)
                  · refine lv_iload hx hb dL_law_481 (lv_at hl 14 rfl) ?_
                    refine lv_iconst (v := 3) hx hb dL_law_483 (by decide) ?_
                    refine lv_icmp_ne (tgt := 567) hx hb dL_law_484 (by decide) (fun c_617 => ?_) (fun c_617 => ?_)
                    · refine lv_iload hx hb dL_law_567 (lv_at hl 14 rfl) ?_
                      refine lv_iconst (v := 4) hx hb dL_law_569 (by decide) ?_
                      refine lv_icmp_ne (tgt := 632) hx hb dL_law_570 (by decide) (fun c_618 => ?_) (fun c_618 => ?_)
                      · refine lv_iload hx hb dL_law_632 (lv_at hl 14 rfl) ?_
                        refine lv_bipush (v := 9) hx hb dL_law_634 (by decide) ?_
                        refine lv_icmp_ge (tgt := 711) hx hb dL_law_636 (by decide) (fun c_619 => ?_) (fun c_619 => ?_)
                        · exact absurd c_619 (nI_ge (a := K) (b := 9) (by omega) (by decide))
                        · exact qz_B5 X hc hsl I hP hPK hS go hy hT (lv_sub hl [0, 1, 2, 3, 4, 5, 6, 7, 8, 9, 10, 11, 12, 13, 15] rfl)
                      · exact absurd c_618 (fun h9 => hK4 ((nI_eq (b := 4) (by omega) (by decide)).mp h9))
                    · exact absurd c_617 (fun h9 => hK3x ((nI_eq (b := 3) (by omega) (by decide)).mp h9))
                  · exact absurd c_616 (fun h9 => hK2 ((nI_eq (b := 2) (by omega) (by decide)).mp h9))
                · exact absurd c_615 (fun h9 => hK1 ((nI_eq (b := 1) (by omega) (by decide)).mp h9))
              · exact absurd c_614 (fun h9 => hK0 ((n0 (by omega)).mp h9))
            · by_cases hq12 : K < 12
              · refine lv_iload hx hb dL_law_295 (lv_at hl 14 rfl) ?_
                refine lv_if_ne (tgt := 351) hx hb dL_law_297 (by decide) (fun c_620 => ?_) (fun c_620 => ?_)
                · refine lv_iload hx hb dL_law_351 (lv_at hl 14 rfl) ?_
                  refine lv_iconst (v := 1) hx hb dL_law_353 (by decide) ?_
                  refine lv_icmp_ne (tgt := 410) hx hb dL_law_354 (by decide) (fun c_621 => ?_) (fun c_621 => ?_)
                  · refine lv_iload hx hb dL_law_410 (lv_at hl 14 rfl) ?_
                    refine lv_iconst (v := 2) hx hb dL_law_412 (by decide) ?_
                    refine lv_icmp_ne (tgt := 481) hx hb dL_law_413 (by decide) (fun c_622 => ?_) (fun c_622 => ?_)
                    · refine lv_iload hx hb dL_law_481 (lv_at hl 14 rfl) ?_
                      refine lv_iconst (v := 3) hx hb dL_law_483 (by decide) ?_
                      refine lv_icmp_ne (tgt := 567) hx hb dL_law_484 (by decide) (fun c_623 => ?_) (fun c_623 => ?_)
                      · refine lv_iload hx hb dL_law_567 (lv_at hl 14 rfl) ?_
                        refine lv_iconst (v := 4) hx hb dL_law_569 (by decide) ?_
                        refine lv_icmp_ne (tgt := 632) hx hb dL_law_570 (by decide) (fun c_624 => ?_) (fun c_624 => ?_)
                        · refine lv_iload hx hb dL_law_632 (lv_at hl 14 rfl) ?_
                          refine lv_bipush (v := 9) hx hb dL_law_634 (by decide) ?_
                          refine lv_icmp_ge (tgt := 711) hx hb dL_law_636 (by decide) (fun c_625 => ?_) (fun c_625 => ?_)
                          · refine lv_iload hx hb dL_law_711 (lv_at hl 14 rfl) ?_
                            refine lv_bipush (v := 12) hx hb dL_law_713 (by decide) ?_
                            refine lv_icmp_ge (tgt := 793) hx hb dL_law_715 (by decide) (fun c_626 => ?_) (fun c_626 => ?_)
                            · exact absurd c_626 (nI_ge (a := K) (b := 12) (by omega) (by decide))
                            · exact qz_B6 X hc hsl I hP hPK hS go hy hT (lv_sub hl [0, 1, 2, 3, 4, 5, 6, 7, 8, 9, 10, 11, 12, 13, 15] rfl)
                          · exact absurd (nI_le (a := 9) (b := K) (by omega) (by omega)) c_625
                        · exact absurd c_624 (fun h9 => hK4 ((nI_eq (b := 4) (by omega) (by decide)).mp h9))
                      · exact absurd c_623 (fun h9 => hK3x ((nI_eq (b := 3) (by omega) (by decide)).mp h9))
                    · exact absurd c_622 (fun h9 => hK2 ((nI_eq (b := 2) (by omega) (by decide)).mp h9))
                  · exact absurd c_621 (fun h9 => hK1 ((nI_eq (b := 1) (by omega) (by decide)).mp h9))
                · exact absurd c_620 (fun h9 => hK0 ((n0 (by omega)).mp h9))
              · by_cases hq18 : K < 18
                · by_cases hnn : n < 40
                  · by_cases hd : d < 64
                    · refine lv_iload hx hb dL_law_295 (lv_at hl 14 rfl) ?_
                      refine lv_if_ne (tgt := 351) hx hb dL_law_297 (by decide) (fun c_660 => ?_) (fun c_660 => ?_)
                      · refine lv_iload hx hb dL_law_351 (lv_at hl 14 rfl) ?_
                        refine lv_iconst (v := 1) hx hb dL_law_353 (by decide) ?_
                        refine lv_icmp_ne (tgt := 410) hx hb dL_law_354 (by decide) (fun c_661 => ?_) (fun c_661 => ?_)
                        · refine lv_iload hx hb dL_law_410 (lv_at hl 14 rfl) ?_
                          refine lv_iconst (v := 2) hx hb dL_law_412 (by decide) ?_
                          refine lv_icmp_ne (tgt := 481) hx hb dL_law_413 (by decide) (fun c_662 => ?_) (fun c_662 => ?_)
                          · refine lv_iload hx hb dL_law_481 (lv_at hl 14 rfl) ?_
                            refine lv_iconst (v := 3) hx hb dL_law_483 (by decide) ?_
                            refine lv_icmp_ne (tgt := 567) hx hb dL_law_484 (by decide) (fun c_663 => ?_) (fun c_663 => ?_)
                            · refine lv_iload hx hb dL_law_567 (lv_at hl 14 rfl) ?_
                              refine lv_iconst (v := 4) hx hb dL_law_569 (by decide) ?_
                              refine lv_icmp_ne (tgt := 632) hx hb dL_law_570 (by decide) (fun c_664 => ?_) (fun c_664 => ?_)
                              · refine lv_iload hx hb dL_law_632 (lv_at hl 14 rfl) ?_
                                refine lv_bipush (v := 9) hx hb dL_law_634 (by decide) ?_
                                refine lv_icmp_ge (tgt := 711) hx hb dL_law_636 (by decide) (fun c_665 => ?_) (fun c_665 => ?_)
                                · refine lv_iload hx hb dL_law_711 (lv_at hl 14 rfl) ?_
                                  refine lv_bipush (v := 12) hx hb dL_law_713 (by decide) ?_
                                  refine lv_icmp_ge (tgt := 793) hx hb dL_law_715 (by decide) (fun c_666 => ?_) (fun c_666 => ?_)
                                  · refine lv_iload hx hb dL_law_793 (lv_at hl 14 rfl) ?_
                                    refine lv_bipush (v := 18) hx hb dL_law_795 (by decide) ?_
                                    refine lv_icmp_ge (tgt := 985) hx hb dL_law_797 (by decide) (fun c_667 => ?_) (fun c_667 => ?_)
                                    · exact absurd c_667 (nI_ge (a := K) (b := 18) (by omega) (by decide))
                                    · refine lv_aload hx hb dL_law_800 (lv_at hl 8 rfl) ?_
                                      refine lv_iconst (v := 1) hx hb dL_law_802 (by decide) ?_
                                      refine va_iald hx hb hG.1 hP 3 0 rfl rfl (inb_in (by decide)) dL_law_803 ?_
                                      refine lv_topi (fun w_668 ew_668 => ?_)
                                      obtain rfl : w_668 = nn 1 := ew_668.trans (congrArg nn (show ((1 : Int32).toNatClampNeg) = 1 by decide))
                                      refine lv_topi (fun w_669 ew_669 => ?_)
                                      obtain rfl : w_669 = nI n := ew_669.trans hN.2.1
                                      refine lv_bipush (v := 40) hx hb dL_law_804 (by decide) ?_
                                      refine lv_icmp_ge (tgt := 985) hx hb dL_law_806 (by decide) (fun c_670 => ?_) (fun c_670 => ?_)
                                      · exact absurd c_670 (nI_ge (a := n) (b := 40) hnn (by decide))
                                      · refine lv_aload hx hb dL_law_809 (lv_at hl 8 rfl) ?_
                                        refine lv_iconst (v := 2) hx hb dL_law_811 (by decide) ?_
                                        refine va_iald hx hb hG.1 hP 3 0 rfl rfl (inb_in (by decide)) dL_law_812 ?_
                                        refine lv_topi (fun w_671 ew_671 => ?_)
                                        obtain rfl : w_671 = nn 2 := ew_671.trans (congrArg nn (show ((2 : Int32).toNatClampNeg) = 2 by decide))
                                        refine lv_topi (fun w_672 ew_672 => ?_)
                                        obtain rfl : w_672 = nI d := ew_672.trans hN.2.2
                                        refine lv_bipush (v := 64) hx hb dL_law_813 (by decide) ?_
                                        refine lv_icmp_ge (tgt := 985) hx hb dL_law_815 (by decide) (fun c_673 => ?_) (fun c_673 => ?_)
                                        · exact absurd c_673 (nI_ge (a := d) (b := 64) hd (by decide))
                                        · exact qz_B7 X hc hsl I hP hPK hS go hy hT (hK7 (by omega)) hnn hd (lv_sub hl [0, 1, 2, 3, 4, 5, 6, 7, 8, 9, 10, 11, 12, 13, 15] rfl)
                                  · exact absurd (nI_le (a := 12) (b := K) (by omega) (by omega)) c_666
                                · exact absurd (nI_le (a := 9) (b := K) (by omega) (by omega)) c_665
                              · exact absurd c_664 (fun h9 => hK4 ((nI_eq (b := 4) (by omega) (by decide)).mp h9))
                            · exact absurd c_663 (fun h9 => hK3x ((nI_eq (b := 3) (by omega) (by decide)).mp h9))
                          · exact absurd c_662 (fun h9 => hK2 ((nI_eq (b := 2) (by omega) (by decide)).mp h9))
                        · exact absurd c_661 (fun h9 => hK1 ((nI_eq (b := 1) (by omega) (by decide)).mp h9))
                      · exact absurd c_660 (fun h9 => hK0 ((n0 (by omega)).mp h9))
                    · refine lv_iload hx hb dL_law_295 (lv_at hl 14 rfl) ?_
                      refine lv_if_ne (tgt := 351) hx hb dL_law_297 (by decide) (fun c_646 => ?_) (fun c_646 => ?_)
                      · refine lv_iload hx hb dL_law_351 (lv_at hl 14 rfl) ?_
                        refine lv_iconst (v := 1) hx hb dL_law_353 (by decide) ?_
                        refine lv_icmp_ne (tgt := 410) hx hb dL_law_354 (by decide) (fun c_647 => ?_) (fun c_647 => ?_)
                        · refine lv_iload hx hb dL_law_410 (lv_at hl 14 rfl) ?_
                          refine lv_iconst (v := 2) hx hb dL_law_412 (by decide) ?_
                          refine lv_icmp_ne (tgt := 481) hx hb dL_law_413 (by decide) (fun c_648 => ?_) (fun c_648 => ?_)
                          · refine lv_iload hx hb dL_law_481 (lv_at hl 14 rfl) ?_
                            refine lv_iconst (v := 3) hx hb dL_law_483 (by decide) ?_
                            refine lv_icmp_ne (tgt := 567) hx hb dL_law_484 (by decide) (fun c_649 => ?_) (fun c_649 => ?_)
                            · refine lv_iload hx hb dL_law_567 (lv_at hl 14 rfl) ?_
                              refine lv_iconst (v := 4) hx hb dL_law_569 (by decide) ?_
                              refine lv_icmp_ne (tgt := 632) hx hb dL_law_570 (by decide) (fun c_650 => ?_) (fun c_650 => ?_)
                              · refine lv_iload hx hb dL_law_632 (lv_at hl 14 rfl) ?_
                                refine lv_bipush (v := 9) hx hb dL_law_634 (by decide) ?_
                                refine lv_icmp_ge (tgt := 711) hx hb dL_law_636 (by decide) (fun c_651 => ?_) (fun c_651 => ?_)
                                · refine lv_iload hx hb dL_law_711 (lv_at hl 14 rfl) ?_
                                  refine lv_bipush (v := 12) hx hb dL_law_713 (by decide) ?_
                                  refine lv_icmp_ge (tgt := 793) hx hb dL_law_715 (by decide) (fun c_652 => ?_) (fun c_652 => ?_)
                                  · refine lv_iload hx hb dL_law_793 (lv_at hl 14 rfl) ?_
                                    refine lv_bipush (v := 18) hx hb dL_law_795 (by decide) ?_
                                    refine lv_icmp_ge (tgt := 985) hx hb dL_law_797 (by decide) (fun c_653 => ?_) (fun c_653 => ?_)
                                    · exact absurd c_653 (nI_ge (a := K) (b := 18) (by omega) (by decide))
                                    · refine lv_aload hx hb dL_law_800 (lv_at hl 8 rfl) ?_
                                      refine lv_iconst (v := 1) hx hb dL_law_802 (by decide) ?_
                                      refine va_iald hx hb hG.1 hP 3 0 rfl rfl (inb_in (by decide)) dL_law_803 ?_
                                      refine lv_topi (fun w_654 ew_654 => ?_)
                                      obtain rfl : w_654 = nn 1 := ew_654.trans (congrArg nn (show ((1 : Int32).toNatClampNeg) = 1 by decide))
                                      refine lv_topi (fun w_655 ew_655 => ?_)
                                      obtain rfl : w_655 = nI n := ew_655.trans hN.2.1
                                      refine lv_bipush (v := 40) hx hb dL_law_804 (by decide) ?_
                                      refine lv_icmp_ge (tgt := 985) hx hb dL_law_806 (by decide) (fun c_656 => ?_) (fun c_656 => ?_)
                                      · exact absurd c_656 (nI_ge (a := n) (b := 40) hnn (by decide))
                                      · refine lv_aload hx hb dL_law_809 (lv_at hl 8 rfl) ?_
                                        refine lv_iconst (v := 2) hx hb dL_law_811 (by decide) ?_
                                        refine va_iald hx hb hG.1 hP 3 0 rfl rfl (inb_in (by decide)) dL_law_812 ?_
                                        refine lv_topi (fun w_657 ew_657 => ?_)
                                        obtain rfl : w_657 = nn 2 := ew_657.trans (congrArg nn (show ((2 : Int32).toNatClampNeg) = 2 by decide))
                                        refine lv_topi (fun w_658 ew_658 => ?_)
                                        obtain rfl : w_658 = nI d := ew_658.trans hN.2.2
                                        refine lv_bipush (v := 64) hx hb dL_law_813 (by decide) ?_
                                        refine lv_icmp_ge (tgt := 985) hx hb dL_law_815 (by decide) (fun c_659 => ?_) (fun c_659 => ?_)
                                        · exact k985 ls (lv_sub hl [0, 1, 2, 3, 4, 5, 6, 7, 8, 9, 10, 11, 12, 13, 14, 15, 16] rfl)
                                        · exact absurd (nI_le (a := 64) (b := d) (by omega) (by omega)) c_659
                                  · exact absurd (nI_le (a := 12) (b := K) (by omega) (by omega)) c_652
                                · exact absurd (nI_le (a := 9) (b := K) (by omega) (by omega)) c_651
                              · exact absurd c_650 (fun h9 => hK4 ((nI_eq (b := 4) (by omega) (by decide)).mp h9))
                            · exact absurd c_649 (fun h9 => hK3x ((nI_eq (b := 3) (by omega) (by decide)).mp h9))
                          · exact absurd c_648 (fun h9 => hK2 ((nI_eq (b := 2) (by omega) (by decide)).mp h9))
                        · exact absurd c_647 (fun h9 => hK1 ((nI_eq (b := 1) (by omega) (by decide)).mp h9))
                      · exact absurd c_646 (fun h9 => hK0 ((n0 (by omega)).mp h9))
                  · refine lv_iload hx hb dL_law_295 (lv_at hl 14 rfl) ?_
                    refine lv_if_ne (tgt := 351) hx hb dL_law_297 (by decide) (fun c_635 => ?_) (fun c_635 => ?_)
                    · refine lv_iload hx hb dL_law_351 (lv_at hl 14 rfl) ?_
                      refine lv_iconst (v := 1) hx hb dL_law_353 (by decide) ?_
                      refine lv_icmp_ne (tgt := 410) hx hb dL_law_354 (by decide) (fun c_636 => ?_) (fun c_636 => ?_)
                      · refine lv_iload hx hb dL_law_410 (lv_at hl 14 rfl) ?_
                        refine lv_iconst (v := 2) hx hb dL_law_412 (by decide) ?_
                        refine lv_icmp_ne (tgt := 481) hx hb dL_law_413 (by decide) (fun c_637 => ?_) (fun c_637 => ?_)
                        · refine lv_iload hx hb dL_law_481 (lv_at hl 14 rfl) ?_
                          refine lv_iconst (v := 3) hx hb dL_law_483 (by decide) ?_
                          refine lv_icmp_ne (tgt := 567) hx hb dL_law_484 (by decide) (fun c_638 => ?_) (fun c_638 => ?_)
                          · refine lv_iload hx hb dL_law_567 (lv_at hl 14 rfl) ?_
                            refine lv_iconst (v := 4) hx hb dL_law_569 (by decide) ?_
                            refine lv_icmp_ne (tgt := 632) hx hb dL_law_570 (by decide) (fun c_639 => ?_) (fun c_639 => ?_)
                            · refine lv_iload hx hb dL_law_632 (lv_at hl 14 rfl) ?_
                              refine lv_bipush (v := 9) hx hb dL_law_634 (by decide) ?_
                              refine lv_icmp_ge (tgt := 711) hx hb dL_law_636 (by decide) (fun c_640 => ?_) (fun c_640 => ?_)
                              · refine lv_iload hx hb dL_law_711 (lv_at hl 14 rfl) ?_
                                refine lv_bipush (v := 12) hx hb dL_law_713 (by decide) ?_
                                refine lv_icmp_ge (tgt := 793) hx hb dL_law_715 (by decide) (fun c_641 => ?_) (fun c_641 => ?_)
                                · refine lv_iload hx hb dL_law_793 (lv_at hl 14 rfl) ?_
                                  refine lv_bipush (v := 18) hx hb dL_law_795 (by decide) ?_
                                  refine lv_icmp_ge (tgt := 985) hx hb dL_law_797 (by decide) (fun c_642 => ?_) (fun c_642 => ?_)
                                  · exact absurd c_642 (nI_ge (a := K) (b := 18) (by omega) (by decide))
                                  · refine lv_aload hx hb dL_law_800 (lv_at hl 8 rfl) ?_
                                    refine lv_iconst (v := 1) hx hb dL_law_802 (by decide) ?_
                                    refine va_iald hx hb hG.1 hP 3 0 rfl rfl (inb_in (by decide)) dL_law_803 ?_
                                    refine lv_topi (fun w_643 ew_643 => ?_)
                                    obtain rfl : w_643 = nn 1 := ew_643.trans (congrArg nn (show ((1 : Int32).toNatClampNeg) = 1 by decide))
                                    refine lv_topi (fun w_644 ew_644 => ?_)
                                    obtain rfl : w_644 = nI n := ew_644.trans hN.2.1
                                    refine lv_bipush (v := 40) hx hb dL_law_804 (by decide) ?_
                                    refine lv_icmp_ge (tgt := 985) hx hb dL_law_806 (by decide) (fun c_645 => ?_) (fun c_645 => ?_)
                                    · exact k985 ls (lv_sub hl [0, 1, 2, 3, 4, 5, 6, 7, 8, 9, 10, 11, 12, 13, 14, 15, 16] rfl)
                                    · exact absurd (nI_le (a := 40) (b := n) (by omega) (by omega)) c_645
                                · exact absurd (nI_le (a := 12) (b := K) (by omega) (by omega)) c_641
                              · exact absurd (nI_le (a := 9) (b := K) (by omega) (by omega)) c_640
                            · exact absurd c_639 (fun h9 => hK4 ((nI_eq (b := 4) (by omega) (by decide)).mp h9))
                          · exact absurd c_638 (fun h9 => hK3x ((nI_eq (b := 3) (by omega) (by decide)).mp h9))
                        · exact absurd c_637 (fun h9 => hK2 ((nI_eq (b := 2) (by omega) (by decide)).mp h9))
                      · exact absurd c_636 (fun h9 => hK1 ((nI_eq (b := 1) (by omega) (by decide)).mp h9))
                    · exact absurd c_635 (fun h9 => hK0 ((n0 (by omega)).mp h9))
                · refine lv_iload hx hb dL_law_295 (lv_at hl 14 rfl) ?_
                  refine lv_if_ne (tgt := 351) hx hb dL_law_297 (by decide) (fun c_627 => ?_) (fun c_627 => ?_)
                  · refine lv_iload hx hb dL_law_351 (lv_at hl 14 rfl) ?_
                    refine lv_iconst (v := 1) hx hb dL_law_353 (by decide) ?_
                    refine lv_icmp_ne (tgt := 410) hx hb dL_law_354 (by decide) (fun c_628 => ?_) (fun c_628 => ?_)
                    · refine lv_iload hx hb dL_law_410 (lv_at hl 14 rfl) ?_
                      refine lv_iconst (v := 2) hx hb dL_law_412 (by decide) ?_
                      refine lv_icmp_ne (tgt := 481) hx hb dL_law_413 (by decide) (fun c_629 => ?_) (fun c_629 => ?_)
                      · refine lv_iload hx hb dL_law_481 (lv_at hl 14 rfl) ?_
                        refine lv_iconst (v := 3) hx hb dL_law_483 (by decide) ?_
                        refine lv_icmp_ne (tgt := 567) hx hb dL_law_484 (by decide) (fun c_630 => ?_) (fun c_630 => ?_)
                        · refine lv_iload hx hb dL_law_567 (lv_at hl 14 rfl) ?_
                          refine lv_iconst (v := 4) hx hb dL_law_569 (by decide) ?_
                          refine lv_icmp_ne (tgt := 632) hx hb dL_law_570 (by decide) (fun c_631 => ?_) (fun c_631 => ?_)
                          · refine lv_iload hx hb dL_law_632 (lv_at hl 14 rfl) ?_
                            refine lv_bipush (v := 9) hx hb dL_law_634 (by decide) ?_
                            refine lv_icmp_ge (tgt := 711) hx hb dL_law_636 (by decide) (fun c_632 => ?_) (fun c_632 => ?_)
                            · refine lv_iload hx hb dL_law_711 (lv_at hl 14 rfl) ?_
                              refine lv_bipush (v := 12) hx hb dL_law_713 (by decide) ?_
                              refine lv_icmp_ge (tgt := 793) hx hb dL_law_715 (by decide) (fun c_633 => ?_) (fun c_633 => ?_)
                              · refine lv_iload hx hb dL_law_793 (lv_at hl 14 rfl) ?_
                                refine lv_bipush (v := 18) hx hb dL_law_795 (by decide) ?_
                                refine lv_icmp_ge (tgt := 985) hx hb dL_law_797 (by decide) (fun c_634 => ?_) (fun c_634 => ?_)
                                · exact k985 ls (lv_sub hl [0, 1, 2, 3, 4, 5, 6, 7, 8, 9, 10, 11, 12, 13, 14, 15, 16] rfl)
                                · exact absurd (nI_le (a := 18) (b := K) (by omega) (by omega)) c_634
                              · exact absurd (nI_le (a := 12) (b := K) (by omega) (by omega)) c_633
                            · exact absurd (nI_le (a := 9) (b := K) (by omega) (by omega)) c_632
                          · exact absurd c_631 (fun h9 => hK4 ((nI_eq (b := 4) (by omega) (by decide)).mp h9))
                        · exact absurd c_630 (fun h9 => hK3x ((nI_eq (b := 3) (by omega) (by decide)).mp h9))
                      · exact absurd c_629 (fun h9 => hK2 ((nI_eq (b := 2) (by omega) (by decide)).mp h9))
                    · exact absurd c_628 (fun h9 => hK1 ((nI_eq (b := 1) (by omega) (by decide)).mp h9))
                  · exact absurd c_627 (fun h9 => hK0 ((n0 (by omega)).mp h9))
end LAW
