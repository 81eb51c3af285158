theorem cq_mx {n : Nat} (hn : n < 2147483648) : jmax 0 (nI n) = nI n := by
  unfold jmax
  split
  · rfl
  · rename_i h
    rcases Nat.eq_zero_or_pos n with rfl | h1
    · rfl
    · exact absurd (nI_lt h1 hn) h
set_option maxHeartbeats 4000000 in
set_option maxRecDepth 100000 in
theorem ct_X4_init (l : Launch) (D : va_G) (Y : cq_Y) (h n : Nat) (x v : Int32) (sz : Nat) (hxN : x = nI n) (hn : n < 2147483648) (hnb : n * 4 ≤ 536870912) : cq_MI l yX4_init wsX4_init (cq_rx 1 1 n 23) D Y ([(h, .inr (4, [.null]))]) [.ref h, .int x, .int v] sz (fun _ => True) (fun a => cl_row Y h (a 0 0) n (m_J7_fill_53178 n (fun _ => 0) v)) 1 n := by
  refine cq_bodyI (cc := cX4_init) (maxL := 3) (ret := none) (by decide) rfl (Nat.le_of_ble_eq_true rfl) ?_
  intro p e s m below meth c A hAe hA hE hP hG hD ls hl
  obtain ⟨hx, hb, hr, hml, hts, hown, hnm, hlocks⟩ := hE
  have hown : s.vm.findClass RX4 = some m.cls := hown
  have hnm : meth.name = "<init>" := hnm
  have hS : va_S A s.heap s.heap [] := va_S.rf
  have hl : lv_has ls 3 [(0, .ref h), (1, .int x), (2, .int v)] := hl
  have hns : 0 + n ≤ (cq_rx 1 1 n 23).slots := Nat.le_of_eq (Nat.zero_add n)
  refine lv_aload_n hx hb dX4_init_0 rfl (lv_at hl 0 rfl) ?_
  refine W.objInit hx hb hown (hts (.methodLink RX4 3 objectInit) (List.mem_of_getElem? (i := 1) rfl)) (hts (.instanceMethod objectInit) (List.mem_of_getElem? (i := 2) rfl)) (hts (.code objectInit ⟨#[0xb1]⟩ 1 none) (List.mem_of_getElem? (i := 3) rfl)) rfl (by rw [hml]; exact hl.1) rfl dX4_init_1 (Nat.le_of_ble_eq_true rfl) (Nat.le_of_ble_eq_true rfl) ?_
  refine W.eq (g2 := F0 m 4 ls []) rfl ?_
  refine lv_aload_n hx hb dX4_init_4 rfl (lv_at hl 0 rfl) ?_
  refine lv_iconst (v := 0) hx hb dX4_init_5 (by decide) ?_
  refine lv_iload_n hx hb dX4_init_6 rfl (lv_at hl 1 rfl) ?_
  refine va_mmax (R := (cq_rx 1 1 n 23)) hx hb (by rw [hml]; exact hl.1.symm) hown (hts (.methodLink RX4 9 Lib.Math.max.name) (List.mem_of_getElem? (i := 4) rfl)) (hts _ (List.mem_of_getElem? (i := 5) rfl)) (hts _ (List.mem_of_getElem? (i := 6) rfl)) (hts _ (List.mem_of_getElem? (i := 7) rfl)) (Nat.le_of_ble_eq_true rfl) (Nat.le_of_ble_eq_true rfl) (Nat.zero_le _) (Nat.zero_le _) dX4_init_7 ?_
  change W _ _ _ _ _ _ _ _ _ _ _ _ _ _ _ (F0 m 10 _ (.int (jmax 0 x) :: _))
  rw [show jmax 0 x = nI n from by rw [hxN]; exact cq_mx hn]
  refine cq_newI (N' := n) hx hb (hts (.arrayClass .int) (List.mem_of_getElem? (i := 8) rfl)) hG hP hD hS hA (nI_pos hn) (nI_clamp hn) hnb (Nat.le_of_ble_eq_true rfl) hns dX4_init_10 (fun q_1 H hP hD hS => ?_)
  have hP : va_P D vwCl ([(h, .inr (4, [.null]))] ++ ([(q_1, .inl (Y.1, n, .inl (fun _ => 0)))])) H := hP
  have hD : va_D A ([(h, .inr (4, [.null]))] ++ ([(q_1, .inl (Y.1, n, .inl (fun _ => 0)))])) := hD
  refine va_putF (D := D) (ci := 4) (v := .ref q_1) (ty := (.array .int)) (C := RX4) (T := TX4) (N := 1) hx hb hts (fun _ h => List.mem_cons_of_mem _ (List.mem_append_right _ h)) tyX4 tyX4_ok nmX4 hown hG.1 hP hD hS 0 rfl rfl 0 (by decide) (hts (.fieldLink RX4 15 "CatalogueLoader$Row" "cells" "[I") (List.mem_of_getElem? (i := 9) rfl)) (fun _ h9 => h9) rfl hnm rfl (by decide +kernel) rfl rfl (Nat.le_of_ble_eq_true rfl) dX4_init_12 (fun H locs hP hD hS => ?_)
  have hP : va_P D vwCl ([(h, .inr (4, [.ref q_1]))] ++ ([(q_1, .inl (Y.1, n, .inl (fun _ => 0)))])) H := hP
  have hD : va_D A ([(h, .inr (4, [.ref q_1]))] ++ ([(q_1, .inl (Y.1, n, .inl (fun _ => 0)))])) := hD
  refine lv_aload_n hx hb dX4_init_15 rfl (lv_at hl 0 rfl) ?_
  refine va_get (D := D) (ci := 4) (v := .ref q_1) (C := RX4) (T := TX4) (N := 1) hx hb hts (fun _ h => List.mem_cons_of_mem _ (List.mem_append_right _ h)) hown hG.1 hP 0 rfl rfl 0 (by decide) (hts (.fieldLink RX4 15 "CatalogueLoader$Row" "cells" "[I") (List.mem_of_getElem? (i := 9) rfl)) (fun _ h9 => h9) rfl dX4_init_16 ?_
  refine lv_iload_n hx hb dX4_init_19 rfl (lv_at hl 2 rfl) ?_
  refine cq_WS (R := (cq_rx 1 1 n 23)) (args := ([.ref h, .int x, .int v] : List Value).toArray) (y := yJ7_fill_53178) (bytes := cJ7_fill_53178) (cc := cX4_init) (maxL := 4) (nL := 3) (n := 2) (index := 21) (ret := none) (ws := wsJ7_fill_53178) (rm := cq_rm 0 0) (Ts := wsX4_init) (own := RX4) (D := D) (Y := Y) (W0 := cl_arr Y q_1 n (fun _ => 0)) (wl := [(h, .inr (4, [.ref q_1]))] ++ ([(q_1, .inl (Y.1, n, .inl (fun _ => 0)))])) (v := none) (st0 := [.int v, .ref q_1]) (As := [.ref q_1, .int v]) (rest := []) (W1 := cl_arr Y q_1 n (m_J7_fill_53178 n (fun _ => 0) v)) ([(h, .inr (4, [.ref q_1]))] ++ ([(q_1, .inl (Y.1, n, .inl (m_J7_fill_53178 n (fun _ => 0) v)))])) [0] ⟨hx, hb, hml, hown, hts⟩ (ct_J7_fill_53178 l D Y q_1 n (fun _ => 0) v hn) (va_cwS 2 hts gX4_init_J7_fill_53178 rfl rfl rfl (by decide +kernel) ⟨Nat.le_of_ble_eq_true rfl, Nat.le_of_ble_eq_true rfl⟩) hG hP hD hS [1] rfl (by decide +kernel) ⟨rfl, ⟨[(h, .inr (4, [.ref q_1]))], rfl, rfl⟩, 2, rfl, by decide +kernel⟩ ⟨[q_1], rfl, rfl⟩ rfl hl.1 rfl (Nat.le_of_ble_eq_true rfl) dX4_init_20 ⟨Nat.le_of_ble_eq_true rfl, hns⟩ (fun H locs hP hD hS => ?_)
  change W _ _ _ _ _ _ _ _ _ _ _ _ _ _ _ (F0 m 23 _ [])
  exact cq_retC (wl := [(h, .inr (4, [.ref q_1]))] ++ ([(q_1, .inl (Y.1, n, .inl (m_J7_fill_53178 n (fun _ => 0) v)))])) (fun _ _ => q_1) [0, 1] hx hb hr hlocks hAe hP hD hS trivial (by decide +kernel) rfl (Nat.le_of_ble_eq_true rfl) (Nat.le_of_eq (Nat.zero_add _)) dX4_init_23

set_option maxHeartbeats 4000000 in
set_option maxRecDepth 100000 in
theorem ct_X1_init (l : Launch) (D : va_G) (Y : cq_Y) (h n : Nat) (gr gc v : Int32) (sz : Nat) (hxN : gr * gc = nI n) (hn : n < 2147483648) (hnb : n * 4 ≤ 536870912) : cq_MI l yX1_init wsX1_init (cq_rx 1 1 n 23) D Y ([(h, .inr (1, [.int 0, .int 0, .null]))]) [.ref h, .int gr, .int gc, .int v] sz (fun _ => True) (fun a => cl_grd Y h (a 0 0) gr gc n (m_J7_fill_53178 n (fun _ => 0) v)) 1 n := by
  refine cq_bodyI (cc := cX1_init) (maxL := 4) (ret := none) (by decide) rfl (Nat.le_of_ble_eq_true rfl) ?_
  intro p e s m below meth c A hAe hA hE hP hG hD ls hl
  obtain ⟨hx, hb, hr, hml, hts, hown, hnm, hlocks⟩ := hE
  have hown : s.vm.findClass RX1 = some m.cls := hown
  have hnm : meth.name = "<init>" := hnm
  have hS : va_S A s.heap s.heap [] := va_S.rf
  have hl : lv_has ls 4 [(0, .ref h), (1, .int gr), (2, .int gc), (3, .int v)] := hl
  have hns : 0 + n ≤ (cq_rx 1 1 n 23).slots := Nat.le_of_eq (Nat.zero_add n)
  refine lv_aload_n hx hb dX1_init_0 rfl (lv_at hl 0 rfl) ?_
  refine W.objInit hx hb hown (hts (.methodLink RX1 3 objectInit) (List.mem_of_getElem? (i := 1) rfl)) (hts (.instanceMethod objectInit) (List.mem_of_getElem? (i := 2) rfl)) (hts (.code objectInit ⟨#[0xb1]⟩ 1 none) (List.mem_of_getElem? (i := 3) rfl)) rfl (by rw [hml]; exact hl.1) rfl dX1_init_1 (Nat.le_of_ble_eq_true rfl) (Nat.le_of_ble_eq_true rfl) ?_
  refine W.eq (g2 := F0 m 4 ls []) rfl ?_
  refine lv_aload_n hx hb dX1_init_4 rfl (lv_at hl 0 rfl) ?_
  refine lv_iload_n hx hb dX1_init_5 rfl (lv_at hl 1 rfl) ?_
  refine va_putF (D := D) (ci := 1) (v := .int gr) (ty := .int) (C := RX1) (T := TX1) (N := 3) hx hb hts (fun _ h => List.mem_cons_of_mem _ (List.mem_append_right _ h)) tyX1 tyX1_ok nmX1 hown hG.1 hP hD hS 0 rfl rfl 0 (by decide) (hts (.fieldLink RX1 9 "CatalogueLoader$Grid" "lines" "I") (List.mem_of_getElem? (i := 4) rfl)) (fun _ h9 => h9) rfl hnm rfl (by decide +kernel) rfl rfl (Nat.le_of_ble_eq_true rfl) dX1_init_6 (fun H locs hP hD hS => ?_)
  have hP : va_P D vwCl ([(h, .inr (1, [.int gr, .int 0, .null]))]) H := hP
  have hD : va_D A ([(h, .inr (1, [.int gr, .int 0, .null]))]) := hD
  refine lv_aload_n hx hb dX1_init_9 rfl (lv_at hl 0 rfl) ?_
  refine lv_iload_n hx hb dX1_init_10 rfl (lv_at hl 2 rfl) ?_
  refine va_putF (D := D) (ci := 1) (v := .int gc) (ty := .int) (C := RX1) (T := TX1) (N := 3) hx hb hts (fun _ h => List.mem_cons_of_mem _ (List.mem_append_right _ h)) tyX1 tyX1_ok nmX1 hown hG.1 hP hD hS 0 rfl rfl 1 (by decide) (hts (.fieldLink RX1 15 "CatalogueLoader$Grid" "columns" "I") (List.mem_of_getElem? (i := 5) rfl)) (fun _ h9 => h9) rfl hnm rfl (by decide +kernel) rfl rfl (Nat.le_of_ble_eq_true rfl) dX1_init_11 (fun H locs hP hD hS => ?_)
  have hP : va_P D vwCl ([(h, .inr (1, [.int gr, .int gc, .null]))]) H := hP
  have hD : va_D A ([(h, .inr (1, [.int gr, .int gc, .null]))]) := hD
  refine lv_aload_n hx hb dX1_init_14 rfl (lv_at hl 0 rfl) ?_
  refine lv_iconst (v := 0) hx hb dX1_init_15 (by decide) ?_
  refine lv_iload_n hx hb dX1_init_16 rfl (lv_at hl 1 rfl) ?_
  refine lv_iload_n hx hb dX1_init_17 rfl (lv_at hl 2 rfl) ?_
  refine lv_imul hx hb dX1_init_18 ?_
  refine va_mmax (R := (cq_rx 1 1 n 23)) hx hb (by rw [hml]; exact hl.1.symm) hown (hts (.methodLink RX1 18 Lib.Math.max.name) (List.mem_of_getElem? (i := 6) rfl)) (hts _ (List.mem_of_getElem? (i := 7) rfl)) (hts _ (List.mem_of_getElem? (i := 8) rfl)) (hts _ (List.mem_of_getElem? (i := 9) rfl)) (Nat.le_of_ble_eq_true rfl) (Nat.le_of_ble_eq_true rfl) (Nat.zero_le _) (Nat.zero_le _) dX1_init_19 ?_
  change W _ _ _ _ _ _ _ _ _ _ _ _ _ _ _ (F0 m 22 _ (.int (jmax 0 (gr * gc)) :: _))
  rw [show jmax 0 (gr * gc) = nI n from by rw [hxN]; exact cq_mx hn]
  refine cq_newI (N' := n) hx hb (hts (.arrayClass .int) (List.mem_of_getElem? (i := 10) rfl)) hG hP hD hS hA (nI_pos hn) (nI_clamp hn) hnb (Nat.le_of_ble_eq_true rfl) hns dX1_init_22 (fun q_1 H hP hD hS => ?_)
  have hP : va_P D vwCl ([(h, .inr (1, [.int gr, .int gc, .null]))] ++ ([(q_1, .inl (Y.1, n, .inl (fun _ => 0)))])) H := hP
  have hD : va_D A ([(h, .inr (1, [.int gr, .int gc, .null]))] ++ ([(q_1, .inl (Y.1, n, .inl (fun _ => 0)))])) := hD
  refine va_putF (D := D) (ci := 1) (v := .ref q_1) (ty := (.array .int)) (C := RX1) (T := TX1) (N := 3) hx hb hts (fun _ h => List.mem_cons_of_mem _ (List.mem_append_right _ h)) tyX1 tyX1_ok nmX1 hown hG.1 hP hD hS 0 rfl rfl 2 (by decide) (hts (.fieldLink RX1 24 "CatalogueLoader$Grid" "cells" "[I") (List.mem_of_getElem? (i := 11) rfl)) (fun _ h9 => h9) rfl hnm rfl (by decide +kernel) rfl rfl (Nat.le_of_ble_eq_true rfl) dX1_init_24 (fun H locs hP hD hS => ?_)
  have hP : va_P D vwCl ([(h, .inr (1, [.int gr, .int gc, .ref q_1]))] ++ ([(q_1, .inl (Y.1, n, .inl (fun _ => 0)))])) H := hP
  have hD : va_D A ([(h, .inr (1, [.int gr, .int gc, .ref q_1]))] ++ ([(q_1, .inl (Y.1, n, .inl (fun _ => 0)))])) := hD
  refine lv_aload_n hx hb dX1_init_27 rfl (lv_at hl 0 rfl) ?_
  refine va_get (D := D) (ci := 1) (v := .ref q_1) (C := RX1) (T := TX1) (N := 3) hx hb hts (fun _ h => List.mem_cons_of_mem _ (List.mem_append_right _ h)) hown hG.1 hP 0 rfl rfl 2 (by decide) (hts (.fieldLink RX1 24 "CatalogueLoader$Grid" "cells" "[I") (List.mem_of_getElem? (i := 11) rfl)) (fun _ h9 => h9) rfl dX1_init_28 ?_
  refine lv_iload_n hx hb dX1_init_31 rfl (lv_at hl 3 rfl) ?_
  refine cq_WS (R := (cq_rx 1 1 n 23)) (args := ([.ref h, .int gr, .int gc, .int v] : List Value).toArray) (y := yJ7_fill_53178) (bytes := cJ7_fill_53178) (cc := cX1_init) (maxL := 4) (nL := 4) (n := 2) (index := 28) (ret := none) (ws := wsJ7_fill_53178) (rm := cq_rm 0 0) (Ts := wsX1_init) (own := RX1) (D := D) (Y := Y) (W0 := cl_arr Y q_1 n (fun _ => 0)) (wl := [(h, .inr (1, [.int gr, .int gc, .ref q_1]))] ++ ([(q_1, .inl (Y.1, n, .inl (fun _ => 0)))])) (v := none) (st0 := [.int v, .ref q_1]) (As := [.ref q_1, .int v]) (rest := []) (W1 := cl_arr Y q_1 n (m_J7_fill_53178 n (fun _ => 0) v)) ([(h, .inr (1, [.int gr, .int gc, .ref q_1]))] ++ ([(q_1, .inl (Y.1, n, .inl (m_J7_fill_53178 n (fun _ => 0) v)))])) [0] ⟨hx, hb, hml, hown, hts⟩ (ct_J7_fill_53178 l D Y q_1 n (fun _ => 0) v hn) (va_cwS 2 hts gX1_init_J7_fill_53178 rfl rfl rfl (by decide +kernel) ⟨Nat.le_of_ble_eq_true rfl, Nat.le_of_ble_eq_true rfl⟩) hG hP hD hS [1] rfl (by decide +kernel) ⟨rfl, ⟨[(h, .inr (1, [.int gr, .int gc, .ref q_1]))], rfl, rfl⟩, 2, rfl, by decide +kernel⟩ ⟨[q_1], rfl, rfl⟩ rfl hl.1 rfl (Nat.le_of_ble_eq_true rfl) dX1_init_32 ⟨Nat.le_of_ble_eq_true rfl, hns⟩ (fun H locs hP hD hS => ?_)
  change W _ _ _ _ _ _ _ _ _ _ _ _ _ _ _ (F0 m 35 _ [])
  exact cq_retC (wl := [(h, .inr (1, [.int gr, .int gc, .ref q_1]))] ++ ([(q_1, .inl (Y.1, n, .inl (m_J7_fill_53178 n (fun _ => 0) v)))])) (fun _ _ => q_1) [0, 1] hx hb hr hlocks hAe hP hD hS trivial (by decide +kernel) rfl (Nat.le_of_ble_eq_true rfl) (Nat.le_of_eq (Nat.zero_add _)) dX1_init_35

