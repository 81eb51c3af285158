/-! THE LAW'S OWN METHODS: rows of longs -/
abbrev FL : Type := Nat → Int64
abbrev cl_lar (Y : cq_Y) (b n : Nat) (f : FL) : va_W := [(b, .inl (Y.2.2, n, .inr (.inl f)))]
theorem cq_rJ {p : Program} {l : Launch} {e : Env} {R : Room} {s : State} {m : MethodId} {args : Array Value} {below : List Frame} {meth : Method} {c : Code} {cc : ByteArray} {pc : Nat} {ls : Array Slot} {free : Addr → Prop} {v : Option Value} {x : Int64} (hx : p.tables.exec = Jvm.exec) (hb : c.code = cc) (hr : meth.sig.returnType = some .long) (hlocks : meth.locks = false) (hv : v = some (.long x)) (hdg : decode cc pc = .ok (.lreturn, 1)) : W p l e R s m args below meth c s.heap [] 0 0 (MQ below (cq_R v) args s 0 0 free) (F0 m pc ls [.long x]) :=
  W.lret hx hb hr (fun t ht _ => ⟨by rw [hv], ht⟩) (fun _ h => by cases h) hdg hlocks
def m_L_key (v : Int64) (k : Int32) : Int32 := ((v >>> ((6 * k).toInt64 &&& 63)) &&& (63 : Int64)).toInt32
set_option maxHeartbeats 4000000 in
set_option maxRecDepth 100000 in
theorem ct_L_key (l : Launch) (D : va_G) (Y : cq_Y) (v : Int64) (k : Int32) : cq_MR l yL_key wsL_key (cq_rm 0 0) D Y (([] : va_W)) [.long v, .int k] (some (.int (m_L_key v k))) := by
  refine cq_body (cc := cL_key) (maxL := 3) (ret := (some .int)) (by decide) rfl (Nat.le_of_ble_eq_true rfl) ?_
  intro p e s m below meth c hE hP hG hD ls hl
  obtain ⟨hx, hb, hr, hml, hts, hown, hnm, hlocks⟩ := hE
  have hown : s.vm.findClass RL = some m.cls := hown
  have hl : lv_has ls 3 [(0, .long v), (2, .int k)] := hl
  refine lv_lload_n hx hb dL_key_0 rfl (lv_at hl 0 rfl) ?_
  refine lv_bipush (v := 6) hx hb dL_key_1 (by decide) ?_
  refine lv_iload_n hx hb dL_key_3 rfl (lv_at hl 1 rfl) ?_
  refine lv_imul hx hb dL_key_4 ?_
  refine lv_lshr (v := v >>> ((6 * k).toInt64 &&& 63)) hx hb dL_key_5 rfl ?_
  refine lv_ldc2 (v := 63) hx hb hown (hts (.constantLong RL 7 63) (List.mem_of_getElem? (i := 1) rfl)) dL_key_6 ?_
  refine lv_land hx hb dL_key_9 ?_
  refine lv_l2i (v := ((v >>> ((6 * k).toInt64 &&& 63)) &&& (63 : Int64)).toInt32) hx hb dL_key_10 rfl ?_
  exact cq_rI hx hb hr hlocks (vp_nar_int _) (by simp only [m_L_key, ↓reduceIte, if_true, if_false]) dL_key_11

def m_L_field (v : Int64) (k : Int32) : Int32 := ((v >>> ((18 + (7 * k)).toInt64 &&& 63)) &&& (127 : Int64)).toInt32
set_option maxHeartbeats 4000000 in
set_option maxRecDepth 100000 in
theorem ct_L_field (l : Launch) (D : va_G) (Y : cq_Y) (v : Int64) (k : Int32) : cq_MR l yL_field wsL_field (cq_rm 0 0) D Y (([] : va_W)) [.long v, .int k] (some (.int (m_L_field v k))) := by
  refine cq_body (cc := cL_field) (maxL := 3) (ret := (some .int)) (by decide) rfl (Nat.le_of_ble_eq_true rfl) ?_
  intro p e s m below meth c hE hP hG hD ls hl
  obtain ⟨hx, hb, hr, hml, hts, hown, hnm, hlocks⟩ := hE
  have hown : s.vm.findClass RL = some m.cls := hown
  have hl : lv_has ls 3 [(0, .long v), (2, .int k)] := hl
  refine lv_lload_n hx hb dL_field_0 rfl (lv_at hl 0 rfl) ?_
  refine lv_bipush (v := 18) hx hb dL_field_1 (by decide) ?_
  refine lv_bipush (v := 7) hx hb dL_field_3 (by decide) ?_
  refine lv_iload_n hx hb dL_field_5 rfl (lv_at hl 1 rfl) ?_
  refine lv_imul hx hb dL_field_6 ?_
  refine lv_iadd hx hb dL_field_7 ?_
  refine lv_lshr (v := v >>> ((18 + (7 * k)).toInt64 &&& 63)) hx hb dL_field_8 rfl ?_
  refine lv_ldc2 (v := 127) hx hb hown (hts (.constantLong RL 9 127) (List.mem_of_getElem? (i := 1) rfl)) dL_field_9 ?_
  refine lv_land hx hb dL_field_12 ?_
  refine lv_l2i (v := ((v >>> ((18 + (7 * k)).toInt64 &&& 63)) &&& (127 : Int64)).toInt32) hx hb dL_field_13 rfl ?_
  exact cq_rI hx hb hr hlocks (vp_nar_int _) (by simp only [m_L_field, ↓reduceIte, if_true, if_false]) dL_field_14

def m_L_source (v : Int64) (k : Int32) : Int32 := ((v >>> ((46 + (3 * k)).toInt64 &&& 63)) &&& (7 : Int64)).toInt32
set_option maxHeartbeats 4000000 in
set_option maxRecDepth 100000 in
theorem ct_L_source (l : Launch) (D : va_G) (Y : cq_Y) (v : Int64) (k : Int32) : cq_MR l yL_source wsL_source (cq_rm 0 0) D Y (([] : va_W)) [.long v, .int k] (some (.int (m_L_source v k))) := by
  refine cq_body (cc := cL_source) (maxL := 3) (ret := (some .int)) (by decide) rfl (Nat.le_of_ble_eq_true rfl) ?_
  intro p e s m below meth c hE hP hG hD ls hl
  obtain ⟨hx, hb, hr, hml, hts, hown, hnm, hlocks⟩ := hE
  have hown : s.vm.findClass RL = some m.cls := hown
  have hl : lv_has ls 3 [(0, .long v), (2, .int k)] := hl
  refine lv_lload_n hx hb dL_source_0 rfl (lv_at hl 0 rfl) ?_
  refine lv_bipush (v := 46) hx hb dL_source_1 (by decide) ?_
  refine lv_iconst (v := 3) hx hb dL_source_3 (by decide) ?_
  refine lv_iload_n hx hb dL_source_4 rfl (lv_at hl 1 rfl) ?_
  refine lv_imul hx hb dL_source_5 ?_
  refine lv_iadd hx hb dL_source_6 ?_
  refine lv_lshr (v := v >>> ((46 + (3 * k)).toInt64 &&& 63)) hx hb dL_source_7 rfl ?_
  refine lv_ldc2 (v := 7) hx hb hown (hts (.constantLong RL 11 7) (List.mem_of_getElem? (i := 1) rfl)) dL_source_8 ?_
  refine lv_land hx hb dL_source_11 ?_
  refine lv_l2i (v := ((v >>> ((46 + (3 * k)).toInt64 &&& 63)) &&& (7 : Int64)).toInt32) hx hb dL_source_12 rfl ?_
  exact cq_rI hx hb hr hlocks (vp_nar_int _) (by simp only [m_L_source, ↓reduceIte, if_true, if_false]) dL_source_13

def m_L_isKept (v : Int64) (k : Int32) : Int32 := (if lg_cmp ((v >>> ((58 + k).toInt64 &&& 63)) &&& (1 : Int64)) (1 : Int64) = 0 then 1 else 0)
set_option maxHeartbeats 4000000 in
set_option maxRecDepth 100000 in
theorem ct_L_isKept (l : Launch) (D : va_G) (Y : cq_Y) (v : Int64) (k : Int32) : cq_MR l yL_isKept wsL_isKept (cq_rm 0 0) D Y (([] : va_W)) [.long v, .int k] (some (.int (m_L_isKept v k))) := by
  refine cq_body (cc := cL_isKept) (maxL := 3) (ret := (some .boolean)) (by decide) rfl (Nat.le_of_ble_eq_true rfl) ?_
  intro p e s m below meth c hE hP hG hD ls hl
  obtain ⟨hx, hb, hr, hml, hts, hown, hnm, hlocks⟩ := hE
  have hown : s.vm.findClass RL = some m.cls := hown
  have hl : lv_has ls 3 [(0, .long v), (2, .int k)] := hl
  refine lv_lload_n hx hb dL_isKept_0 rfl (lv_at hl 0 rfl) ?_
  refine lv_bipush (v := 58) hx hb dL_isKept_1 (by decide) ?_
  refine lv_iload_n hx hb dL_isKept_3 rfl (lv_at hl 1 rfl) ?_
  refine lv_iadd hx hb dL_isKept_4 ?_
  refine lv_lshr (v := v >>> ((58 + k).toInt64 &&& 63)) hx hb dL_isKept_5 rfl ?_
  refine lv_lconst (v := 1) hx hb dL_isKept_6 (by decide) ?_
  refine lv_land hx hb dL_isKept_7 ?_
  refine lv_lconst (v := 1) hx hb dL_isKept_8 (by decide) ?_
  refine W.lcmp hx hb dL_isKept_9 ?_
  refine lv_if_ne (tgt := 17) hx hb dL_isKept_10 (by decide) (fun c_1 => ?_) (fun c_1 => ?_)
  · refine lv_iconst (v := 0) hx hb dL_isKept_17 (by decide) ?_
    exact cq_rI hx hb hr hlocks rfl (by simp only [m_L_isKept, eq_false c_1, ↓reduceIte, if_true, if_false]) dL_isKept_18
  · refine lv_iconst (v := 1) hx hb dL_isKept_13 (by decide) ?_
    refine lv_goto (tgt := 18) hx hb dL_isKept_14 (by decide) ?_
    exact cq_rI hx hb hr hlocks rfl (by simp only [m_L_isKept, eq_true c_1, ↓reduceIte, if_true, if_false]) dL_isKept_18
theorem nb_L_isKept (v : Int64) (k : Int32) : narrow .boolean (.int (m_L_isKept v k)) = .int (m_L_isKept v k) := by unfold m_L_isKept; (try dsimp only); (repeat' split) <;> rfl

def m_L_isIn (v : Int64) : Int32 := (if lg_cmp ((v >>> ((62 : Int32).toInt64 &&& 63)) &&& (1 : Int64)) (1 : Int64) = 0 then 1 else 0)
set_option maxHeartbeats 4000000 in
set_option maxRecDepth 100000 in
theorem ct_L_isIn (l : Launch) (D : va_G) (Y : cq_Y) (v : Int64) : cq_MR l yL_isIn wsL_isIn (cq_rm 0 0) D Y (([] : va_W)) [.long v] (some (.int (m_L_isIn v))) := by
  refine cq_body (cc := cL_isIn) (maxL := 2) (ret := (some .boolean)) (by decide) rfl (Nat.le_of_ble_eq_true rfl) ?_
  intro p e s m below meth c hE hP hG hD ls hl
  obtain ⟨hx, hb, hr, hml, hts, hown, hnm, hlocks⟩ := hE
  have hown : s.vm.findClass RL = some m.cls := hown
  have hl : lv_has ls 2 [(0, .long v)] := hl
  refine lv_lload_n hx hb dL_isIn_0 rfl (lv_at hl 0 rfl) ?_
  refine lv_bipush (v := 62) hx hb dL_isIn_1 (by decide) ?_
  refine lv_lshr (v := v >>> ((62 : Int32).toInt64 &&& 63)) hx hb dL_isIn_3 rfl ?_
  refine lv_lconst (v := 1) hx hb dL_isIn_4 (by decide) ?_
  refine lv_land hx hb dL_isIn_5 ?_
  refine lv_lconst (v := 1) hx hb dL_isIn_6 (by decide) ?_
  refine W.lcmp hx hb dL_isIn_7 ?_
  refine lv_if_ne (tgt := 15) hx hb dL_isIn_8 (by decide) (fun c_1 => ?_) (fun c_1 => ?_)
  · refine lv_iconst (v := 0) hx hb dL_isIn_15 (by decide) ?_
    exact cq_rI hx hb hr hlocks rfl (by simp only [m_L_isIn, eq_false c_1, ↓reduceIte, if_true, if_false]) dL_isIn_16
  · refine lv_iconst (v := 1) hx hb dL_isIn_11 (by decide) ?_
    refine lv_goto (tgt := 16) hx hb dL_isIn_12 (by decide) ?_
    exact cq_rI hx hb hr hlocks rfl (by simp only [m_L_isIn, eq_true c_1, ↓reduceIte, if_true, if_false]) dL_isIn_16
theorem nb_L_isIn (v : Int64) : narrow .boolean (.int (m_L_isIn v)) = .int (m_L_isIn v) := by unfold m_L_isIn; (try dsimp only); (repeat' split) <;> rfl

def m_L_withKey (v : Int64) (k : Int32) (value : Int32) : Int64 := (v &&& (((63 : Int64) <<< ((6 * k).toInt64 &&& 63)) ^^^ (-1 : Int64))) ||| (value.toInt64 <<< ((6 * k).toInt64 &&& 63))
set_option maxHeartbeats 4000000 in
set_option maxRecDepth 100000 in
theorem ct_L_withKey (l : Launch) (D : va_G) (Y : cq_Y) (v : Int64) (k : Int32) (value : Int32) : cq_MR l yL_withKey wsL_withKey (cq_rm 0 0) D Y (([] : va_W)) [.long v, .int k, .int value] (some (.long (m_L_withKey v k value))) := by
  refine cq_body (cc := cL_withKey) (maxL := 4) (ret := (some .long)) (by decide) rfl (Nat.le_of_ble_eq_true rfl) ?_
  intro p e s m below meth c hE hP hG hD ls hl
  obtain ⟨hx, hb, hr, hml, hts, hown, hnm, hlocks⟩ := hE
  have hown : s.vm.findClass RL = some m.cls := hown
  have hl : lv_has ls 4 [(0, .long v), (2, .int k), (3, .int value)] := hl
  refine lv_lload_n hx hb dL_withKey_0 rfl (lv_at hl 0 rfl) ?_
  refine lv_ldc2 (v := 63) hx hb hown (hts (.constantLong RL 7 63) (List.mem_of_getElem? (i := 1) rfl)) dL_withKey_1 ?_
  refine lv_bipush (v := 6) hx hb dL_withKey_4 (by decide) ?_
  refine lv_iload_n hx hb dL_withKey_6 rfl (lv_at hl 1 rfl) ?_
  refine lv_imul hx hb dL_withKey_7 ?_
  refine lv_lshl (v := (63 : Int64) <<< ((6 * k).toInt64 &&& 63)) hx hb dL_withKey_8 rfl ?_
  refine lv_ldc2 (v := (-1)) hx hb hown (hts (.constantLong RL 13 (-1)) (List.mem_of_getElem? (i := 2) rfl)) dL_withKey_9 ?_
  refine lv_lxor hx hb dL_withKey_12 ?_
  refine lv_land hx hb dL_withKey_13 ?_
  refine lv_iload_n hx hb dL_withKey_14 rfl (lv_at hl 2 rfl) ?_
  refine lv_i2l (v := value.toInt64) hx hb dL_withKey_15 rfl ?_
  refine lv_bipush (v := 6) hx hb dL_withKey_16 (by decide) ?_
  refine lv_iload_n hx hb dL_withKey_18 rfl (lv_at hl 1 rfl) ?_
  refine lv_imul hx hb dL_withKey_19 ?_
  refine lv_lshl (v := value.toInt64 <<< ((6 * k).toInt64 &&& 63)) hx hb dL_withKey_20 rfl ?_
  refine lv_lor hx hb dL_withKey_21 ?_
  exact cq_rJ hx hb hr hlocks (by simp only [m_L_withKey, ↓reduceIte, if_true, if_false]) dL_withKey_22

def m_L_withField (v : Int64) (k : Int32) (value : Int32) (source : Int32) : Int64 := (let x_1 : Int64 := (v &&& (((127 : Int64) <<< ((18 + (7 * k)).toInt64 &&& 63)) ^^^ (-1 : Int64))) &&& (((7 : Int64) <<< ((46 + (3 * k)).toInt64 &&& 63)) ^^^ (-1 : Int64)); (x_1 ||| (value.toInt64 <<< ((18 + (7 * k)).toInt64 &&& 63))) ||| (source.toInt64 <<< ((46 + (3 * k)).toInt64 &&& 63)))
set_option maxHeartbeats 4000000 in
set_option maxRecDepth 100000 in
theorem ct_L_withField (l : Launch) (D : va_G) (Y : cq_Y) (v : Int64) (k : Int32) (value : Int32) (source : Int32) : cq_MR l yL_withField wsL_withField (cq_rm 0 0) D Y (([] : va_W)) [.long v, .int k, .int value, .int source] (some (.long (m_L_withField v k value source))) := by
  refine cq_body (cc := cL_withField) (maxL := 7) (ret := (some .long)) (by decide) rfl (Nat.le_of_ble_eq_true rfl) ?_
  intro p e s m below meth c hE hP hG hD ls hl
  obtain ⟨hx, hb, hr, hml, hts, hown, hnm, hlocks⟩ := hE
  have hown : s.vm.findClass RL = some m.cls := hown
  have hl : lv_has ls 7 [(0, .long v), (2, .int k), (3, .int value), (4, .int source)] := hl
  refine lv_lload_n hx hb dL_withField_0 rfl (lv_at hl 0 rfl) ?_
  refine lv_ldc2 (v := 127) hx hb hown (hts (.constantLong RL 9 127) (List.mem_of_getElem? (i := 1) rfl)) dL_withField_1 ?_
  refine lv_bipush (v := 18) hx hb dL_withField_4 (by decide) ?_
  refine lv_bipush (v := 7) hx hb dL_withField_6 (by decide) ?_
  refine lv_iload_n hx hb dL_withField_8 rfl (lv_at hl 1 rfl) ?_
  refine lv_imul hx hb dL_withField_9 ?_
  refine lv_iadd hx hb dL_withField_10 ?_
  refine lv_lshl (v := (127 : Int64) <<< ((18 + (7 * k)).toInt64 &&& 63)) hx hb dL_withField_11 rfl ?_
  refine lv_ldc2 (v := (-1)) hx hb hown (hts (.constantLong RL 13 (-1)) (List.mem_of_getElem? (i := 2) rfl)) dL_withField_12 ?_
  refine lv_lxor hx hb dL_withField_15 ?_
  refine lv_land hx hb dL_withField_16 ?_
  refine lv_ldc2 (v := 7) hx hb hown (hts (.constantLong RL 11 7) (List.mem_of_getElem? (i := 3) rfl)) dL_withField_17 ?_
  refine lv_bipush (v := 46) hx hb dL_withField_20 (by decide) ?_
  refine lv_iconst (v := 3) hx hb dL_withField_22 (by decide) ?_
  refine lv_iload_n hx hb dL_withField_23 rfl (lv_at hl 1 rfl) ?_
  refine lv_imul hx hb dL_withField_24 ?_
  refine lv_iadd hx hb dL_withField_25 ?_
  refine lv_lshl (v := (7 : Int64) <<< ((46 + (3 * k)).toInt64 &&& 63)) hx hb dL_withField_26 rfl ?_
  refine lv_ldc2 (v := (-1)) hx hb hown (hts (.constantLong RL 13 (-1)) (List.mem_of_getElem? (i := 2) rfl)) dL_withField_27 ?_
  refine lv_lxor hx hb dL_withField_30 ?_
  refine lv_land hx hb dL_withField_31 ?_
  refine lv_topl (fun x_1 ex_1 => ?_)
  refine lv_lstore (lv' := [(5, .long x_1), (0, .long v), (2, .int k), (3, .int value), (4, .int source)]) hx hb dL_withField_32 hl (by decide) rfl (fun ls hl => ?_)
  refine lv_lload hx hb dL_withField_34 (lv_at hl 0 rfl) ?_
  refine lv_iload_n hx hb dL_withField_36 rfl (lv_at hl 3 rfl) ?_
  refine lv_i2l (v := value.toInt64) hx hb dL_withField_37 rfl ?_
  refine lv_bipush (v := 18) hx hb dL_withField_38 (by decide) ?_
  refine lv_bipush (v := 7) hx hb dL_withField_40 (by decide) ?_
  refine lv_iload_n hx hb dL_withField_42 rfl (lv_at hl 2 rfl) ?_
  refine lv_imul hx hb dL_withField_43 ?_
  refine lv_iadd hx hb dL_withField_44 ?_
  refine lv_lshl (v := value.toInt64 <<< ((18 + (7 * k)).toInt64 &&& 63)) hx hb dL_withField_45 rfl ?_
  refine lv_lor hx hb dL_withField_46 ?_
  refine lv_iload hx hb dL_withField_47 (lv_at hl 4 rfl) ?_
  refine lv_i2l (v := source.toInt64) hx hb dL_withField_49 rfl ?_
  refine lv_bipush (v := 46) hx hb dL_withField_50 (by decide) ?_
  refine lv_iconst (v := 3) hx hb dL_withField_52 (by decide) ?_
  refine lv_iload_n hx hb dL_withField_53 rfl (lv_at hl 2 rfl) ?_
  refine lv_imul hx hb dL_withField_54 ?_
  refine lv_iadd hx hb dL_withField_55 ?_
  refine lv_lshl (v := source.toInt64 <<< ((46 + (3 * k)).toInt64 &&& 63)) hx hb dL_withField_56 rfl ?_
  refine lv_lor hx hb dL_withField_57 ?_
  exact cq_rJ hx hb hr hlocks (by subst ex_1; simp only [m_L_withField, ↓reduceIte, if_true, if_false]) dL_withField_58
