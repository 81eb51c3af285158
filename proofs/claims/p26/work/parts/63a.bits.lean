/-! PURE: the bits of a long -/
def lb (x : Int64) (i : Nat) : Bool := x.toBitVec.getLsbD i
theorem lb_ext {x y : Int64} (h : ∀ i, i < 64 → lb x i = lb y i) : x = y := Int64.toBitVec_inj.mp (BitVec.eq_of_getLsbD_eq (fun i hi => h i hi))
theorem lb_or (x y : Int64) (i : Nat) : lb (x ||| y) i = (lb x i || lb y i) := by unfold lb; rw [Int64.toBitVec_or, BitVec.getLsbD_or]
theorem lb_and (x y : Int64) (i : Nat) : lb (x &&& y) i = (lb x i && lb y i) := by unfold lb; rw [Int64.toBitVec_and, BitVec.getLsbD_and]
theorem lb_xor (x y : Int64) (i : Nat) : lb (x ^^^ y) i = (lb x i ^^ lb y i) := by unfold lb; rw [Int64.toBitVec_xor, BitVec.getLsbD_xor]
theorem lb_big {x : Int64} {i : Nat} (h : 64 ≤ i) : lb x i = false := BitVec.getLsbD_of_ge _ _ h
theorem lb_0 (i : Nat) : lb 0 i = false := BitVec.getLsbD_zero
theorem lb_m1 : ∀ i, i < 64 → lb (-1) i = true := by decide +kernel
theorem lb_63 : ∀ i, i < 64 → lb 63 i = decide (i < 6) := by decide +kernel
theorem lb_127 : ∀ i, i < 64 → lb 127 i = decide (i < 7) := by decide +kernel
theorem lb_7 : ∀ i, i < 64 → lb 7 i = decide (i < 3) := by decide +kernel
theorem lb_1 : ∀ i, i < 64 → lb 1 i = decide (i < 1) := by decide +kernel
theorem lb_62 : ∀ i, i < 64 → lb 4611686018427387904 i = decide (i = 62) := by decide +kernel
theorem ls_l : ∀ n, n < 64 → (((nI n).toInt64 &&& 63).toBitVec.smod 64).toNat = n := by decide +kernel
theorem lb_shl (x : Int64) {n i : Nat} (hn : n < 64) (hi : i < 64) : lb (x <<< ((nI n).toInt64 &&& 63)) i = (decide (n ≤ i) && lb x (i - n)) := by
  unfold lb
  rw [Int64.toBitVec_shiftLeft]
  show (x.toBitVec <<< (((nI n).toInt64 &&& 63).toBitVec.smod 64).toNat).getLsbD i = _
  rw [ls_l n hn, BitVec.getLsbD_shiftLeft, decide_eq_true hi, Bool.true_and]
  congr 1
  by_cases h : i < n
  · rw [decide_eq_true h, decide_eq_false (Nat.not_le.mpr h)]; rfl
  · rw [decide_eq_false h, decide_eq_true (Nat.not_lt.mp h)]; rfl
theorem lb_shr (x : Int64) {n i : Nat} (hi : n + i < 64) : lb (x >>> ((nI n).toInt64 &&& 63)) i = lb x (n + i) := by
  unfold lb
  rw [Int64.toBitVec_shiftRight]
  show (x.toBitVec.sshiftRight (((nI n).toInt64 &&& 63).toBitVec.smod 64).toNat).getLsbD i = _
  rw [ls_l n (by omega), BitVec.getLsbD_sshiftRight, if_pos hi, decide_eq_false (by omega)]
  rfl
theorem lb_i {a i : Nat} (ha : a < 2147483648) (hi : i < 64) : lb (nI a).toInt64 i = a.testBit i := by
  have hm : (nI a).toBitVec.msb = false := by
    rw [BitVec.msb_eq_decide]
    show decide (2 ^ 31 ≤ (BitVec.ofNat 32 a).toNat) = false
    rw [BitVec.toNat_ofNat, Nat.mod_eq_of_lt (by omega), decide_eq_false (by omega)]
  show ((nI a).toBitVec.signExtend 64).getLsbD i = _
  rw [BitVec.signExtend_eq_setWidth_of_msb_false hm, BitVec.getLsbD_setWidth, decide_eq_true hi, Bool.true_and]
  show (BitVec.ofNat 32 a).getLsbD i = _
  rw [BitVec.getLsbD_ofNat]
  by_cases h : i < 32
  · rw [decide_eq_true h, Bool.true_and]
  · rw [decide_eq_false h, Bool.false_and]
    exact (Nat.testBit_lt_two_pow (Nat.lt_of_lt_of_le ha (show 2 ^ 31 ≤ 2 ^ i from Nat.pow_le_pow_right (by decide) (by omega)))).symm
/-- the number in w bits from o on -/
def lq (x : Int64) (o w : Nat) : Nat := (BitVec.extractLsb' o w x.toBitVec).toNat
theorem lq_lt {x : Int64} {o w : Nat} : lq x o w < 2 ^ w := (BitVec.extractLsb' o w x.toBitVec).isLt
theorem lq_tb (x : Int64) (o w i : Nat) : (lq x o w).testBit i = (decide (i < w) && lb x (o + i)) := by
  unfold lq lb
  rw [BitVec.testBit_toNat, BitVec.getLsbD_extractLsb']
theorem lq_congr {x y : Int64} {o w : Nat} (h : ∀ i, o ≤ i → i < o + w → lb x i = lb y i) : lq x o w = lq y o w := by
  apply Nat.eq_of_testBit_eq
  intro i
  rw [lq_tb, lq_tb]
  by_cases hi : i < w
  · rw [h (o + i) (by omega) (by omega)]
  · rw [decide_eq_false hi]; rfl
theorem lq_of {x : Int64} {o w a : Nat} (ha : a < 2 ^ w) (h : ∀ i, o ≤ i → i < o + w → lb x i = a.testBit (i - o)) : lq x o w = a := by
  apply Nat.eq_of_testBit_eq
  intro i
  rw [lq_tb]
  by_cases hi : i < w
  · rw [decide_eq_true hi, Bool.true_and, h (o + i) (by omega) (by omega), Nat.add_sub_cancel_left]
  · rw [decide_eq_false hi, Bool.false_and]
    exact (Nat.testBit_lt_two_pow (Nat.lt_of_lt_of_le ha (Nat.pow_le_pow_right (by decide) (by omega)))).symm
theorem lq_0 {o w : Nat} : lq 0 o w = 0 := lq_of (Nat.two_pow_pos w) (fun i _ _ => by rw [lb_0, Nat.zero_testBit])
theorem lq_1 {x : Int64} {o : Nat} : lq x o 1 = if lb x o = true then 1 else 0 := by
  by_cases h : lb x o = true
  · rw [if_pos h]
    exact lq_of (by decide) (fun i h1 h2 => by obtain rfl : i = o := by omega
                                               rw [h, Nat.sub_self]; rfl)
  · rw [if_neg h]
    have hf : lb x o = false := by simpa using h
    exact lq_of (by decide) (fun i h1 h2 => by obtain rfl : i = o := by omega
                                               rw [hf, Nat.zero_testBit])
theorem lq_get {x M : Int64} {o w : Nat} (hM : ∀ i, i < 64 → lb M i = decide (i < w)) (ho : o + w ≤ 64) (hw : w ≤ 31) : ((x >>> ((nI o).toInt64 &&& 63)) &&& M).toInt32 = nI (lq x o w) := by
  apply Int32.toBitVec_inj.mp
  apply BitVec.eq_of_getLsbD_eq
  intro i hi
  show (((x >>> ((nI o).toInt64 &&& 63)) &&& M).toBitVec.signExtend 32).getLsbD i = (BitVec.ofNat 32 (lq x o w)).getLsbD i
  rw [BitVec.getLsbD_signExtend, BitVec.getLsbD_ofNat, decide_eq_true hi, Bool.true_and, Bool.true_and, if_pos (by omega), lq_tb]
  show lb ((x >>> ((nI o).toInt64 &&& 63)) &&& M) i = _
  rw [lb_and, hM i (by omega)]
  by_cases h : i < w
  · rw [lb_shr x (by omega), Bool.and_comm]
  · rw [decide_eq_false h, Bool.and_false, Bool.false_and]
theorem lq_set {x M : Int64} {o w a : Nat} (hM : ∀ i, i < 64 → lb M i = decide (i < w)) (ho : o + w ≤ 64) (hw : w ≤ 31) (ho2 : o < 64) (ha : a < 2 ^ w) {j : Nat} (hj : j < 64) : lb ((x &&& ((M <<< ((nI o).toInt64 &&& 63)) ^^^ (-1))) ||| ((nI a).toInt64 <<< ((nI o).toInt64 &&& 63))) j = if o ≤ j ∧ j < o + w then a.testBit (j - o) else lb x j := by
  have ha2 : a < 2147483648 := Nat.lt_of_lt_of_le ha (show 2 ^ w ≤ 2 ^ 31 from Nat.pow_le_pow_right (by decide) hw)
  rw [lb_or, lb_and, lb_xor, lb_shl _ ho2 hj, lb_shl _ ho2 hj, lb_m1 j hj, hM _ (by omega), lb_i ha2 (by omega)]
  by_cases h1 : o ≤ j
  · by_cases h2 : j < o + w
    · rw [if_pos ⟨h1, h2⟩, decide_eq_true h1, decide_eq_true (show j - o < w by omega)]
      simp
    · rw [if_neg (fun h => h2 h.2), decide_eq_true h1, decide_eq_false (show ¬ j - o < w by omega), Nat.testBit_lt_two_pow (Nat.lt_of_lt_of_le ha (show 2 ^ w ≤ 2 ^ (j - o) from Nat.pow_le_pow_right (by decide) (by omega)))]
      simp
  · rw [if_neg (fun h => h1 h.1), decide_eq_false h1]
    simp
theorem lcmp0 {x y : Int64} : lg_cmp x y = 0 ↔ x = y := by
  unfold lg_cmp
  constructor
  · intro h
    by_cases h1 : x > y
    · rw [if_pos h1] at h; exact absurd h (by decide)
    · rw [if_neg h1] at h
      by_cases h2 : x = y
      · exact h2
      · rw [if_neg h2] at h; exact absurd h (by decide)
  · intro h
    subst h
    rw [if_neg (fun h => absurd h (Int64.lt_irrefl)), if_pos rfl]
theorem lq_bit {x : Int64} {o : Nat} (ho : o < 64) : (if lg_cmp ((x >>> ((nI o).toInt64 &&& 63)) &&& (1 : Int64)) (1 : Int64) = 0 then (1 : Int32) else 0) = nI (lq x o 1) := by
  rw [lq_1]
  by_cases h : lb x o = true
  · have e : (x >>> ((nI o).toInt64 &&& 63)) &&& (1 : Int64) = 1 := by
      apply lb_ext
      intro i hi
      rw [lb_and, lb_1 i hi]
      by_cases h0 : i < 1
      · obtain rfl : i = 0 := by omega
        rw [lb_shr x (by omega), Nat.add_zero, h]; rfl
      · rw [decide_eq_false h0, Bool.and_false]
    rw [e, if_pos (lcmp0.mpr rfl), if_pos h]; rfl
  · have e : ¬ (x >>> ((nI o).toInt64 &&& 63)) &&& (1 : Int64) = 1 := by
      intro e
      have h9 : lb ((x >>> ((nI o).toInt64 &&& 63)) &&& (1 : Int64)) 0 = lb 1 0 := by rw [e]
      rw [lb_and, lb_shr x (by omega), Nat.add_zero, lb_1 0 (by decide)] at h9
      apply h
      simpa using h9
    rw [if_neg (fun h9 => e (lcmp0.mp h9)), if_neg h]; rfl
/-! PURE: what a record's number holds -/
def kx (x : Int64) (k : Nat) : Nat := lq x (6 * k) 6
def fx (x : Int64) (k : Nat) : Nat := lq x (18 + 7 * k) 7
def sx (x : Int64) (k : Nat) : Nat := lq x (46 + 3 * k) 3
def gx (x : Int64) (k : Nat) : Nat := lq x (58 + k) 1
def ix (x : Int64) : Nat := lq x 62 1
theorem kx_lt {x : Int64} {k : Nat} : kx x k < 64 := lq_lt
theorem fx_lt {x : Int64} {k : Nat} : fx x k < 128 := lq_lt
theorem sx_lt {x : Int64} {k : Nat} : sx x k < 8 := lq_lt
theorem gx_lt {x : Int64} {k : Nat} : gx x k < 2 := lq_lt
theorem ix_lt {x : Int64} : ix x < 2 := lq_lt
theorem L_key {x : Int64} {k : Nat} (hk : k < 3) : m_L_key x (nI k) = nI (kx x k) := by
  unfold m_L_key kx
  have e : (6 : Int32) * nI k = nI (6 * k) := pk_mul 6 k
  rw [e]
  exact lq_get lb_63 (by omega) (by decide)
theorem L_field {x : Int64} {k : Nat} (hk : k < 4) : m_L_field x (nI k) = nI (fx x k) := by
  unfold m_L_field fx
  have e : (18 : Int32) + (7 : Int32) * nI k = nI (18 + 7 * k) := by
    show nI 18 + nI 7 * nI k = _
    rw [pk_mul, nI_add]
  rw [e]
  exact lq_get lb_127 (by omega) (by decide)
theorem L_source {x : Int64} {k : Nat} (hk : k < 4) : m_L_source x (nI k) = nI (sx x k) := by
  unfold m_L_source sx
  have e : (46 : Int32) + (3 : Int32) * nI k = nI (46 + 3 * k) := by
    show nI 46 + nI 3 * nI k = _
    rw [pk_mul, nI_add]
  rw [e]
  exact lq_get lb_7 (by omega) (by decide)
theorem L_isKept {x : Int64} {k : Nat} (hk : k < 4) : m_L_isKept x (nI k) = nI (gx x k) := by
  unfold m_L_isKept gx
  have e : (58 : Int32) + nI k = nI (58 + k) := nI_add 58 k
  rw [e]
  exact lq_bit (by omega)
theorem L_isIn {x : Int64} : m_L_isIn x = nI (ix x) := by
  unfold m_L_isIn ix
  exact lq_bit (o := 62) (by decide)
theorem L_wK {x : Int64} {k a : Nat} (hk : k < 3) (ha : a < 64) {j : Nat} (hj : j < 64) : lb (m_L_withKey x (nI k) (nI a)) j = if 6 * k ≤ j ∧ j < 6 * k + 6 then a.testBit (j - 6 * k) else lb x j := by
  unfold m_L_withKey
  have e : (6 : Int32) * nI k = nI (6 * k) := pk_mul 6 k
  rw [e]
  exact lq_set lb_63 (by omega) (by decide) (by omega) (by omega) hj
theorem L_wF {x : Int64} {k a s : Nat} (hk : k < 4) (ha : a < 128) (hs : s < 8) {j : Nat} (hj : j < 64) : lb (m_L_withField x (nI k) (nI a) (nI s)) j = if 46 + 3 * k ≤ j ∧ j < 46 + 3 * k + 3 then s.testBit (j - (46 + 3 * k)) else if 18 + 7 * k ≤ j ∧ j < 18 + 7 * k + 7 then a.testBit (j - (18 + 7 * k)) else lb x j := by
  unfold m_L_withField
  dsimp only
  have e1 : (18 : Int32) + (7 : Int32) * nI k = nI (18 + 7 * k) := by
    show nI 18 + nI 7 * nI k = _
    rw [pk_mul, nI_add]
  have e2 : (46 : Int32) + (3 : Int32) * nI k = nI (46 + 3 * k) := by
    show nI 46 + nI 3 * nI k = _
    rw [pk_mul, nI_add]
  rw [e1, e2]
  have q1 := lq_set (x := x) (M := 127) (o := 18 + 7 * k) (w := 7) (a := a) lb_127 (by omega) (by decide) (by omega) (by omega) hj
  have q2 := lq_set (x := (x &&& ((127 <<< ((nI (18 + 7 * k)).toInt64 &&& 63)) ^^^ (-1))) ||| ((nI a).toInt64 <<< ((nI (18 + 7 * k)).toInt64 &&& 63))) (M := 7) (o := 46 + 3 * k) (w := 3) (a := s) lb_7 (by omega) (by decide) (by omega) (by omega) hj
  rw [q1] at q2
  rw [← q2]
  rw [lb_or, lb_or, lb_and, lb_and, lb_or, lb_and, lb_or, lb_and]
  have q3 : lb ((nI a).toInt64 <<< ((nI (18 + 7 * k)).toInt64 &&& 63)) j = (lb ((nI a).toInt64 <<< ((nI (18 + 7 * k)).toInt64 &&& 63)) j && lb ((7 <<< ((nI (46 + 3 * k)).toInt64 &&& 63)) ^^^ (-1)) j) := by
    by_cases h : 18 + 7 * k ≤ j ∧ j < 18 + 7 * k + 7
    · have h2 : lb (((7 : Int64) <<< ((nI (46 + 3 * k)).toInt64 &&& 63)) ^^^ (-1)) j = true := by
        rw [lb_xor, lb_shl _ (by omega) hj, lb_m1 j hj, decide_eq_false (show ¬ 46 + 3 * k ≤ j by omega)]; rfl
      rw [h2, Bool.and_true]
    · have h2 : lb ((nI a).toInt64 <<< ((nI (18 + 7 * k)).toInt64 &&& 63)) j = false := by
        rw [lb_shl _ (by omega) hj, lb_i (by omega) (by omega)]
        by_cases h3 : 18 + 7 * k ≤ j
        · rw [Nat.testBit_lt_two_pow (Nat.lt_of_lt_of_le (show a < 2 ^ 7 by omega) (show 2 ^ 7 ≤ 2 ^ (j - (18 + 7 * k)) from Nat.pow_le_pow_right (by decide) (by omega)))]
          exact Bool.and_false _
        · rw [decide_eq_false h3]; rfl
      rw [h2]; rfl
  rw [q3]
  cases lb x j <;> cases lb ((127 <<< ((nI (18 + 7 * k)).toInt64 &&& 63)) ^^^ (-1)) j <;> cases lb ((7 <<< ((nI (46 + 3 * k)).toInt64 &&& 63)) ^^^ (-1)) j <;> cases lb ((nI a).toInt64 <<< ((nI (18 + 7 * k)).toInt64 &&& 63)) j <;> cases lb ((nI s).toInt64 <<< ((nI (46 + 3 * k)).toInt64 &&& 63)) j <;> rfl
section wk
variable {x : Int64} {k a s : Nat}
theorem wk_k (hk : k < 3) (ha : a < 64) {j : Nat} (hj : j < 3) : kx (m_L_withKey x (nI k) (nI a)) j = if j = k then a else kx x j := by
  unfold kx
  by_cases h : j = k
  · subst h
    rw [if_pos rfl]
    exact lq_of (by omega) (fun i h1 h2 => by rw [L_wK hk ha (by omega), if_pos ⟨h1, h2⟩])
  · rw [if_neg h]
    exact lq_congr (fun i h1 h2 => by rw [L_wK hk ha (by omega), if_neg (by omega)])
theorem wk_f (hk : k < 3) (ha : a < 64) {j : Nat} (hj : j < 4) : fx (m_L_withKey x (nI k) (nI a)) j = fx x j := lq_congr (fun i h1 h2 => by rw [L_wK hk ha (by omega), if_neg (by omega)])
theorem wk_s (hk : k < 3) (ha : a < 64) {j : Nat} (hj : j < 4) : sx (m_L_withKey x (nI k) (nI a)) j = sx x j := lq_congr (fun i h1 h2 => by rw [L_wK hk ha (by omega), if_neg (by omega)])
theorem wk_g (hk : k < 3) (ha : a < 64) {j : Nat} (hj : j < 4) : gx (m_L_withKey x (nI k) (nI a)) j = gx x j := lq_congr (fun i h1 h2 => by rw [L_wK hk ha (by omega), if_neg (by omega)])
theorem wk_i (hk : k < 3) (ha : a < 64) : ix (m_L_withKey x (nI k) (nI a)) = ix x := lq_congr (fun i h1 h2 => by rw [L_wK hk ha (by omega), if_neg (by omega)])
theorem wf_k (hk : k < 4) (ha : a < 128) (hs : s < 8) {j : Nat} (hj : j < 3) : kx (m_L_withField x (nI k) (nI a) (nI s)) j = kx x j := lq_congr (fun i h1 h2 => by rw [L_wF hk ha hs (by omega), if_neg (by omega), if_neg (by omega)])
theorem wf_f (hk : k < 4) (ha : a < 128) (hs : s < 8) {j : Nat} (hj : j < 4) : fx (m_L_withField x (nI k) (nI a) (nI s)) j = if j = k then a else fx x j := by
  unfold fx
  by_cases h : j = k
  · subst h
    rw [if_pos rfl]
    exact lq_of (by omega) (fun i h1 h2 => by rw [L_wF hk ha hs (by omega), if_neg (by omega), if_pos ⟨h1, h2⟩])
  · rw [if_neg h]
    exact lq_congr (fun i h1 h2 => by rw [L_wF hk ha hs (by omega), if_neg (by omega), if_neg (by omega)])
theorem wf_s (hk : k < 4) (ha : a < 128) (hs : s < 8) {j : Nat} (hj : j < 4) : sx (m_L_withField x (nI k) (nI a) (nI s)) j = if j = k then s else sx x j := by
  unfold sx
  by_cases h : j = k
  · subst h
    rw [if_pos rfl]
    exact lq_of (by omega) (fun i h1 h2 => by rw [L_wF hk ha hs (by omega), if_pos ⟨h1, h2⟩])
  · rw [if_neg h]
    exact lq_congr (fun i h1 h2 => by rw [L_wF hk ha hs (by omega), if_neg (by omega), if_neg (by omega)])
theorem wf_g (hk : k < 4) (ha : a < 128) (hs : s < 8) {j : Nat} (hj : j < 4) : gx (m_L_withField x (nI k) (nI a) (nI s)) j = gx x j := lq_congr (fun i h1 h2 => by rw [L_wF hk ha hs (by omega), if_neg (by omega), if_neg (by omega)])
theorem wf_i (hk : k < 4) (ha : a < 128) (hs : s < 8) : ix (m_L_withField x (nI k) (nI a) (nI s)) = ix x := lq_congr (fun i h1 h2 => by rw [L_wF hk ha hs (by omega), if_neg (by omega), if_neg (by omega)])
end wk
/-- a record made: the bit that says so -/
theorem mk_b {x : Int64} {j : Nat} (hj : j < 64) : lb (x ||| 4611686018427387904) j = if j = 62 then true else lb x j := by
  rw [lb_or, lb_62 j hj]
  by_cases h : j = 62
  · rw [if_pos h, decide_eq_true h, Bool.or_true]
  · rw [if_neg h, decide_eq_false h, Bool.or_false]
theorem mk_i {x : Int64} : ix (x ||| 4611686018427387904) = 1 := lq_of (by decide) (fun i h1 h2 => by rw [mk_b (by omega), if_pos (by omega), show i - 62 = 0 by omega]; rfl)
theorem mk_q {x : Int64} {o w : Nat} (h : o + w ≤ 62) : lq (x ||| 4611686018427387904) o w = lq x o w := lq_congr (fun i h1 h2 => by rw [mk_b (by omega), if_neg (by omega)])
/-- protection on, and off -/
theorem on_b {x : Int64} {f j : Nat} (hf : f < 4) (hj : j < 64) : lb (x ||| ((1 : Int64) <<< (((58 : Int32) + nI f).toInt64 &&& 63))) j = if j = 58 + f then true else lb x j := by
  have e : (58 : Int32) + nI f = nI (58 + f) := nI_add 58 f
  rw [e, lb_or, lb_shl _ (by omega) hj, lb_1 _ (by omega)]
  by_cases h : j = 58 + f
  · rw [if_pos h, decide_eq_true (show 58 + f ≤ j by omega), decide_eq_true (show j - (58 + f) < 1 by omega), Bool.and_true, Bool.or_true]
  · rw [if_neg h]
    by_cases h2 : 58 + f ≤ j
    · rw [decide_eq_false (show ¬ j - (58 + f) < 1 by omega), Bool.and_false, Bool.or_false]
    · rw [decide_eq_false h2, Bool.false_and, Bool.or_false]
theorem off_b {x : Int64} {f j : Nat} (hf : f < 4) (hj : j < 64) : lb (x &&& (((1 : Int64) <<< (((58 : Int32) + nI f).toInt64 &&& 63)) ^^^ (-1))) j = if j = 58 + f then false else lb x j := by
  have e : (58 : Int32) + nI f = nI (58 + f) := nI_add 58 f
  rw [e, lb_and, lb_xor, lb_shl _ (by omega) hj, lb_1 _ (by omega), lb_m1 j hj]
  by_cases h : j = 58 + f
  · rw [if_pos h, decide_eq_true (show 58 + f ≤ j by omega), decide_eq_true (show j - (58 + f) < 1 by omega)]; exact Bool.and_false _
  · rw [if_neg h]
    by_cases h2 : 58 + f ≤ j
    · rw [decide_eq_false (show ¬ j - (58 + f) < 1 by omega), Bool.and_false]; exact Bool.and_true _
    · rw [decide_eq_false h2, Bool.false_and]; exact Bool.and_true _
theorem on_g {x : Int64} {f j : Nat} (hf : f < 4) (hj : j < 4) : gx (x ||| ((1 : Int64) <<< (((58 : Int32) + nI f).toInt64 &&& 63))) j = if j = f then 1 else gx x j := by
  unfold gx
  rw [lq_1, lq_1, on_b hf (by omega)]
  by_cases h : j = f
  · rw [if_pos h, if_pos (show 58 + j = 58 + f by omega), if_pos rfl]
  · rw [if_neg h, if_neg (show ¬ 58 + j = 58 + f by omega)]
theorem off_g {x : Int64} {f j : Nat} (hf : f < 4) (hj : j < 4) : gx (x &&& (((1 : Int64) <<< (((58 : Int32) + nI f).toInt64 &&& 63)) ^^^ (-1))) j = if j = f then 0 else gx x j := by
  unfold gx
  rw [lq_1, lq_1, off_b hf (by omega)]
  by_cases h : j = f
  · rw [if_pos h, if_pos (show 58 + j = 58 + f by omega), if_neg (by decide)]
  · rw [if_neg h, if_neg (show ¬ 58 + j = 58 + f by omega)]
theorem on_q {x : Int64} {f o w : Nat} (hf : f < 4) (h : o + w ≤ 58 ∨ (62 ≤ o ∧ o + w ≤ 64)) : lq (x ||| ((1 : Int64) <<< (((58 : Int32) + nI f).toInt64 &&& 63))) o w = lq x o w := lq_congr (fun i h1 h2 => by rw [on_b hf (by omega), if_neg (by omega)])
theorem off_q {x : Int64} {f o w : Nat} (hf : f < 4) (h : o + w ≤ 58 ∨ (62 ≤ o ∧ o + w ≤ 64)) : lq (x &&& (((1 : Int64) <<< (((58 : Int32) + nI f).toInt64 &&& 63)) ^^^ (-1))) o w = lq x o w := lq_congr (fun i h1 h2 => by rw [off_b hf (by omega), if_neg (by omega)])
