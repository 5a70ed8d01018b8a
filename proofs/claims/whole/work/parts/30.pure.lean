/-! Bits of longs; what the small functions answer. -/
def tb (x : Int64) (i : Nat) : Bool := x.toBitVec.getLsbD i
theorem tb_ext {x y : Int64} (h : ∀ i, i < 64 → tb x i = tb y i) : x = y := Int64.toBitVec_inj.mp (BitVec.eq_of_getLsbD_eq (fun i hi => h i hi))
theorem tb_or (x y : Int64) (i : Nat) : tb (x ||| y) i = (tb x i || tb y i) := by unfold tb; rw [Int64.toBitVec_or, BitVec.getLsbD_or]
theorem tb_and (x y : Int64) (i : Nat) : tb (x &&& y) i = (tb x i && tb y i) := by unfold tb; rw [Int64.toBitVec_and, BitVec.getLsbD_and]
theorem tb_xor (x y : Int64) (i : Nat) : tb (x ^^^ y) i = (tb x i ^^ tb y i) := by unfold tb; rw [Int64.toBitVec_xor, BitVec.getLsbD_xor]
theorem tb_big {x : Int64} {i : Nat} (h : 64 ≤ i) : tb x i = false := BitVec.getLsbD_of_ge _ _ h
theorem tb_m1 : ∀ i, i < 64 → tb (-1) i = true := by decide +kernel
theorem tb_0 (i : Nat) : tb 0 i = false := BitVec.getLsbD_zero
theorem tb_1 : ∀ i, i < 64 → tb 1 i = decide (i = 0) := by decide +kernel
theorem tb_not {i : Nat} (hi : i < 64) (x : Int64) : tb (x ^^^ (-1)) i = !tb x i := by rw [tb_xor, tb_m1 i hi, Bool.xor_true]
theorem sl6 : ∀ n, n < 64 → (((nI n).toInt64 &&& 63).toBitVec.smod 64).toNat = n := by decide +kernel
theorem su6 : ∀ n, n < 64 → (((nI n).toInt64.toUInt64 &&& Int64.toUInt64 63).toBitVec % 64).toNat = n := by decide +kernel
theorem tb_shl (n : Nat) (hn : n < 64) (x : Int64) {i : Nat} (hi : i < 64) : tb (j_lshl x (nI n)) i = (decide (n ≤ i) && tb x (i - n)) := by
  unfold tb j_lshl
  rw [Int64.toBitVec_shiftLeft]
  show (x.toBitVec <<< (((nI n).toInt64 &&& 63).toBitVec.smod 64).toNat).getLsbD i = _
  rw [sl6 n hn, BitVec.getLsbD_shiftLeft]
  rcases Nat.lt_or_ge i n with h | h
  · simp [h, Nat.not_le.mpr h]
  · simp [hi, h, Nat.not_lt.mpr h]
theorem tb_ushr (n : Nat) (hn : n < 64) (x : Int64) (i : Nat) : tb (j_lushr x (nI n)) i = tb x (n + i) := by
  show (x.toUInt64 >>> ((nI n).toInt64.toUInt64 &&& Int64.toUInt64 63)).toBitVec.getLsbD i = x.toUInt64.toBitVec.getLsbD (n + i)
  rw [UInt64.toBitVec_shiftRight]
  show (x.toUInt64.toBitVec >>> (((nI n).toInt64.toUInt64 &&& Int64.toUInt64 63).toBitVec % 64).toNat).getLsbD i = _
  rw [su6 n hn, BitVec.getLsbD_ushiftRight]
theorem tb_bit {k i : Nat} (hk : k < 64) (hi : i < 64) : tb (j_lshl 1 (nI k)) i = decide (i = k) := by
  rw [tb_shl k hk 1 hi]
  rcases Nat.lt_or_ge i k with h | h
  · simp [Nat.not_le.mpr h]; omega
  · rw [tb_1 (i - k) (by omega)]
    simp [h]; omega
theorem tb_zero {x : Int64} : x = 0 ↔ ∀ i, i < 64 → tb x i = false := by
  constructor
  · intro h i _; rw [h, tb_0]
  · intro h; exact tb_ext (fun i hi => by rw [h i hi, tb_0])
/-! Trailing and leading zeros. -/
theorem nat_low (v k : Nat) (h1 : v.testBit k = true) (h2 : ∀ j, j < k → v.testBit j = false) (i : Nat) : (!(v.testBit i) && (v - 1).testBit i) = decide (i < k) := by
  have hm : v % 2 ^ k = 0 := by
    apply Nat.eq_of_testBit_eq
    intro j
    rw [Nat.testBit_mod_two_pow, Nat.zero_testBit]
    by_cases hj : j < k
    · simp [h2 j hj]
    · simp [hj]
  have hv : v = 2 ^ k * (v / 2 ^ k) := by
    have := Nat.div_add_mod v (2 ^ k)
    omega
  have ho : (v / 2 ^ k) % 2 = 1 := by
    have h := h1
    rw [Nat.testBit_eq_decide_div_mod_eq] at h
    simpa using h
  obtain ⟨b, hb⟩ : ∃ b, v / 2 ^ k = 2 * b + 1 := ⟨v / 2 ^ k / 2, by omega⟩
  rw [hb] at hv
  have hp : 0 < 2 ^ k := Nat.two_pow_pos k
  have hv1 : v - 1 = 2 ^ k * (2 * b) + (2 ^ k - 1) := by
    rw [hv, Nat.mul_add]
    omega
  have hv0 : v = 2 ^ k * (2 * b + 1) + 0 := by omega
  by_cases hi : i < k
  · rw [h2 i hi, hv1, Nat.testBit_two_pow_mul_add _ (by omega)]
    simp [hi, Nat.testBit_two_pow_sub_one]
  · rw [hv1, Nat.testBit_two_pow_mul_add _ (by omega), hv0, Nat.testBit_two_pow_mul_add _ (by omega)]
    simp only [hi, if_false, decide_false]
    obtain ⟨d, hd⟩ : ∃ d, i - k = d := ⟨_, rfl⟩
    rw [hd]
    cases d with
    | zero => simp
    | succ d =>
      rw [Nat.testBit_succ, Nat.testBit_succ, show (2 * b + 1) / 2 = b by omega, show 2 * b / 2 = b by omega]
      simp
def bt (x : Int32) (i : Nat) : Bool := x.toBitVec.getLsbD i
theorem bt_toNat (x : Int32) (i : Nat) : bt x i = x.toBitVec.toNat.testBit i := rfl
theorem least_bit (p : Nat → Bool) (n : Nat) (h : ∃ i, i < n ∧ p i = true) : ∃ k, k < n ∧ p k = true ∧ ∀ j, j < k → p j = false := by
  obtain ⟨i, hi, hp⟩ := h
  obtain ⟨k, hk, hl⟩ := pk_least (fun k => p k = true) ⟨i, hp⟩
  refine ⟨k, ?_, hk, fun j hj => ?_⟩
  · rcases Nat.lt_or_ge i k with h | h
    · exact absurd hp (hl i h)
    · omega
  · cases h : p j with
    | false => rfl
    | true => exact absurd h (hl j hj)
theorem low_mask (x : Int32) (k : Nat) (hk : k < 32) (h1 : bt x k = true) (h2 : ∀ j, j < k → bt x j = false) : (x ^^^ (-1)) &&& (x - 1) = nI (2 ^ k - 1) := by
  apply Int32.toBitVec_inj.mp
  apply BitVec.eq_of_getLsbD_eq
  intro i hi
  have hpos : 0 < x.toBitVec.toNat := by
    rcases Nat.eq_zero_or_pos x.toBitVec.toNat with h | h
    · rw [bt_toNat, h, Nat.zero_testBit] at h1; cases h1
    · exact h
  have hsub : (x - 1).toBitVec.toNat = x.toBitVec.toNat - 1 := by
    rw [Int32.toBitVec_sub, BitVec.toNat_sub]
    have h3 : (1 : Int32).toBitVec.toNat = 1 := by decide
    have h4 := x.toBitVec.isLt
    rw [h3]
    omega
  have hm1 : ∀ i, i < 32 → (-1 : Int32).toBitVec.getLsbD i = true := by decide +kernel
  rw [Int32.toBitVec_and, BitVec.getLsbD_and, Int32.toBitVec_xor, BitVec.getLsbD_xor, hm1 i hi, Bool.xor_true]
  have hl := nat_low x.toBitVec.toNat k h1 h2 i
  show (!(x.toBitVec.toNat.testBit i) && (x - 1).toBitVec.toNat.testBit i) = _
  rw [hsub, hl]
  show _ = (BitVec.ofNat 32 (2 ^ k - 1)).getLsbD i
  rw [BitVec.getLsbD_ofNat, Nat.testBit_two_pow_sub_one]
  simp [hi]
theorem ntz_tree : ∀ k, k < 32 → ∀ y, y = nI (2 ^ k - 1) → (if 0 < y then (if y ≤ (65536 : Int32) then q_Int_numberOfTrailingZeros_34 0 y (1 : Int32) else q_Int_numberOfTrailingZeros_34 0 (j_iushr y (16 : Int32)) ((1 : Int32) + 16)) else some (y &&& (32 : Int32))) = some (nI k) := by
  have h : ∀ k, k < 32 → (if 0 < nI (2 ^ k - 1) then (if nI (2 ^ k - 1) ≤ (65536 : Int32) then q_Int_numberOfTrailingZeros_34 0 (nI (2 ^ k - 1)) (1 : Int32) else q_Int_numberOfTrailingZeros_34 0 (j_iushr (nI (2 ^ k - 1)) (16 : Int32)) ((1 : Int32) + 16)) else some ((nI (2 ^ k - 1)) &&& (32 : Int32))) = some (nI k) := by decide +kernel
  intro k hk y hy
  subst hy
  exact h k hk
theorem ntz32 (N : Nat) {x : Int32} {k : Nat} (hk : k < 32) (h1 : bt x k = true) (h2 : ∀ j, j < k → bt x j = false) : p_Int_numberOfTrailingZeros N x = some (nI k) := by
  show p_Int_numberOfTrailingZeros 0 x = some (nI k)
  unfold p_Int_numberOfTrailingZeros
  exact ntz_tree k hk _ (low_mask x k hk h1 h2)
theorem bt_l2i (x : Int64) (i : Nat) (h : i < 32) : bt x.toInt32 i = tb x i := by
  unfold bt tb
  show (x.toBitVec.signExtend 32).getLsbD i = _
  rw [BitVec.getLsbD_signExtend]
  simp [h, show i < 64 by omega]
theorem bt_zero {x : Int32} : x = 0 ↔ ∀ i, i < 32 → bt x i = false := by
  constructor
  · intro h i _; subst h; exact BitVec.getLsbD_zero
  · intro h
    exact Int32.toBitVec_inj.mp (BitVec.eq_of_getLsbD_eq (fun i hi => by rw [show x.toBitVec.getLsbD i = bt x i from rfl, h i hi]; exact BitVec.getLsbD_zero.symm))
theorem ntz64 (N : Nat) {x : Int64} {k : Nat} (hk : k < 64) (h1 : tb x k = true) (h2 : ∀ j, j < k → tb x j = false) : p_Lon_numberOfTrailingZeros N x = some (nI k) := by
  unfold p_Lon_numberOfTrailingZeros
  by_cases hc : k < 32
  · have h3 : ¬ x.toInt32 = 0 := fun h => by
      have := bt_zero.mp h k hc
      rw [bt_l2i x k hc, h1] at this; cases this
    rw [if_neg h3, ntz32 N hc (by rw [bt_l2i x k hc]; exact h1) (fun j hj => by rw [bt_l2i x j (by omega)]; exact h2 j hj)]
    rfl
  · have h3 : x.toInt32 = 0 := bt_zero.mpr (fun i hi => by rw [bt_l2i x i hi]; exact h2 i (by omega))
    have hb : ∀ i, i < 32 → bt (j_lushr x (32 : Int32)).toInt32 i = tb x (32 + i) := fun i hi => by
      rw [bt_l2i _ i hi]
      exact tb_ushr 32 (by omega) x i
    rw [if_pos h3, ntz32 N (x := (j_lushr x (32 : Int32)).toInt32) (k := k - 32) (by omega) (by rw [hb _ (by omega), show 32 + (k - 32) = k by omega]; exact h1) (fun j hj => by rw [hb _ (by omega)]; exact h2 _ (by omega))]
    show some ((32 : Int32) + nI (k - 32)) = some (nI k)
    rw [show (32 : Int32) = nI 32 from rfl, nI_add, show 32 + (k - 32) = k by omega]
theorem nI_subc {m b : Nat} (h : b ≤ m) : nI m + (-(nI b)) = nI (m - b) := by rw [← Int32.sub_eq_add_neg, pk_sub h]
theorem iu_nI {v : Nat} (hv : v < 2 ^ 31) (s : Int32) (b : Nat) (hs : ((s.toUInt32 &&& Int32.toUInt32 31).toBitVec % 32).toNat = b) : j_iushr (nI v) s = nI (v / 2 ^ b) := pk_ushrN (by omega) s b hs
theorem pow_div {v k b : Nat} (hb : b ≤ k) (h1 : 2 ^ k ≤ v) (h2 : v < 2 ^ (k + 1)) : 2 ^ (k - b) ≤ v / 2 ^ b ∧ v / 2 ^ b < 2 ^ (k - b + 1) := by
  have hp : 0 < 2 ^ b := Nat.two_pow_pos b
  constructor
  · rw [Nat.le_div_iff_mul_le hp, ← Nat.pow_add, show k - b + b = k by omega]; exact h1
  · rw [Nat.div_lt_iff_lt_mul hp, ← Nat.pow_add, show k - b + 1 + b = k + 1 by omega]; exact h2
theorem pow_lt_k {v k b : Nat} (h1 : 2 ^ k ≤ v) (h : v < 2 ^ b) : k < b := by
  rcases Nat.lt_or_ge k b with h3 | h3
  · exact h3
  · have := Nat.pow_le_pow_right (show 0 < 2 by decide) h3
    omega
theorem pow_ge_k {v k b : Nat} (h2 : v < 2 ^ (k + 1)) (h : ¬ v < 2 ^ b) : b ≤ k := by
  rcases Nat.lt_or_ge k b with h3 | h3
  · have := Nat.pow_le_pow_right (show 0 < 2 by decide) h3
    have e : 2 ^ (k + 1) ≤ 2 ^ b := this
    omega
  · exact h3
theorem nz_73 (N : Nat) {v k m : Nat} (hk : k < 2) (h1 : 2 ^ k ≤ v) (h2 : v < 2 ^ (k + 1)) (hm : k ≤ m) : q_Int_numberOfLeadingZeros_73 N (nI v) (nI m) = some (nI (m - k)) := by
  unfold q_Int_numberOfLeadingZeros_73
  have hv : v < 4 := by
    have := Nat.pow_le_pow_right (show 0 < 2 by decide) (show k + 1 ≤ 2 by omega)
    omega
  have e : v / 2 ^ 1 = k := by
    rcases (show k = 0 ∨ k = 1 by omega) with rfl | rfl
    · omega
    · omega
  rw [iu_nI (by omega) 1 1 (by decide), e, pk_sub hm]
theorem nz_61 (N : Nat) {v k m : Nat} (hk : k < 4) (h1 : 2 ^ k ≤ v) (h2 : v < 2 ^ (k + 1)) (hm : k ≤ m) (hv : v < 2 ^ 31) : q_Int_numberOfLeadingZeros_61 N (nI v) (nI m) = some (nI (m - k)) := by
  unfold q_Int_numberOfLeadingZeros_61
  by_cases hc : v < 2 ^ 2
  · rw [if_pos (show nI v < (4 : Int32) from nI_lt (b := 4) hc (by decide))]
    exact nz_73 N (pow_lt_k h1 hc) h1 h2 hm
  · have hb := pow_ge_k h2 hc
    rw [if_neg (show ¬ nI v < (4 : Int32) from nI_nlt (b := 4) (by omega) hv), iu_nI hv 2 2 (by decide)]
    have := pow_div hb h1 h2
    have e := nz_73 N (v := v / 2 ^ 2) (k := k - 2) (m := m - 2) (by omega) this.1 this.2 (by omega)
    rw [show (nI m + (-2) : Int32) = nI (m - 2) from nI_subc (b := 2) (by omega), e, show m - 2 - (k - 2) = m - k by omega]
theorem nz_48 (N : Nat) {v k m : Nat} (hk : k < 8) (h1 : 2 ^ k ≤ v) (h2 : v < 2 ^ (k + 1)) (hm : k ≤ m) (hv : v < 2 ^ 31) : q_Int_numberOfLeadingZeros_48 N (nI v) (nI m) = some (nI (m - k)) := by
  unfold q_Int_numberOfLeadingZeros_48
  by_cases hc : v < 2 ^ 4
  · rw [if_pos (show nI v < (16 : Int32) from nI_lt (b := 16) hc (by decide))]
    exact nz_61 N (pow_lt_k h1 hc) h1 h2 hm hv
  · have hb := pow_ge_k h2 hc
    rw [if_neg (show ¬ nI v < (16 : Int32) from nI_nlt (b := 16) (by omega) hv), iu_nI hv 4 4 (by decide)]
    have := pow_div hb h1 h2
    have e := nz_61 N (v := v / 2 ^ 4) (k := k - 4) (m := m - 4) (by omega) this.1 this.2 (by omega) (Nat.lt_of_le_of_lt (Nat.div_le_self _ _) hv)
    rw [show (nI m + (-4) : Int32) = nI (m - 4) from nI_subc (b := 4) (by omega), e, show m - 4 - (k - 4) = m - k by omega]
theorem nz_33 (N : Nat) {v k m : Nat} (hk : k < 16) (h1 : 2 ^ k ≤ v) (h2 : v < 2 ^ (k + 1)) (hm : k ≤ m) (hv : v < 2 ^ 31) : q_Int_numberOfLeadingZeros_33 N (nI v) (nI m) = some (nI (m - k)) := by
  unfold q_Int_numberOfLeadingZeros_33
  by_cases hc : v < 2 ^ 8
  · rw [if_pos (show nI v < (256 : Int32) from nI_lt (b := 256) hc (by decide))]
    exact nz_48 N (pow_lt_k h1 hc) h1 h2 hm hv
  · have hb := pow_ge_k h2 hc
    rw [if_neg (show ¬ nI v < (256 : Int32) from nI_nlt (b := 256) (by omega) hv), iu_nI hv 8 8 (by decide)]
    have := pow_div hb h1 h2
    have e := nz_48 N (v := v / 2 ^ 8) (k := k - 8) (m := m - 8) (by omega) this.1 this.2 (by omega) (Nat.lt_of_le_of_lt (Nat.div_le_self _ _) hv)
    rw [show (nI m + (-8) : Int32) = nI (m - 8) from nI_subc (b := 8) (by omega), e, show m - 8 - (k - 8) = m - k by omega]
theorem nlz32 (N : Nat) {v k : Nat} (hk : k < 31) (h1 : 2 ^ k ≤ v) (h2 : v < 2 ^ (k + 1)) : p_Int_numberOfLeadingZeros N (nI v) = some (nI (31 - k)) := by
  have hv : v < 2 ^ 31 := by
    have := Nat.pow_le_pow_right (show 0 < 2 by decide) (show k + 1 ≤ 31 by omega)
    omega
  have hp : 0 < v := Nat.lt_of_lt_of_le (Nat.two_pow_pos k) h1
  unfold p_Int_numberOfLeadingZeros
  rw [if_pos (show (0 : Int32) < nI v from nI_lt (a := 0) hp hv)]
  by_cases hc : v < 2 ^ 16
  · rw [if_pos (show nI v < (65536 : Int32) from nI_lt (b := 65536) hc (by decide))]
    exact nz_33 N (m := 31) (pow_lt_k h1 hc) h1 h2 (by omega) hv
  · have hb := pow_ge_k h2 hc
    rw [if_neg (show ¬ nI v < (65536 : Int32) from nI_nlt (b := 65536) (by omega) hv), iu_nI hv 16 16 (by decide)]
    have := pow_div hb h1 h2
    have e := nz_33 N (v := v / 2 ^ 16) (k := k - 16) (m := 15) (by omega) this.1 this.2 (by omega) (Nat.lt_of_le_of_lt (Nat.div_le_self _ _) hv)
    rw [show ((31 : Int32) + (-16)) = nI 15 from rfl, e, show 15 - (k - 16) = 31 - k by omega]
theorem lN_hi (x : Int64) (k : Nat) (hk : k < 64) (h1 : tb x k = true) (h2 : ∀ j, k < j → j < 64 → tb x j = false) : 2 ^ k ≤ x.toBitVec.toNat ∧ x.toBitVec.toNat < 2 ^ (k + 1) := by
  constructor
  · exact Nat.ge_two_pow_of_testBit h1
  · apply Nat.lt_pow_two_of_testBit
    intro i hi
    rcases Nat.lt_or_ge i 64 with h | h
    · exact h2 i hi h
    · exact BitVec.getLsbD_of_ge _ _ h
theorem has_tb (N : Nat) (x : Int64) {i : Nat} (hi : i < 64) : p_RK_has N x (nI i) = some (if tb x i = true then 1 else 0) := by
  unfold p_RK_has
  have e : (j_lushr x (nI i) &&& (1 : Int64)) = 0 ↔ tb x i = false := by
    rw [tb_zero]
    constructor
    · intro h
      have := h 0 (by decide)
      rw [tb_and, tb_ushr i hi, tb_1 0 (by decide)] at this
      simpa using this
    · intro h j hj
      rw [tb_and, tb_ushr i hi, tb_1 j hj]
      by_cases hj0 : j = 0
      · subst hj0; simp [h]
      · simp [hj0]
  by_cases hb : tb x i = true
  · rw [if_pos hb, if_neg (fun h => by rw [lg_cmp_eq, e] at h; rw [hb] at h; cases h)]
  · have hb' : tb x i = false := by simpa using hb
    rw [if_neg hb, if_pos ((lg_cmp_eq _ _).mpr (e.mpr hb'))]

