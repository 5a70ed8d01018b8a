/-! The lowest and the highest symbol; long numbers as whole numbers. -/
theorem nlz64 (N : Nat) {x : Int64} {k : Nat} (hk : k < 60) (h1 : tb x k = true) (h2 : ∀ j, k < j → j < 64 → tb x j = false) : p_Lon_numberOfLeadingZeros N x = some (nI (63 - k)) := by
  obtain ⟨p1, p2⟩ := lN_hi x k (by omega) h1 h2
  have hv : ∀ i, tb x i = x.toBitVec.toNat.testBit i := fun i => rfl
  have hvlt := x.toBitVec.isLt
  have hhi : (j_lushr x (32 : Int32)).toInt32 = nI (x.toBitVec.toNat / 2 ^ 32) := by
    apply bt_ext
    intro i hi
    rw [bt_l2i _ _ hi, show (32 : Int32) = nI 32 from rfl, tb_ushr 32 (by decide), bt_nI (by omega), hv, Nat.testBit_div_two_pow, Nat.add_comm]
  have hlo : x.toInt32 = nI (x.toBitVec.toNat % 2 ^ 32) := by
    apply bt_ext
    intro i hi
    rw [bt_l2i _ _ hi, bt_nI (Nat.mod_lt _ (by decide)), hv, Nat.testBit_mod_two_pow]
    simp [hi]
  unfold p_Lon_numberOfLeadingZeros
  by_cases hc : k < 32
  · have hlt : x.toBitVec.toNat < 2 ^ 32 := Nat.lt_of_lt_of_le p2 (Nat.pow_le_pow_right (by decide) (by omega))
    rw [hhi, Nat.div_eq_of_lt hlt, if_pos (show nI 0 = 0 by decide), hlo, Nat.mod_eq_of_lt hlt]
    by_cases hc2 : k < 31
    · rw [nlz32 N hc2 p1 p2, Option.bind_some, show (32 : Int32) = nI 32 from rfl, nI_add, show 32 + (31 - k) = 63 - k by omega]
    · have hk31 : k = 31 := by omega
      subst hk31
      have hneg : nI x.toBitVec.toNat < 0 := by
        rw [Int32.lt_iff_toInt_lt]
        have e : (nI x.toBitVec.toNat).toInt = (x.toBitVec.toNat : Int).bmod (2 ^ 32) := by
          show (Int32.ofNat x.toBitVec.toNat).toInt = _
          rw [← Int32.ofInt_eq_ofNat, Int32.toInt_ofInt]
        rw [e, Int.bmod_def]
        have e0 : (0 : Int32).toInt = 0 := by decide
        rw [e0]
        omega
      unfold p_Int_numberOfLeadingZeros
      rw [if_neg (fun z => by rw [Int32.lt_iff_toInt_lt] at hneg z; omega), if_neg (fun z => by rw [z] at hneg; revert hneg; decide), Option.bind_some]
      rfl
  · have hge : 2 ^ 32 ≤ x.toBitVec.toNat := Nat.le_trans (Nat.pow_le_pow_right (by decide) (by omega)) p1
    have q := pow_div (b := 32) (by omega) p1 p2
    have hpos : 0 < x.toBitVec.toNat / 2 ^ 32 := Nat.lt_of_lt_of_le (Nat.two_pow_pos _) q.1
    have hsm : x.toBitVec.toNat / 2 ^ 32 < 2 ^ 31 := Nat.lt_of_lt_of_le q.2 (Nat.pow_le_pow_right (by decide) (by omega))
    rw [hhi, if_neg (fun z => by have := (nI_eq (b := 0) hsm (by decide)).mp z; omega), nlz32 N (k := k - 32) (by omega) q.1 q.2, Option.bind_some, show 31 - (k - 32) = 63 - k by omega]
theorem most_bit (p : Nat → Bool) : ∀ n, (∃ i, i < n ∧ p i = true) → ∃ k, k < n ∧ p k = true ∧ ∀ j, k < j → j < n → p j = false := by
  intro n
  induction n with
  | zero => rintro ⟨i, hi, _⟩; omega
  | succ n ih =>
    rintro ⟨i, hi, hp⟩
    cases hn : p n with
    | true => exact ⟨n, by omega, hn, fun j h1 h2 => by omega⟩
    | false =>
      have : i ≠ n := fun e => by rw [e, hn] at hp; cases hp
      obtain ⟨k, h1, h2, h3⟩ := ih ⟨i, by omega, hp⟩
      refine ⟨k, by omega, h2, fun j h4 h5 => ?_⟩
      by_cases he : j = n
      · rw [he, hn]
      · exact h3 j h4 (by omega)
theorem some_bit {x : Int64} (h : x ≠ 0) : ∃ i, i < 64 ∧ tb x i = true := by
  apply Classical.byContradiction
  intro hc
  apply h
  rw [tb_zero]
  intro i hi
  cases hb : tb x i with
  | false => rfl
  | true => exact absurd ⟨i, hi, hb⟩ hc
/-- the lowest symbol of a set -/
def IsLo (x : Int64) (k : Nat) : Prop := tb x k = true ∧ ∀ j, tb x j = true → k ≤ j
def IsHi (x : Int64) (k : Nat) : Prop := tb x k = true ∧ ∀ j, tb x j = true → j ≤ k
theorem lowestOf (N : Nat) {x : Int64} (h : x ≠ 0) (hb : ∀ v, tb x v = true → v < 60) : ∃ k, k < 60 ∧ IsLo x k ∧ p_Kernel_lowestOf N x = some (nI k) := by
  obtain ⟨k, h1, h2, h3⟩ := least_bit (tb x) 64 (some_bit h)
  refine ⟨k, hb k h2, ⟨h2, fun j hj => ?_⟩, ?_⟩
  · apply Classical.byContradiction
    intro hc
    rw [h3 j (by omega)] at hj
    cases hj
  · unfold p_Kernel_lowestOf
    rw [ntz64 N h1 h2 h3]
    rfl
theorem highestOf (N : Nat) {x : Int64} (h : x ≠ 0) (hb : ∀ v, tb x v = true → v < 60) : ∃ k, k < 60 ∧ IsHi x k ∧ p_Kernel_highestOf N x = some (nI k) := by
  obtain ⟨k, h1, h2, h3⟩ := most_bit (tb x) 64 (some_bit h)
  refine ⟨k, hb k h2, ⟨h2, fun j hj => ?_⟩, ?_⟩
  · apply Classical.byContradiction
    intro hc
    have := hb j hj
    rw [h3 j (by omega) (by omega)] at hj
    cases hj
  · unfold p_Kernel_highestOf
    rw [nlz64 N (hb k h2) h2 h3, Option.bind_some, show (63 : Int32) = nI 63 from rfl, pk_sub (by omega), show 63 - (63 - k) = k by have := hb k h2; omega]
def iL (z : Int) : Int64 := Int64.ofInt z
theorem iL_add (a b : Int) : iL a + iL b = iL (a + b) := (Int64.ofInt_add a b).symm
theorem iL_sub (a b : Int) : iL a - iL b = iL (a - b) := (Int64.ofInt_sub a b).symm
theorem iL_mul (a b : Int) : iL a * iL b = iL (a * b) := (Int64.ofInt_mul a b).symm
def Md (z : Int) : Prop := -1000000000 ≤ z ∧ z ≤ 1000000000
theorem iL_toInt {a : Int} (h : Md a) : (iL a).toInt = a := by
  obtain ⟨h1, h2⟩ := h
  exact Int64.toInt_ofInt_of_le (by omega) (by omega)
theorem iL_lt {a b : Int} (ha : Md a) (hb : Md b) : iL a < iL b ↔ a < b := by rw [Int64.lt_iff_toInt_lt, iL_toInt ha, iL_toInt hb]
theorem iL_le {a b : Int} (ha : Md a) (hb : Md b) : iL a ≤ iL b ↔ a ≤ b := by rw [Int64.le_iff_toInt_le, iL_toInt ha, iL_toInt hb]
theorem iL_0 : (0 : Int64) = iL 0 := rfl
theorem iL_nI {k : Nat} (hk : k < 2 ^ 31) : (nI k).toInt64 = iL k := by rw [nI_l hk]; exact Int64.ofInt_eq_ofNat.symm
theorem iL_i32 (f : Int32) : f.toInt64 = iL f.toInt := Int64.toInt_inj.mp (by
  have h1 := Int32.toInt_lt f
  have h2 := Int32.le_toInt f
  rw [Int32.toInt_toInt64]
  exact (Int64.toInt_ofInt_of_le (by omega) (by omega)).symm)
theorem iL_of (a : Int64) : a = iL a.toInt := (Int64.ofInt_toInt a).symm
theorem mul_bd {F : Int} {v : Nat} (h1 : -1000 ≤ F) (h2 : F ≤ 1000) (hv : v < 60) : -60000 ≤ F * v ∧ F * v ≤ 60000 := by
  have a1 : F * (v : Int) ≤ 1000 * v := Int.mul_le_mul_of_nonneg_right h2 (by omega)
  have a2 : (-1000) * (v : Int) ≤ F * v := Int.mul_le_mul_of_nonneg_right h1 (by omega)
  omega
def IsMin (x : Int64) (F : Int) (m : Int) : Prop := (∃ v, v < 60 ∧ tb x v = true ∧ m = F * v) ∧ ∀ v : Nat, tb x v = true → m ≤ F * v
def IsMax (x : Int64) (F : Int) (m : Int) : Prop := (∃ v, v < 60 ∧ tb x v = true ∧ m = F * v) ∧ ∀ v : Nat, tb x v = true → F * v ≤ m
theorem isMin_uniq {x : Int64} {F a b : Int} (ha : IsMin x F a) (hb : IsMin x F b) : a = b := by
  obtain ⟨⟨v, _, hv, ev⟩, h1⟩ := ha
  obtain ⟨⟨w, _, hw, ew⟩, h2⟩ := hb
  have := h1 w hw
  have := h2 v hv
  omega
theorem isMax_uniq {x : Int64} {F a b : Int} (ha : IsMax x F a) (hb : IsMax x F b) : a = b := by
  obtain ⟨⟨v, _, hv, ev⟩, h1⟩ := ha
  obtain ⟨⟨w, _, hw, ew⟩, h2⟩ := hb
  have := h1 w hw
  have := h2 v hv
  omega
theorem isMin_bd {x : Int64} {F a : Int} (h1 : -1000 ≤ F) (h2 : F ≤ 1000) (h : IsMin x F a) : -60000 ≤ a ∧ a ≤ 60000 := by
  obtain ⟨⟨v, hv, _, ev⟩, _⟩ := h
  have := mul_bd h1 h2 hv
  omega
theorem isMax_bd {x : Int64} {F a : Int} (h1 : -1000 ≤ F) (h2 : F ≤ 1000) (h : IsMax x F a) : -60000 ≤ a ∧ a ≤ 60000 := by
  obtain ⟨⟨v, hv, _, ev⟩, _⟩ := h
  have := mul_bd h1 h2 hv
  omega
theorem neg_iff (f : Int32) : f < 0 ↔ f.toInt < 0 := by
  rw [Int32.lt_iff_toInt_lt]
  exact Iff.rfl
theorem leastOf (N : Nat) {x : Int64} (h : x ≠ 0) (hb : ∀ v, tb x v = true → v < 60) (f : Int32) : ∃ m, IsMin x f.toInt m ∧ p_Kernel_leastOf N f x = some (iL m) := by
  unfold p_Kernel_leastOf
  by_cases hf : f < 0
  · obtain ⟨k, k1, k2, k3⟩ := highestOf N h hb
    rw [if_pos hf, k3, Option.bind_some, iL_i32, iL_nI (by omega), iL_mul]
    refine ⟨_, ⟨⟨k, k1, k2.1, rfl⟩, fun v hv => ?_⟩, rfl⟩
    rw [neg_iff] at hf
    exact Int.mul_le_mul_of_nonpos_left (by omega) (Int.ofNat_le.mpr (k2.2 v hv))
  · obtain ⟨k, k1, k2, k3⟩ := lowestOf N h hb
    rw [if_neg hf, k3, Option.bind_some, iL_i32, iL_nI (by omega), iL_mul]
    refine ⟨_, ⟨⟨k, k1, k2.1, rfl⟩, fun v hv => ?_⟩, rfl⟩
    rw [neg_iff] at hf
    exact Int.mul_le_mul_of_nonneg_left (Int.ofNat_le.mpr (k2.2 v hv)) (by omega)
theorem mostOf (N : Nat) {x : Int64} (h : x ≠ 0) (hb : ∀ v, tb x v = true → v < 60) (f : Int32) : ∃ m, IsMax x f.toInt m ∧ p_Kernel_mostOf N f x = some (iL m) := by
  unfold p_Kernel_mostOf
  by_cases hf : f < 0
  · obtain ⟨k, k1, k2, k3⟩ := lowestOf N h hb
    rw [if_pos hf, k3, Option.bind_some, iL_i32, iL_nI (by omega), iL_mul]
    refine ⟨_, ⟨⟨k, k1, k2.1, rfl⟩, fun v hv => ?_⟩, rfl⟩
    rw [neg_iff] at hf
    exact Int.mul_le_mul_of_nonpos_left (by omega) (Int.ofNat_le.mpr (k2.2 v hv))
  · obtain ⟨k, k1, k2, k3⟩ := highestOf N h hb
    rw [if_neg hf, k3, Option.bind_some, iL_i32, iL_nI (by omega), iL_mul]
    refine ⟨_, ⟨⟨k, k1, k2.1, rfl⟩, fun v hv => ?_⟩, rfl⟩
    rw [neg_iff] at hf
    exact Int.mul_le_mul_of_nonneg_left (Int.ofNat_le.mpr (k2.2 v hv)) (by omega)
/-- the symbols of a set whose product with the factor lies within two bounds -/
theorem within_loop (N : Nat) {S : Nat} (hS : S ≤ 60) {x : Int64} {f : Int32} (f1 : -1000 ≤ f.toInt) (f2 : f.toInt ≤ 1000) {lo hi : Int} (hlo : Md lo) (hhi : Md hi) :
    ∀ g v y, v ≤ S → S - v < g → ∃ y', q_Kernel_within_6 N (nI S) x f (iL lo) (iL hi) g y (nI v) = some y' ∧ ∀ w, w < 64 → (tb y' w = true ↔ tb y w = true ∨ (v ≤ w ∧ w < S ∧ tb x w = true ∧ lo ≤ f.toInt * w ∧ f.toInt * w ≤ hi)) := by
  intro g
  induction g with
  | zero => intro v y _ hg; omega
  | succ g ih =>
    intro v y hv hg
    rw [q_Kernel_within_6]
    show ∃ y', (if nI S ≤ nI v then _ else _) = _ ∧ _
    by_cases hc : S ≤ v
    · rw [if_pos (nI_le hc (by omega))]
      refine ⟨y, rfl, fun w hw => ⟨Or.inl, ?_⟩⟩
      rintro (z | z)
      · exact z
      · omega
    · rw [if_neg (nI_ge (by omega) (by omega)), has_tb N _ (show v < 64 by omega), Option.bind_some, iL_i32, iL_nI (by omega), iL_mul]
      have bd := mul_bd f1 f2 (show v < 60 by omega)
      have hmd : Md (f.toInt * (v : Int)) := ⟨by omega, by omega⟩
      have skip : ∀ y1 : Int64, (∀ w, w < 64 → (tb y1 w = true ↔ tb y w = true ∨ (w = v ∧ tb x v = true ∧ lo ≤ f.toInt * v ∧ f.toInt * v ≤ hi))) → ∃ y', q_Kernel_within_57 N (q_Kernel_within_6 N (nI S) x f (iL lo) (iL hi) g) y1 (nI v) = some y' ∧ ∀ w, w < 64 → (tb y' w = true ↔ tb y w = true ∨ (v ≤ w ∧ w < S ∧ tb x w = true ∧ lo ≤ f.toInt * w ∧ f.toInt * w ≤ hi)) := by
        intro y1 hy
        unfold q_Kernel_within_57
        rw [nI_1]
        obtain ⟨y', e1, h1⟩ := ih (v + 1) y1 (by omega) (by omega)
        refine ⟨y', e1, fun w hw => ?_⟩
        rw [h1 w hw, hy w hw]
        constructor
        · rintro ((z | ⟨z, z1⟩) | ⟨z, z1⟩)
          · exact Or.inl z
          · subst z; exact Or.inr ⟨Nat.le_refl _, by omega, z1⟩
          · exact Or.inr ⟨by omega, z1⟩
        · rintro (z | ⟨z, z1, z2⟩)
          · exact Or.inl (Or.inl z)
          · by_cases he : w = v
            · subst he; exact Or.inl (Or.inr ⟨rfl, z2⟩)
            · exact Or.inr ⟨by omega, z1, z2⟩
      by_cases hb : tb x v = true
      · rw [if_pos hb, if_neg (show ¬ (1 : Int32) = 0 by decide)]
        by_cases h1 : f.toInt * (v : Int) < lo
        · rw [if_pos ((lg_cmp_lt _ _).mpr ((iL_lt hmd hlo).mpr h1))]
          exact skip y (fun w hw => ⟨Or.inl, fun z => z.elim id (fun z => by omega)⟩)
        · rw [if_neg (fun z => h1 ((iL_lt hmd hlo).mp ((lg_cmp_lt _ _).mp z)))]
          by_cases h2 : hi < f.toInt * (v : Int)
          · rw [if_pos ((lg_cmp_gt _ _).mpr ((iL_lt hhi hmd).mpr h2))]
            exact skip y (fun w hw => ⟨Or.inl, fun z => z.elim id (fun z => by omega)⟩)
          · rw [if_neg (fun z => h2 ((iL_lt hhi hmd).mp ((lg_cmp_gt _ _).mp z)))]
            refine skip _ (fun w hw => ?_)
            rw [tb_or, tb_bit (by omega) hw, Bool.or_eq_true, decide_eq_true_eq]
            constructor
            · rintro (z | z)
              · exact Or.inl z
              · exact Or.inr ⟨z, hb, by omega, by omega⟩
            · rintro (z | z)
              · exact Or.inl z
              · exact Or.inr z.1
      · rw [if_neg hb, if_pos rfl]
        exact skip y (fun w hw => ⟨Or.inl, fun z => z.elim id (fun z => absurd z.2.1 hb)⟩)
theorem within_ {N : Nat} (hN : 61 ≤ N) {S : Nat} (hS : S ≤ 60) {x : Int64} (hx : ∀ v, tb x v = true → v < S) {f : Int32} (f1 : -1000 ≤ f.toInt) (f2 : f.toInt ≤ 1000) {lo hi : Int} (hlo : Md lo) (hhi : Md hi) :
    ∃ y', p_Kernel_within N (nI S) x f (iL lo) (iL hi) = some y' ∧ ∀ w, w < 64 → (tb y' w = true ↔ tb x w = true ∧ lo ≤ f.toInt * w ∧ f.toInt * w ≤ hi) := by
  obtain ⟨y', e1, h1⟩ := within_loop N hS (x := x) f1 f2 hlo hhi N 0 0 (by omega) (by omega)
  refine ⟨y', e1, fun w hw => ?_⟩
  rw [h1 w hw, tb_0]
  constructor
  · rintro (z | z)
    · cases z
    · exact z.2.2
  · intro z
    exact Or.inr ⟨Nat.zero_le _, hx w z.1, z⟩

