/-! Bits of ints; counting. -/
theorem bt_ext {x y : Int32} (h : ∀ i, i < 32 → bt x i = bt y i) : x = y := Int32.toBitVec_inj.mp (BitVec.eq_of_getLsbD_eq (fun i hi => h i hi))
theorem bt_or (x y : Int32) (i : Nat) : bt (x ||| y) i = (bt x i || bt y i) := by unfold bt; rw [Int32.toBitVec_or, BitVec.getLsbD_or]
theorem bt_and (x y : Int32) (i : Nat) : bt (x &&& y) i = (bt x i && bt y i) := by unfold bt; rw [Int32.toBitVec_and, BitVec.getLsbD_and]
theorem bt_0 (i : Nat) : bt 0 i = false := BitVec.getLsbD_zero
theorem bt_1 : ∀ i, i < 32 → bt 1 i = decide (i = 0) := by decide +kernel
theorem bt_bit' : ∀ k, k < 32 → ∀ i, i < 32 → bt ((1 : Int32) <<< (nI k &&& 31)) i = decide (i = k) := by decide +kernel
theorem bt_bit {k i : Nat} (hk : k < 32) (hi : i < 32) : bt ((1 : Int32) <<< (nI k &&& 31)) i = decide (i = k) := bt_bit' k hk i hi
theorem su5 : ∀ n, n < 32 → (((nI n).toUInt32 &&& Int32.toUInt32 31).toBitVec % 32).toNat = n := by decide +kernel
theorem bt_ushr (n : Nat) (hn : n < 32) (x : Int32) (i : Nat) : bt (j_iushr x (nI n)) i = bt x (n + i) := by
  show (x.toUInt32 >>> ((nI n).toUInt32 &&& Int32.toUInt32 31)).toBitVec.getLsbD i = x.toUInt32.toBitVec.getLsbD (n + i)
  rw [UInt32.toBitVec_shiftRight]
  show (x.toUInt32.toBitVec >>> (((nI n).toUInt32 &&& Int32.toUInt32 31).toBitVec % 32).toNat).getLsbD i = _
  rw [su5 n hn, BitVec.getLsbD_ushiftRight]
theorem bt_test {n : Nat} (hn : n < 32) (x : Int32) : (j_iushr x (nI n) &&& (1 : Int32)) = 0 ↔ bt x n = false := by
  rw [bt_zero]
  constructor
  · intro h
    have := h 0 (by decide)
    rw [bt_and, bt_ushr n hn, bt_1 0 (by decide)] at this
    simpa using this
  · intro h j hj
    rw [bt_and, bt_ushr n hn, bt_1 j hj]
    by_cases hj0 : j = 0
    · subst hj0; simp [h]
    · simp [hj0]
def cnt (f : Nat → Bool) : Nat → Nat
  | 0 => 0
  | n + 1 => cnt f n + (if f n = true then 1 else 0)
theorem cnt_s (f : Nat → Bool) (n : Nat) : cnt f (n + 1) = cnt f n + (if f n = true then 1 else 0) := rfl
theorem cnt_congr {f g : Nat → Bool} : ∀ n, (∀ i, i < n → f i = g i) → cnt f n = cnt g n := by
  intro n
  induction n with
  | zero => intro _; rfl
  | succ n ih =>
    intro h
    rw [cnt_s, cnt_s, ih (fun i hi => h i (by omega)), h n (by omega)]
theorem cnt_le_n (f : Nat → Bool) : ∀ n, cnt f n ≤ n := by
  intro n
  induction n with
  | zero => exact Nat.le_refl 0
  | succ n ih => rw [cnt_s]; split <;> omega
theorem cnt_all : ∀ n, cnt (fun _ => true) n = n := by
  intro n
  induction n with
  | zero => rfl
  | succ n ih => rw [cnt_s, ih, if_pos rfl]
theorem cnt_rem {f : Nat → Bool} {v : Nat} (hv : f v = true) : ∀ n, v < n → cnt f n = cnt (fun x => f x && !decide (x = v)) n + 1 := by
  intro n
  induction n with
  | zero => intro h; omega
  | succ n ih =>
    intro h
    rw [cnt_s, cnt_s]
    by_cases hvn : v = n
    · subst hvn
      rw [if_pos hv, cnt_congr (f := fun x => f x && !decide (x = v)) (g := f) v (fun i hi => by simp; omega)]
      simp
    · rw [ih (by omega)]
      have : (f n && !decide (n = v)) = f n := by simp; omega
      rw [this]
      omega
theorem cnt_inj : ∀ (n : Nat) (S V : Nat → Bool) (m : Nat) (g : Nat → Nat), (∀ i, i < n → S i = true → g i < m ∧ V (g i) = true) → (∀ i j, i < n → j < n → S i = true → S j = true → g i = g j → i = j) → cnt S n ≤ cnt V m := by
  intro n
  induction n with
  | zero => intro S V m g _ _; exact Nat.zero_le _
  | succ n ih =>
    intro S V m g h1 h2
    rw [cnt_s]
    by_cases hs : S n = true
    · rw [if_pos hs]
      obtain ⟨h3, h4⟩ := h1 n (by omega) hs
      have := ih S (fun x => V x && !decide (x = g n)) m g (fun i hi hsi => by
        obtain ⟨h5, h6⟩ := h1 i (by omega) hsi
        refine ⟨h5, ?_⟩
        have : g i ≠ g n := fun e => by
          have := h2 i n (by omega) (by omega) hsi hs e
          omega
        show (V (g i) && !decide (g i = g n)) = true
        rw [h6, decide_eq_false this]
        rfl) (fun i j hi hj => h2 i j (by omega) (by omega))
      rw [cnt_rem h4 m h3]
      omega
    · rw [if_neg hs]
      exact ih S V m g (fun i hi => h1 i (by omega)) (fun i j hi hj => h2 i j (by omega) (by omega))
theorem cnt_surj {n m : Nat} {S V : Nat → Bool} {g : Nat → Nat} (h1 : ∀ i, i < n → S i = true → g i < m ∧ V (g i) = true) (h2 : ∀ i j, i < n → j < n → S i = true → S j = true → g i = g j → i = j) (hc : cnt V m ≤ cnt S n) {v : Nat} (hv : v < m) (hV : V v = true) : ∃ i, i < n ∧ S i = true ∧ g i = v := by
  apply Classical.byContradiction
  intro hno
  have := cnt_inj n S (fun x => V x && !decide (x = v)) m g (fun i hi hs => by
    obtain ⟨h3, h4⟩ := h1 i hi hs
    refine ⟨h3, ?_⟩
    have : g i ≠ v := fun e => hno ⟨i, hi, hs, e⟩
    show (V (g i) && !decide (g i = v)) = true
    rw [h4, decide_eq_false this]
    rfl) h2
  rw [cnt_rem hV m hv] at hc
  omega
/-- the symbols that the places of A have together -/
def un (have_ : Nat → Int64) (A : Nat → Bool) (n v : Nat) : Bool := (List.range n).any (fun i => A i && tb (have_ i) v)
theorem un_iff {h : Nat → Int64} {A : Nat → Bool} {n v : Nat} : un h A n v = true ↔ ∃ i, i < n ∧ A i = true ∧ tb (h i) v = true := by
  unfold un
  rw [List.any_eq_true]
  constructor
  · rintro ⟨i, hi, e⟩
    rw [Bool.and_eq_true] at e
    exact ⟨i, List.mem_range.mp hi, e.1, e.2⟩
  · rintro ⟨i, hi, e1, e2⟩
    exact ⟨i, List.mem_range.mpr hi, by rw [e1, e2]; rfl⟩
/-- some places have together too few symbols -/
def Few (h : Nat → Int64) (n : Nat) : Prop := ∃ A : Nat → Bool, cnt (un h A n) 60 < cnt A n
/-- a way to give the first w places different symbols -/
def Mat (h : Nat → Int64) (w : Nat) (used : Int64) (given : Nat → Int32) (gv : Nat → Nat) : Prop := (∀ i, i < w → given i = nI (gv i) ∧ gv i < 60 ∧ tb (h i) (gv i) = true) ∧ (∀ i j, i < w → j < w → gv i = gv j → i = j) ∧ (∀ v, v < 64 → (tb used v = true ↔ ∃ i, i < w ∧ gv i = v))

