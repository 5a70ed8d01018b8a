/-! A rule by its number; a place comes into it; the class's sets of a place's rules. -/
theorem rk_ruleAt (N : Nat) {nR : Nat} (hR : nR ≤ 120) (a : Int32) : (∃ r, r < nR ∧ a = nI r ∧ p_RK_ruleAt N (nI nR) nR a = some (some r)) ∨ ((∀ r, r < nR → a ≠ nI r) ∧ p_RK_ruleAt N (nI nR) nR a = some none) := by
  unfold p_RK_ruleAt
  rcases pk_ix a (n := nR) (by omega) with h | h | ⟨j, hj, rfl⟩
  · exact Or.inr ⟨fun j hj e => by rw [e] at h; exact nI_pos (by omega) h, by rw [if_pos h]⟩
  · refine Or.inr ⟨fun j hj e => by rw [e] at h; exact nI_ge hj (by omega) h, ?_⟩
    rw [if_pos h]
    split <;> rfl
  · refine Or.inl ⟨j, hj, rfl, ?_⟩
    rw [if_neg (nI_pos (by omega)), if_neg (nI_ge hj (by omega)), jin_nI (by omega) (by decide), nI_clamp (by omega)]
    unfold jix
    rw [if_pos hj]
theorem rule_holds_loop (N : Nat) {s p : Nat} (hs : s ≤ 16) (hp : p < 128) {places : Nat → Int32} {pl : Nat → Nat} (h : ∀ k, k < s → places k = nI (pl k) ∧ pl k < 128) :
    ∀ n i, s - i < n → i ≤ s → (∀ k, k < i → pl k ≠ p) → (∃ k, k < s ∧ pl k = p) ∧ q_Rule_holds_2 N (nI s) places (nI p) n (nI i) = some 1 ∨ (∀ k, k < s → pl k ≠ p) ∧ q_Rule_holds_2 N (nI s) places (nI p) n (nI i) = some 0 := by
  intro n
  induction n with
  | zero => intro i h; omega
  | succ n ih =>
    intro i hn hi hne
    rw [q_Rule_holds_2]
    show (∃ k, k < s ∧ pl k = p) ∧ (if nI s ≤ nI i then _ else _) = some 1 ∨ (∀ k, k < s → pl k ≠ p) ∧ (if nI s ≤ nI i then _ else _) = some 0
    by_cases hc : s ≤ i
    · rw [if_pos (nI_le hc (by omega))]
      exact Or.inr ⟨fun k hk => hne k (by omega), rfl⟩
    · have hi2 : i < s := by omega
      obtain ⟨h1, h2⟩ := h i hi2
      rw [if_neg (nI_ge hi2 (by omega)), jin_nI (by omega) (by decide), nI_clamp (by omega), h1]
      by_cases he : pl i = p
      · rw [if_pos (by rw [he])]
        exact Or.inl ⟨⟨i, hi2, he⟩, rfl⟩
      · rw [if_neg (fun z => he ((nI_eq (by omega) (by omega)).mp z)), nI_1]
        exact ih (i + 1) (by omega) (by omega) (fun k hk => by
          by_cases hki : k = i
          · rw [hki]; exact he
          · exact hne k (by omega))
theorem rule_addPlace {N : Nat} (hN : 17 ≤ N) {s p : Nat} (hs : s ≤ 16) (hp : p < 128) {places factors : Nat → Int32} {pl : Nat → Nat} (h : ∀ k, k < s → places k = nI (pl k) ∧ pl k < 128) (f : Int32) :
    (s < 16 ∧ (∀ k, k < s → pl k ≠ p) ∧ p_Rule_addPlace N (nI s) places factors (nI p) f = some (1, nI (s + 1), upd places s (nI p), upd factors s f)) ∨
    (¬ (s < 16 ∧ ∀ k, k < s → pl k ≠ p) ∧ p_Rule_addPlace N (nI s) places factors (nI p) f = some (0, nI s, places, factors)) := by
  unfold p_Rule_addPlace
  by_cases c1 : s < 16
  · rw [if_neg (show ¬ (16 : Int32) ≤ nI s from nI_ge (b := 16) c1 (by decide))]
    have e := rule_holds_loop N hs hp h N 0 (by omega) (by omega) (fun k hk => absurd hk (Nat.not_lt_zero _))
    unfold p_Rule_holds
    rcases e with ⟨⟨k, hk, hk2⟩, e1⟩ | ⟨hno, e1⟩
    · refine Or.inr ⟨fun z => z.2 k hk hk2, ?_⟩
      rw [show (0 : Int32) = nI 0 from rfl, e1]
      rfl
    · refine Or.inl ⟨c1, hno, ?_⟩
      have e2 : q_Rule_holds_2 N (nI s) places (nI p) N (0 : Int32) = some 0 := e1
      rw [e2, Option.bind_some, if_pos rfl, jin_nI c1 (by decide), jin_nI c1 (by decide), nI_clamp (by omega), nI_1]
  · exact Or.inr ⟨fun z => c1 z.1, by rw [if_pos (show (16 : Int32) ≤ nI s from nI_le (a := 16) (by omega) (by omega))]⟩
/-- one more rule of a place is noted -/
theorem note_bits {x : Int64} {j i : Nat} (hj : j < 64) (hi : i < 64) : tb (x ||| j_lshl 1 (nI j)) i = (tb x i || decide (i = j)) := by
  rw [tb_or, tb_bit hj hi]
theorem rk_note (N : Nat) {P nR p r : Nat} (hP : P ≤ 128) (hR : nR ≤ 120) (hp : p < P) (hr : r < nR) {lower upper : Nat → Int64} {sz sz' : Nat → Nat} {pl pl' : Nat → Nat → Nat} (hW : LowUp P nR lower upper sz pl) (hin : ∀ q i, i < nR → q < P → inR sz' pl' i q = (inR sz pl i q || (decide (i = r) && decide (q = p)))) :
    ∃ lo up, p_RK_noteRuleOfPlace N P P lower upper (nI p) (nI r) = some (lo, up) ∧ LowUp P nR lo up sz' pl' := by
  unfold p_RK_noteRuleOfPlace
  by_cases c : 60 ≤ r
  · rw [if_pos (show (60 : Int32) ≤ nI r from nI_le (a := 60) c (by omega)), jin_nI hp (by omega), jin_nI hp (by omega), nI_clamp (by omega), show (60 : Int32) = nI 60 from rfl, pk_sub c]
    refine ⟨_, _, rfl, ?_⟩
    intro q hq
    obtain ⟨w1, w2, w3, w4⟩ := hW q hq
    refine ⟨fun i hi => ?_, fun i hi => ?_, w3, fun i h1 h2 => ?_⟩
    · rw [w1 i hi]
      by_cases hn : i < nR
      · rw [hin q i hn hq, decide_eq_false (show ¬ i = r by omega)]; simp
      · rw [decide_eq_false hn]; simp
    · by_cases hqp : q = p
      · subst hqp
        rw [pk_uLs, note_bits (by omega) (by omega), w2 i hi]
        by_cases hn : 60 + i < nR
        · rw [hin q (60 + i) hn hq, decide_eq_true hn]
          have e : decide (i = r - 60) = decide (60 + i = r) := decide_eq_decide.mpr (by omega)
          rw [e]; simp
        · rw [decide_eq_false hn, decide_eq_false (show ¬ i = r - 60 by omega)]; simp
      · rw [pk_uLn hqp, w2 i hi]
        by_cases hn : 60 + i < nR
        · rw [hin q (60 + i) hn hq, decide_eq_false hqp]; simp
        · rw [decide_eq_false hn]; simp
    · by_cases hqp : q = p
      · subst hqp
        rw [pk_uLs, note_bits (by omega) h2, w4 i h1 h2, decide_eq_false (show ¬ i = r - 60 by omega)]
        rfl
      · rw [pk_uLn hqp]; exact w4 i h1 h2
  · rw [if_neg (show ¬ (60 : Int32) ≤ nI r from nI_ge (b := 60) (by omega) (by decide)), jin_nI hp (by omega), jin_nI hp (by omega), nI_clamp (by omega)]
    refine ⟨_, _, rfl, ?_⟩
    intro q hq
    obtain ⟨w1, w2, w3, w4⟩ := hW q hq
    refine ⟨fun i hi => ?_, fun i hi => ?_, fun i h1 h2 => ?_, w4⟩
    · by_cases hqp : q = p
      · subst hqp
        rw [pk_uLs, note_bits (by omega) (by omega), w1 i hi]
        by_cases hn : i < nR
        · rw [hin q i hn hq, decide_eq_true hn]; simp
        · rw [decide_eq_false hn, decide_eq_false (show ¬ i = r by omega)]; simp
      · rw [pk_uLn hqp, w1 i hi]
        by_cases hn : i < nR
        · rw [hin q i hn hq, decide_eq_false hqp]; simp
        · rw [decide_eq_false hn]; simp
    · rw [w2 i hi]
      by_cases hn : 60 + i < nR
      · rw [hin q (60 + i) hn hq, decide_eq_false (show ¬ 60 + i = r by omega)]; simp
      · rw [decide_eq_false hn]; simp
    · by_cases hqp : q = p
      · subst hqp
        rw [pk_uLs, note_bits (by omega) h2, w3 i h1 h2, decide_eq_false (show ¬ i = r by omega)]
        rfl
      · rw [pk_uLn hqp]; exact w3 i h1 h2

