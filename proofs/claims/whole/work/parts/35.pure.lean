/-! A removal with its waking; whether there is such a place, symbol, candidate. -/
def LowUp (P nR : Nat) (lower upper : Nat → Int64) (sz : Nat → Nat) (pl : Nat → Nat → Nat) : Prop := ∀ p, p < P → (∀ i, i < 60 → tb (lower p) i = (decide (i < nR) && inR sz pl i p)) ∧ (∀ i, i < 60 → tb (upper p) i = (decide (60 + i < nR) && inR sz pl (60 + i) p)) ∧ (∀ i, 60 ≤ i → i < 64 → tb (lower p) i = false) ∧ (∀ i, 60 ≤ i → i < 64 → tb (upper p) i = false)
theorem rk_removeAndWake {N P S p nR : Nat} (hN : 61 ≤ N) (hP : P ≤ 128) (hS : S ≤ 60) (hp : p < P) (hR : nR ≤ 120) {gone empty : Int32} {cand : Nat → Int64} {reasons trail : Nat → Int32} {tr : List Nat} {rs : Nat → Int32} (h : BoardOK P S gone empty cand reasons trail tr rs) {lower upper : Nat → Int64} {sz : Nat → Nat} {pl : Nat → Nat → Nat} (hW : LowUp P nR lower upper sz pl) {head size : Int32} {ring waits : Nat → Int32} {l : List Nat} (hl : RowOK head size ring waits l) (sy : Int64) {why : Int32} {but : Option Nat} (ht : ∀ i, i < 120 → (nI i = why ↔ some i = but)) :
    ∃ g e c re t s' g' w', p_RK_removeAndWake N P (64 * P) (P * S) P P (nI S) gone empty cand reasons trail lower upper head size ring waits (nI p) sy why = some (g, e, c, re, t, s', g', w') ∧ BoardOK P S g e c re t (tr ++ lostL p (cand p &&& sy) S) (fun c => if c ∈ tr then rs c else why) ∧ RowOK head s' g' w' (if cand p &&& sy = 0 then l else gf (fun r => inR sz pl r p) but nR 0 l) ∧ (∀ q, q ≠ p → c q = cand q) ∧ c p = cand p &&& ((cand p &&& sy) ^^^ (-1)) := by
  obtain ⟨r, g, e, c, re, t, e1, er, h1, h2, h3⟩ := board_remove hN hP hS hp h sy why
  unfold p_RK_removeAndWake
  rw [e1]
  show ∃ g_1 e_1 c_1 re_1 t_1 s' g' w', (if r = 0 then _ else _) = some (g_1, e_1, c_1, re_1, t_1, s', g', w') ∧ _
  by_cases hz : cand p &&& sy = 0
  · rw [if_pos hz] at er
    rw [if_pos er, if_pos hz]
    exact ⟨_, _, _, _, _, _, _, _, rfl, h1, hl, h2, h3⟩
  · rw [if_neg hz] at er
    obtain ⟨w1, w2, w3, w4⟩ := hW p hp
    obtain ⟨s1, g1, v1, s2, g2, v2, e2, e3, h4⟩ := rk_wake2 (N := N) hN (head := head) (b1 := lower p) (b2 := upper p) ht (c := fun r => decide (r < nR) && inR sz pl r p) hR w1 w2 w3 w4 (fun i h5 _ => by show (decide (i < nR) && inR sz pl i p) = false; rw [decide_eq_false (by omega), Bool.false_and]) hl
    rw [if_neg (show ¬ r = 0 by rw [er]; decide), jin_nI hp (by omega), nI_clamp (by omega), e2]
    show ∃ g_1 e_1 c_1 re_1 t_1 s' g' w', jin (nI p) P _ = some (g_1, e_1, c_1, re_1, t_1, s', g', w') ∧ _
    rw [jin_nI hp (by omega), e3, if_neg hz]
    refine ⟨_, _, _, _, _, _, _, _, rfl, h1, ?_, h2, h3⟩
    rw [gf_congr (d := fun r => inR sz pl r p) but nR 0 l (fun j _ h5 => by show (decide (j < nR) && inR sz pl j p) = inR sz pl j p; rw [decide_eq_true (by omega), Bool.true_and])] at h4
    exact h4
theorem bd_hasPlace (N : Nat) {P : Nat} (hP : P < 2 ^ 31) (a : Int32) : (∃ j, j < P ∧ a = nI j ∧ p_Board_hasPlace N P a = some 1) ∨ ((∀ j, j < P → a ≠ nI j) ∧ p_Board_hasPlace N P a = some 0) := by
  unfold p_Board_hasPlace
  rcases pk_ix a hP with h | h | ⟨j, hj, rfl⟩
  · exact Or.inr ⟨fun j hj e => by rw [e] at h; exact nI_pos (by omega) h, by rw [if_pos h]⟩
  · refine Or.inr ⟨fun j hj e => by rw [e] at h; exact nI_ge hj hP h, ?_⟩
    rw [if_pos h]
    split <;> rfl
  · exact Or.inl ⟨j, hj, rfl, by rw [if_neg (nI_pos (by omega)), if_neg (nI_ge hj hP)]⟩
theorem bd_hasSymbol (N : Nat) {S : Nat} (hS : S < 2 ^ 31) (a : Int32) : (∃ j, j < S ∧ a = nI j ∧ p_Board_hasSymbol N (nI S) a = some 1) ∨ ((∀ j, j < S → a ≠ nI j) ∧ p_Board_hasSymbol N (nI S) a = some 0) := by
  unfold p_Board_hasSymbol
  rcases pk_ix a hS with h | h | ⟨j, hj, rfl⟩
  · exact Or.inr ⟨fun j hj e => by rw [e] at h; exact nI_pos (by omega) h, by rw [if_pos h]⟩
  · refine Or.inr ⟨fun j hj e => by rw [e] at h; exact nI_ge hj hS h, ?_⟩
    rw [if_pos h]
    split <;> rfl
  · exact Or.inl ⟨j, hj, rfl, by rw [if_neg (nI_pos (by omega)), if_neg (nI_ge hj hS)]⟩
theorem mo_isPlace (N : Nat) {P : Nat} (hP : P < 2 ^ 31) (a : Int32) : (∃ j, j < P ∧ a = nI j ∧ p_Mo_isPlace N (nI P) a = some 1) ∨ ((∀ j, j < P → a ≠ nI j) ∧ p_Mo_isPlace N (nI P) a = some 0) := by
  unfold p_Mo_isPlace
  rcases pk_ix a hP with h | h | ⟨j, hj, rfl⟩
  · exact Or.inr ⟨fun j hj e => by rw [e] at h; exact nI_pos (by omega) h, by rw [if_pos h]⟩
  · refine Or.inr ⟨fun j hj e => by rw [e] at h; exact nI_ge hj hP h, ?_⟩
    rw [if_pos h]
    split <;> rfl
  · exact Or.inl ⟨j, hj, rfl, by rw [if_neg (nI_pos (by omega)), if_neg (nI_ge hj hP)]⟩
theorem mo_isSymbol (N : Nat) {P : Nat} (hP : P < 2 ^ 31) (a : Int32) : (∃ j, j < P ∧ a = nI j ∧ p_Mo_isSymbol N (nI P) a = some 1) ∨ ((∀ j, j < P → a ≠ nI j) ∧ p_Mo_isSymbol N (nI P) a = some 0) := by
  unfold p_Mo_isSymbol
  rcases pk_ix a hP with h | h | ⟨j, hj, rfl⟩
  · exact Or.inr ⟨fun j hj e => by rw [e] at h; exact nI_pos (by omega) h, by rw [if_pos h]⟩
  · refine Or.inr ⟨fun j hj e => by rw [e] at h; exact nI_ge hj hP h, ?_⟩
    rw [if_pos h]
    split <;> rfl
  · exact Or.inl ⟨j, hj, rfl, by rw [if_neg (nI_pos (by omega)), if_neg (nI_ge hj hP)]⟩
theorem mo_isRule (N : Nat) {P : Nat} (hP : P < 2 ^ 31) (a : Int32) : (∃ j, j < P ∧ a = nI j ∧ p_Mo_isRule N (nI P) a = some 1) ∨ ((∀ j, j < P → a ≠ nI j) ∧ p_Mo_isRule N (nI P) a = some 0) := by
  unfold p_Mo_isRule
  rcases pk_ix a hP with h | h | ⟨j, hj, rfl⟩
  · exact Or.inr ⟨fun j hj e => by rw [e] at h; exact nI_pos (by omega) h, by rw [if_pos h]⟩
  · refine Or.inr ⟨fun j hj e => by rw [e] at h; exact nI_ge hj hP h, ?_⟩
    rw [if_pos h]
    split <;> rfl
  · exact Or.inl ⟨j, hj, rfl, by rw [if_neg (nI_pos (by omega)), if_neg (nI_ge hj hP)]⟩
theorem tb_sshr0 (n : Nat) (hn : n < 64) (x : Int64) : tb (j_lshr x (nI n)) 0 = tb x n := by
  unfold tb j_lshr
  rw [Int64.toBitVec_shiftRight]
  show (x.toBitVec.sshiftRight (((nI n).toInt64 &&& 63).toBitVec.smod 64).toNat).getLsbD 0 = _
  rw [sl6 n hn, BitVec.getLsbD_sshiftRight]
  simp [hn]
theorem mo_has (N : Nat) (x : Int64) {i : Nat} (hi : i < 64) : p_Mo_has N x (nI i) = some (if tb x i = true then 1 else 0) := by
  unfold p_Mo_has
  have e : ∀ b, tb x i = b → (j_lshr x (nI i) &&& (1 : Int64)) = if b = true then 1 else 0 := by
    intro b hb
    apply tb_ext
    intro j hj
    rw [tb_and, tb_1 j hj]
    by_cases hj0 : j = 0
    · subst hj0
      rw [tb_sshr0 i hi, hb]
      cases b
      · simp [tb_0]
      · simp [tb_1 0 (by decide)]
    · cases b
      · simp [tb_0, hj0]
      · simp [tb_1 j hj, hj0]
  by_cases hb : tb x i = true
  · rw [if_pos hb, e true hb, if_pos rfl]
    rfl
  · have hb' : tb x i = false := by simpa using hb
    rw [if_neg hb, e false hb']
    rfl
/-- the class's answer to: is this a candidate -/
theorem bd_isCandidate (N : Nat) {P S : Nat} (hP : P ≤ 128) (hS : S ≤ 60) {cand : Nat → Int64} (a b : Int32) : (∃ p v, p < P ∧ v < S ∧ a = nI p ∧ b = nI v ∧ p_Board_isCandidate N P (nI S) cand a b = some (if tb (cand p) v = true then 1 else 0)) ∨ (((∀ j, j < P → a ≠ nI j) ∨ (∀ j, j < S → b ≠ nI j)) ∧ p_Board_isCandidate N P (nI S) cand a b = some 0) := by
  unfold p_Board_isCandidate
  rcases bd_hasPlace N (P := P) (by omega) a with ⟨p, hp, rfl, e1⟩ | ⟨h, e1⟩
  · rcases bd_hasSymbol N (S := S) (by omega) b with ⟨v, hv, rfl, e2⟩ | ⟨h, e2⟩
    · refine Or.inl ⟨p, v, hp, hv, rfl, rfl, ?_⟩
      rw [e1, Option.bind_some, if_neg (show ¬ (1 : Int32) = 0 by decide), e2, Option.bind_some, if_neg (show ¬ (1 : Int32) = 0 by decide), jin_nI hp (by omega), nI_clamp (by omega), has_tb N _ (show v < 64 by omega), Option.bind_some]
      by_cases hb : tb (cand p) v = true
      · rw [if_pos hb, if_neg (show ¬ (1 : Int32) = 0 by decide)]
      · rw [if_neg hb, if_pos rfl]
    · refine Or.inr ⟨Or.inr h, ?_⟩
      rw [e1, Option.bind_some, if_neg (show ¬ (1 : Int32) = 0 by decide), e2]
      rfl
  · refine Or.inr ⟨Or.inl h, ?_⟩
    rw [e1]
    rfl

