/-! The class's waking. -/
theorem rk_wake_loop (N : Nat) {head : Int32} {b : Int64} {f : Nat} (hf : f + 60 ≤ 120) {but : Option Nat} {t : Int32} (ht : ∀ i, i < 120 → (nI i = t ↔ some i = but)) {c : Nat → Bool} (hc : ∀ i, i < 60 → tb b i = c (f + i)) (hb : ∀ i, 60 ≤ i → i < 64 → tb b i = false) :
    ∀ n i size ring waits l, 60 - i < n → i ≤ 60 → RowOK head size ring waits l → ∃ s' g' w', q_RK_wake_3 N head b (nI f) t n (nI i) size ring waits = some (s', g', w') ∧ RowOK head s' g' w' (gf c but (60 - i) (f + i) l) := by
  intro n
  induction n with
  | zero => intro i size ring waits l h; omega
  | succ n ih =>
    intro i size ring waits l hn hi hl
    rw [q_RK_wake_3]
    show ∃ s' g' w', (if nI 60 ≤ nI i then _ else _) = some (s', g', w') ∧ _
    by_cases h60 : 60 ≤ i
    · rw [if_pos (nI_le h60 (by omega)), show 60 - i = 0 by omega]
      exact ⟨_, _, _, rfl, hl⟩
    · have hi2 : i < 60 := by omega
      rw [if_neg (nI_ge hi2 (by decide))]
      by_cases hz : j_lushr b (nI i) = 0
      · rw [if_pos ((lg_cmp_eq _ _).mpr hz)]
        refine ⟨_, _, _, rfl, ?_⟩
        rw [gf_none]
        · exact hl
        · intro j h1 h2
          have h3 := tb_zero.mp hz (j - f - i) (by omega)
          rw [tb_ushr i (by omega), show i + (j - f - i) = j - f by omega, hc (j - f) (by omega), show f + (j - f) = j by omega] at h3
          exact h3
      · rw [if_neg (fun h => hz ((lg_cmp_eq _ _).mp h)), has_tb N b (show i < 64 by omega), show 60 - i = (60 - (i + 1)) + 1 by omega, gf_s, ← hc i hi2]
        show ∃ s' g' w', (if (if tb b i = true then (1 : Int32) else 0) = 0 then _ else _) = some (s', g', w') ∧ _
        by_cases hbit : tb b i = true
        · rw [if_pos hbit, if_neg (show ¬ (1 : Int32) = 0 by decide), nI_add]
          by_cases hbt : nI (f + i) = t
          · rw [if_pos hbt, if_neg (fun z => z.1 ((ht (f + i) (by omega)).mp hbt))]
            unfold q_RK_wake_48
            rw [nI_1, show f + i + 1 = f + (i + 1) by omega]
            exact ih (i + 1) size ring waits l (by omega) (by omega) hl
          · have hne : some (f + i) ≠ but := fun z => hbt ((ht (f + i) (by omega)).mpr z)
            rw [if_neg hbt, if_pos ⟨hne, hbit⟩]
            obtain ⟨s1, g1, w1, e1, h1⟩ := row_join N hl (show f + i < 120 by omega)
            rw [e1]
            show ∃ s' g' w', q_RK_wake_48 N _ (nI i) s1 g1 w1 = some (s', g', w') ∧ _
            unfold q_RK_wake_48
            rw [nI_1, show f + i + 1 = f + (i + 1) by omega]
            exact ih (i + 1) s1 g1 w1 _ (by omega) (by omega) h1
        · rw [if_neg hbit, if_pos rfl, if_neg (fun z => hbit z.2)]
          unfold q_RK_wake_48
          rw [nI_1, show f + i + 1 = f + (i + 1) by omega]
          exact ih (i + 1) size ring waits l (by omega) (by omega) hl
theorem rk_wake {N : Nat} (hN : 61 ≤ N) {head : Int32} {b : Int64} {f : Nat} (hf : f + 60 ≤ 120) {but : Option Nat} {t : Int32} (ht : ∀ i, i < 120 → (nI i = t ↔ some i = but)) {c : Nat → Bool} (hc : ∀ i, i < 60 → tb b i = c (f + i)) (hb : ∀ i, 60 ≤ i → i < 64 → tb b i = false) {size : Int32} {ring waits : Nat → Int32} {l : List Nat} (hl : RowOK head size ring waits l) :
    ∃ s' g' w', p_RK_wake N head size ring waits b (nI f) t = some (s', g', w') ∧ RowOK head s' g' w' (gf c but 60 f l) := by
  unfold p_RK_wake
  exact rk_wake_loop N hf ht hc hb N 0 size ring waits l (by omega) (by omega) hl
/-- both halves: all the rules of a place -/
theorem rk_wake2 {N : Nat} (hN : 61 ≤ N) {head : Int32} {b1 b2 : Int64} {but : Option Nat} {t : Int32} (ht : ∀ i, i < 120 → (nI i = t ↔ some i = but)) {c : Nat → Bool} {nR : Nat} (hR : nR ≤ 120) (h1 : ∀ i, i < 60 → tb b1 i = c i) (h2 : ∀ i, i < 60 → tb b2 i = c (60 + i)) (z1 : ∀ i, 60 ≤ i → i < 64 → tb b1 i = false) (z2 : ∀ i, 60 ≤ i → i < 64 → tb b2 i = false) (hz : ∀ i, nR ≤ i → i < 120 → c i = false) {size : Int32} {ring waits : Nat → Int32} {l : List Nat} (hl : RowOK head size ring waits l) :
    ∃ s1 g1 w1 s' g' w', p_RK_wake N head size ring waits b1 (0 : Int32) t = some (s1, g1, w1) ∧ p_RK_wake N head s1 g1 w1 b2 (60 : Int32) t = some (s', g', w') ∧ RowOK head s' g' w' (gf c but nR 0 l) := by
  obtain ⟨s1, g1, w1, e1, h3⟩ := rk_wake hN (f := 0) (by decide) ht (c := c) (fun i hi => by rw [h1 i hi, Nat.zero_add]) z1 hl
  obtain ⟨s2, g2, w2, e2, h4⟩ := rk_wake hN (f := 60) (by decide) ht (c := c) h2 z2 h3
  refine ⟨s1, g1, w1, s2, g2, w2, e1, e2, ?_⟩
  have e := gf_add c but 60 60 0 l
  rw [Nat.zero_add] at e
  rw [← e, show 60 + 60 = nR + (120 - nR) by omega, gf_add, gf_none] at h4
  · exact h4
  · intro j h5 h6
    exact hz j (by omega) (by omega)

