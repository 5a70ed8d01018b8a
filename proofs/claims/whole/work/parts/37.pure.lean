/-! candidates, order, set. -/
theorem rk_candidates (N : Nat) {P S : Nat} (hP : P ≤ 128) {c d : Nat → Int64} {tr : List Nat} (h1 : CandOK P S c tr) (h2 : CandOK P S d tr) (a : Int32) : ∃ o : Int64, p_RK_candidates N P c a = some o ∧ p_Mo_candidates N (nI P) d a = some (o, 0) := by
  unfold p_RK_candidates p_Mo_candidates
  rcases bd_hasPlace N (P := P) (by omega) a with ⟨p, hp, rfl, e1⟩ | ⟨hno, e1⟩
  · rcases mo_isPlace N (P := P) (by omega) (nI p) with ⟨q, hq, hqe, e2⟩ | ⟨hno, e2⟩
    · refine ⟨c p, ?_, ?_⟩
      · rw [e1, Option.bind_some, if_neg (show ¬ (1 : Int32) = 0 by decide), jin_nI hp (by omega), nI_clamp (by omega)]
      · rw [e2, Option.bind_some, if_neg (show ¬ (1 : Int32) = 0 by decide), jin_nI (by omega) (by omega), nI_clamp (by omega), h1.eq h2 hp]
    · exact absurd rfl (hno p hp)
  · rcases mo_isPlace N (P := P) (by omega) a with ⟨q, hq, hqe, e2⟩ | ⟨_, e2⟩
    · exact absurd hqe (hno q hq)
    · exact ⟨-1, by rw [e1, Option.bind_some, if_pos rfl], by rw [e2, Option.bind_some, if_pos rfl]⟩
/-- what was told: how many, and the first thousand -/
def ToldOK (count : Int32) (numbers : Nat → Int32) (tn : Nat) (tf : Nat → Nat) : Prop := count = nI tn ∧ tn < 2 ^ 31 ∧ ∀ k, k < tn → k < 1000 → numbers k = nI (tf k)
theorem rk_order (N : Nat) {count woken : Int32} {numbers order : Nat → Int32} {tn : Nat} {tf : Nat → Nat} (h1 : ToldOK count numbers tn tf) (h2 : ToldOK woken order tn tf) (a : Int32) : ∃ o : Int32, p_RK_order N count numbers a = some o ∧ p_Mo_order N woken order a = some (o, 0) := by
  obtain ⟨rfl, ht, h3⟩ := h1
  obtain ⟨rfl, -, h4⟩ := h2
  unfold p_RK_order p_Told_ruleAt p_Mo_order
  by_cases c1 : a < 0
  · exact ⟨-1, by rw [if_pos c1]; rfl, by rw [if_pos c1]⟩
  · by_cases c2 : nI tn ≤ a
    · exact ⟨-1, by rw [if_neg c1, if_pos c2]; rfl, by rw [if_neg c1, if_pos c2]⟩
    · by_cases c3 : nI 1000 ≤ a
      · exact ⟨-1, by rw [if_neg c1, if_neg c2, if_pos c3]; rfl, by rw [if_neg c1, if_neg c2]; exact if_pos c3⟩
      · rcases pk_ix a (n := 1000) (by decide) with z | z | ⟨j, hj, rfl⟩
        · exact absurd z c1
        · exact absurd z c3
        · have hjt : j < tn := by
            rcases Nat.lt_or_ge j tn with z | z
            · exact z
            · exact absurd (nI_le z (by omega)) c2
          refine ⟨nI (tf j), ?_, ?_⟩
          · rw [if_neg c1, if_neg c2, if_neg c3, jin_nI hj (by decide), nI_clamp (by omega), h3 j hjt hj]; rfl
          · rw [if_neg c1, if_neg c2]
            show (if nI 1000 ≤ nI j then _ else _) = _
            rw [if_neg c3, jin_nI hj (by decide), nI_clamp (by omega), h4 j hjt hj]
/-- the reference's removal of all symbols of X below S, one after the other -/
theorem mo_set_loop (N : Nat) {P S p v0 nR : Nat} (hP : P ≤ 128) (hS : S ≤ 60) (hp : p < P) (hv0 : v0 < S) {X : Int64} {tr : List Nat} {rs : Nat → Int32} {sizes members : Nat → Int32} {waits : Int32} {row : Nat → Int32} {th : Int32} (hX : ∀ v, v < S → (tb X v = true ↔ v ≠ v0 ∧ 64 * p + v ∉ tr)) (hT0 : TrOK P S tr) :
    ∀ n i x3 cand reasons, S - i < n → i ≤ S → TrOK P S (tr ++ lostL p X i) → MoBd P S cand reasons (tr ++ lostL p X i) (fun c => if c ∈ tr then rs c else -1) → (x3 = if lostL p X i = [] then 0 else 1) →
      ∃ x3' cand' reasons', q_Mo_set_65 N (nI S) (nI nR) sizes members (nI p) (nI v0) n x3 (nI i) th waits cand reasons row = q_Mo_set_113 N (nI nR) sizes members (nI p) x3' th waits cand' reasons' row ∧ TrOK P S (tr ++ lostL p X S) ∧ MoBd P S cand' reasons' (tr ++ lostL p X S) (fun c => if c ∈ tr then rs c else -1) ∧ x3' = (if lostL p X S = [] then 0 else 1) := by
  intro n
  induction n with
  | zero => intro i x3 cand reasons h; omega
  | succ n ih =>
    intro i x3 cand reasons hn hi hT hB hx
    rw [q_Mo_set_65]
    show ∃ x3' cand' reasons', (if nI S ≤ nI i then _ else _) = _ ∧ _
    by_cases hc : S ≤ i
    · have : i = S := by omega
      subst this
      rw [if_pos (nI_le hc (by omega))]
      exact ⟨x3, cand, reasons, rfl, hT, hB, hx⟩
    · have hi2 : i < S := by omega
      rw [if_neg (nI_ge hi2 (by omega))]
      by_cases hb : tb X i = true
      · have hX2 := (hX i hi2).mp hb
        have hl : lostL p X (i + 1) = lostL p X i ++ [64 * p + i] := by
          show lostL p X i ++ (if tb X i = true then [64 * p + i] else []) = _
          rw [if_pos hb]
        have hnew : 64 * p + i ∉ tr ++ lostL p X i := fun h => by
          rcases List.mem_append.mp h with z | z
          · exact hX2.2 z
          · obtain ⟨v, h1, _, h3⟩ := (mem_lostL i).mp z
            omega
        have hcb : tb (cand p) i = true := by
          rw [hB.1 p hp i (by omega)]
          exact decide_eq_true ⟨hi2, hnew⟩
        obtain ⟨c, re, e1, h1, -⟩ := mo_remove1 N hP hS hp hi2 hT hB hnew (why := -1) (w := 0) (by decide)
        rw [if_neg (fun z => hX2.1 ((nI_eq (by omega) (by omega)).mp z)), jin_nI (by omega) (by decide), nI_clamp (by omega), mo_has N _ (show i < 64 by omega), Option.bind_some, if_pos hcb, if_neg (show ¬ (1 : Int32) = 0 by decide), e1, Option.bind_some]
        show ∃ x3' cand' reasons', q_Mo_set_107 N _ 1 (nI i) th waits c re row = _ ∧ _
        unfold q_Mo_set_107
        rw [nI_1]
        refine ih (i + 1) 1 c re (by omega) (by omega) ?_ ?_ ?_
        · rw [hl, ← List.append_assoc]; exact hT.add hp hi2 (by omega) hnew
        · rw [hl, ← List.append_assoc]
          refine ⟨h1.1, fun c hcm => ?_⟩
          have := h1.2 c hcm
          rw [this]
          show (if c ∈ tr ++ lostL p X i then (if c ∈ tr then rs c else -1) else -1) + 1 = (if c ∈ tr then rs c else -1) + 1
          by_cases hm : c ∈ tr ++ lostL p X i
          · rw [if_pos hm]
          · rw [if_neg hm, if_neg (fun z => hm (List.mem_append.mpr (Or.inl z)))]
        · rw [hl]
          simp
      · have hl : lostL p X (i + 1) = lostL p X i := by
          show lostL p X i ++ (if tb X i = true then [64 * p + i] else []) = _
          rw [if_neg hb, List.append_nil]
        have go : ∃ x3' cand' reasons', q_Mo_set_107 N (q_Mo_set_65 N (nI S) (nI nR) sizes members (nI p) (nI v0) n) x3 (nI i) th waits cand reasons row = q_Mo_set_113 N (nI nR) sizes members (nI p) x3' th waits cand' reasons' row ∧ TrOK P S (tr ++ lostL p X S) ∧ MoBd P S cand' reasons' (tr ++ lostL p X S) (fun c => if c ∈ tr then rs c else -1) ∧ x3' = (if lostL p X S = [] then 0 else 1) := by
          unfold q_Mo_set_107
          rw [nI_1]
          exact ih (i + 1) x3 cand reasons (by omega) (by omega) (by rw [hl]; exact hT) (by rw [hl]; exact hB) (by rw [hl]; exact hx)
        by_cases hiv : i = v0
        · subst hiv
          rw [if_pos rfl]
          exact go
        · have hcb : ¬ tb (cand p) i = true := fun z => by
            rw [hB.1 p hp i (by omega)] at z
            have := (of_decide_eq_true z).2
            exact hb ((hX i hi2).mpr ⟨hiv, fun w => this (List.mem_append.mpr (Or.inl w))⟩)
          rw [if_neg (fun z => hiv ((nI_eq (by omega) (by omega)).mp z)), jin_nI (by omega) (by decide), nI_clamp (by omega), mo_has N _ (show i < 64 by omega), Option.bind_some, if_neg hcb, if_pos rfl]
          exact go

