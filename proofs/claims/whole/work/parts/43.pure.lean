/-! table and reason, on both sides. -/
theorem ud_s {f : Nat → Int32} {k : Nat} {x : Int32} : upd f k x k = x := if_pos rfl
theorem ud_n {f : Nat → Int32} {k j : Nat} {x : Int32} (h : j ≠ k) : upd f k x j = f j := if_neg h
theorem vu_s {α : Type} {f : Nat → α} {k : Nat} {x : α} : va_up f k x k = x := if_pos rfl
theorem vu_n {α : Type} {f : Nat → α} {k j : Nat} {x : α} (h : j ≠ k) : va_up f k x j = f j := if_neg h
def okT (K : Nat → Int32) (prs : Nat → List (Nat × Nat)) (st r a b : Nat) : Prop := K r = 7 ∧ st = 0 ∧ (prs r).length < 400 ∧ (a, b) ∉ prs r
def prsT (prs : Nat → List (Nat × Nat)) (r a b : Nat) : Nat → List (Nat × Nat) := va_up prs r (prs r ++ [(a, b)])
theorem rulC_T {S nR : Nat} {RF : Nat → RData} {K : Nat → Int32} {Rt : Nat → Int64} {sz : Nat → Nat} {pl : Nat → Nat → Nat} {fa : Nat → Nat → Int32} {prs : Nat → List (Nat × Nat)} (h : RulC S nR RF K Rt sz pl fa prs) {r a b : Nat} (hr : r < nR) (ha : a < S) (hb : b < 64) :
    RulC S nR (va_up RF r ((RF r).1, (RF r).2.1, (RF r).2.2.1, (RF r).2.2.2.1, nI ((prs r).length + 1), (RF r).2.2.2.2.2.1, (RF r).2.2.2.2.2.2.1, vp_updL (RF r).2.2.2.2.2.2.2 a ((RF r).2.2.2.2.2.2.2 a ||| j_lshl 1 (nI b)))) K Rt sz pl fa (prsT prs r a b) := by
  intro i hi
  by_cases hir : i = r
  · subst hir
    obtain ⟨h1, h2, h3, h4, h5, h6, h7⟩ := h i hi
    rw [vu_s]
    refine ⟨h1, h2, h3, ?_, h5, h6, ?_⟩
    · unfold prsT
      rw [vu_s, List.length_append]
      rfl
    · intro c hc d hd
      show tb (vp_updL (RF i).2.2.2.2.2.2.2 a _ c) d = _
      unfold prsT
      rw [vu_s]
      by_cases hca : c = a
      · subst hca
        rw [pk_uLs, note_bits hb hd, h7 c hc d hd, Bool.eq_iff_iff]
        simp
      · rw [pk_uLn hca, h7 c hc d hd, Bool.eq_iff_iff]
        simp [hca]
  · unfold prsT
    rw [vu_n hir, vu_n hir]
    exact h i hi
theorem rule_addPair (N : Nat) {S k a b : Nat} (hS : S ≤ 60) {c : Prop} [Decidable c] (ha : a < S) (hb : b < 64) (hk : k ≤ 400) (part : Nat → Int64) :
    p_Rule_addPair N (if c then S else 0) (nI k) part (nI a) (nI b) = if c ∧ k < 400 ∧ ¬ tb (part a) b = true then some (1, nI (k + 1), vp_updL part a (part a ||| j_lshl 1 (nI b))) else some (0, nI k, part) := by
  unfold p_Rule_addPair
  rw [if_neg (nI_pos (by omega))]
  by_cases hc : c
  · rw [if_pos hc, if_neg (nI_ge ha (by omega))]
    by_cases h4 : k < 400
    · rw [if_pos (show nI k < (400 : Int32) from nI_lt (b := 400) h4 (by decide)), jin_nI ha (by omega), nI_clamp (by omega), has_tb N _ hb, Option.bind_some]
      by_cases ht : tb (part a) b = true
      · rw [if_pos ht, if_neg (show ¬ (1 : Int32) = 0 by decide), if_neg (fun z => z.2.2 ht)]
      · rw [if_neg ht, if_pos rfl, if_pos ⟨hc, h4, ht⟩, jin_nI ha (by omega), jin_nI ha (by omega), nI_1]
    · rw [if_neg (show ¬ nI k < (400 : Int32) from nI_nlt (b := 400) (by omega) (by omega)), if_neg (fun z => h4 z.2.1)]
  · rw [if_neg hc, if_pos (nI_le (by omega) (by omega)), if_neg (fun z => hc z.1)]
theorem rk_table {N P S nR st : Nat} (hS : S ≤ 60) (hst : st ≤ 20) {head size : Int32} {ring waits : Nat → Int32} {l : List Nat} {RF : Nat → RData} {K : Nat → Int32} {Rt : Nat → Int64} {sz : Nat → Nat} {pl : Nat → Nat → Nat} {fa : Nat → Nat → Int32} {prs : Nat → List (Nat × Nat)} (hG : GhR P S nR K sz pl fa prs) (hC : RulC S nR RF K Rt sz pl fa prs) (hl : RowOK head size ring waits l) (a1 a2 a3 : Int32) :
    (∃ r a b, r < nR ∧ a < S ∧ b < S ∧ a1 = nI r ∧ a2 = nI a ∧ a3 = nI b ∧ okT K prs st r a b ∧ ∃ s g w RF', p_RK_table N (nI nR) (nI st) (nI S) head size ring waits nR RF a1 a2 a3 = some (1, s, g, w, RF') ∧ RowOK head s g w (rjoin l r) ∧ RulC S nR RF' K Rt sz pl fa (prsT prs r a b)) ∨
    ((∀ r a b, r < nR → a < S → b < S → a1 = nI r → a2 = nI a → a3 = nI b → ¬ okT K prs st r a b) ∧ p_RK_table N (nI nR) (nI st) (nI S) head size ring waits nR RF a1 a2 a3 = some (0, size, ring, waits, RF)) := by
  unfold p_RK_table
  have hR := hG.1
  rcases rk_ruleAt N hR a1 with ⟨r, hr, rfl, e1⟩ | ⟨hno, e1⟩
  · rw [e1, Option.bind_some]
    show _ ∨ (_ ∧ jlt r nR _ = _)
    have jl : ∀ {α : Type} (k : Option α), jlt r nR k = k := fun k => if_pos hr
    simp only [jl]
    by_cases c6 : st = 0
    · subst c6
      rw [if_neg (show ¬ (0 : Int32) < nI 0 from by decide)]
      rcases bd_hasSymbol N (S := S) (by omega) a2 with ⟨a, ha, rfl, e2⟩ | ⟨hno, e2⟩
      · rw [e2, Option.bind_some, if_neg (show ¬ (1 : Int32) = 0 by decide)]
        rcases bd_hasSymbol N (S := S) (by omega) a3 with ⟨b, hb, rfl, e3⟩ | ⟨hno, e3⟩
        · rw [e3, Option.bind_some, if_neg (show ¬ (1 : Int32) = 0 by decide)]
          obtain ⟨-, -, -, -, -, -, g7, -⟩ := hG.2 r hr
          obtain ⟨h1, h2, h3, h4, h5, h6, h7⟩ := hC r hr
          rw [h6, h4, rule_addPair N hS ha (show b < 64 by omega) g7]
          have ht := h7 a ha b (by omega)
          by_cases hok : K r = 7 ∧ (prs r).length < 400 ∧ ¬ tb ((RF r).2.2.2.2.2.2.2 a) b = true
          · rw [if_pos hok, Option.bind_some]
            obtain ⟨s', g', w', e5, h8⟩ := row_join N hl (show r < 120 by omega)
            have hnew : (a, b) ∉ prs r := fun z => hok.2.2 (by rw [ht]; exact decide_eq_true z)
            have hrc := rulC_T hC hr ha (show b < 64 by omega)
            rw [h6] at hrc
            refine Or.inl ⟨r, a, b, hr, ha, hb, rfl, rfl, rfl, ⟨hok.1, rfl, hok.2.1, hnew⟩, s', g', w', _, ?_, h8, hrc⟩
            show (if (1 : Int32) = 0 then _ else _) = _
            rw [if_neg (show ¬ (1 : Int32) = 0 by decide), e5]
            rfl
          · rw [if_neg hok, Option.bind_some]
            refine Or.inr ⟨fun r' a' b' hr' ha' hb' z1 z2 z3 z => ?_, ?_⟩
            · have q1 : r = r' := (nI_eq (by omega) (by omega)).mp z1
              have q2 : a = a' := (nI_eq (by omega) (by omega)).mp z2
              have q3 : b = b' := (nI_eq (by omega) (by omega)).mp z3
              subst q1; subst q2; subst q3
              exact hok ⟨z.1, z.2.2.1, fun y => z.2.2.2 (of_decide_eq_true (by rw [← ht]; exact y))⟩
            · show (if (0 : Int32) = 0 then _ else _) = _
              rw [if_pos rfl, ← h4, ← h6]
              show some (0, size, ring, waits, va_up RF r (RF r)) = _
              rw [up_selfF]
        · exact Or.inr ⟨fun r' a' b' _ _ hb' _ _ z3 _ => hno b' hb' z3, by rw [e3, Option.bind_some, if_pos rfl]⟩
      · exact Or.inr ⟨fun r' a' b' _ ha' _ _ z2 _ _ => hno a' ha' z2, by rw [e2, Option.bind_some, if_pos rfl]⟩
    · exact Or.inr ⟨fun r' a' b' _ _ _ _ _ _ z => c6 z.2.1, by rw [if_pos (show (0 : Int32) < nI st from nI_lt (a := 0) (by omega) (by omega))]⟩
  · exact Or.inr ⟨fun r' _ _ hr' _ _ z1 _ _ _ => hno r' hr' z1, by rw [e1, Option.bind_some]⟩
theorem rulM_T {nR : Nat} (hR : nR ≤ 120) {kinds : Nat → Int32} {rights factors : Nat → Int64} {pairs firsts seconds : Nat → Int32} {K : Nat → Int32} {Rt : Nat → Int64} {sz : Nat → Nat} {fa : Nat → Nat → Int32} {prs : Nat → List (Nat × Nat)} (h : RulM nR kinds rights factors pairs firsts seconds K Rt sz fa prs) {r a b : Nat} (h4 : ∀ i, i < nR → (prs i).length ≤ 400) (h5 : (prs r).length < 400) :
    RulM nR kinds rights factors (upd pairs r (nI ((prs r).length + 1))) (upd firsts (400 * r + (prs r).length) (nI a)) (upd seconds (400 * r + (prs r).length) (nI b)) K Rt sz fa (prsT prs r a b) := by
  intro i hi
  obtain ⟨h1, h2, h3, h6, h7⟩ := h i hi
  have hli := h4 i hi
  refine ⟨h1, h2, h3, ?_, ?_⟩
  · by_cases hir : i = r
    · subst hir
      unfold prsT
      rw [ud_s, vu_s, List.length_append]
      rfl
    · unfold prsT
      rw [ud_n hir, vu_n hir]; exact h6
  · intro k hk
    by_cases hir : i = r
    · subst hir
      unfold prsT at hk ⊢
      rw [vu_s, List.length_append, List.length_singleton] at hk
      rw [vu_s]
      by_cases hkl : k = (prs i).length
      · subst hkl
        rw [ud_s, ud_s]
        simp
      · have hk2 : k < (prs i).length := by omega
        rw [ud_n (by omega), ud_n (by omega)]
        have := h7 k hk2
        rw [List.getD_eq_getElem?_getD, List.getElem?_append_left hk2, ← List.getD_eq_getElem?_getD]
        exact this
    · unfold prsT at hk ⊢
      rw [vu_n hir] at hk ⊢
      rw [ud_n (by omega), ud_n (by omega)]
      exact h7 k hk
theorem mo_hasPair_loop (N : Nat) {r a b : Nat} (hr : r < 120) (ha : a < 64) (hb : b < 64) {pairs firsts seconds : Nat → Int32} {l : List (Nat × Nat)} (hl : l.length ≤ 400) (hlt : ∀ q ∈ l, q.1 < 64 ∧ q.2 < 64) (h0 : pairs r = nI l.length) (h : ∀ k, k < l.length → firsts (400 * r + k) = nI (l.getD k (0, 0)).1 ∧ seconds (400 * r + k) = nI (l.getD k (0, 0)).2) :
    ∀ n i, l.length - i < n → i ≤ l.length → (∀ k, k < i → l.getD k (0, 0) ≠ (a, b)) → q_Mo_hasPair_7 N pairs firsts seconds (nI r) (nI a) (nI b) n (nI (400 * r + i)) = some (if (a, b) ∈ l then 1 else 0) := by
  intro n
  induction n with
  | zero => intro i h; omega
  | succ n ih =>
    intro i hn hi hne
    rw [q_Mo_hasPair_7]
    show jin (nI r) 120 _ = _
    rw [jin_nI hr (by decide), nI_clamp (by omega), h0, show (400 : Int32) = nI 400 from rfl, pk_mul, nI_add]
    by_cases hc : l.length ≤ i
    · rw [if_pos (nI_le (by omega) (by omega)), if_neg]
      intro hm
      obtain ⟨k, hk, e⟩ := List.mem_iff_getElem.mp hm
      exact hne k (by omega) (by rw [List.getD_eq_getElem?_getD, List.getElem?_eq_getElem hk]; exact e)
    · have hi2 : i < l.length := by omega
      obtain ⟨h1, h2⟩ := h i hi2
      have hm : l.getD i (0, 0) ∈ l := by
        rw [List.getD_eq_getElem?_getD, List.getElem?_eq_getElem hi2]
        exact List.getElem_mem hi2
      have hq := hlt _ hm
      rw [if_neg (nI_ge (by omega) (by omega)), jin_nI (by omega) (by decide), nI_clamp (by omega), h1]
      have go : l.getD i (0, 0) ≠ (a, b) → q_Mo_hasPair_48 N (q_Mo_hasPair_7 N pairs firsts seconds (nI r) (nI a) (nI b) n) (nI (400 * r + i)) = some (if (a, b) ∈ l then 1 else 0) := by
        intro hne2
        unfold q_Mo_hasPair_48
        rw [nI_1, show 400 * r + i + 1 = 400 * r + (i + 1) by omega]
        exact ih (i + 1) (by omega) (by omega) (fun k hk => by
          by_cases hki : k = i
          · rw [hki]; exact hne2
          · exact hne k (by omega))
      by_cases e1 : (l.getD i (0, 0)).1 = a
      · rw [if_pos (by rw [e1]), jin_nI (by omega) (by decide), h2]
        by_cases e2 : (l.getD i (0, 0)).2 = b
        · rw [if_pos (by rw [e2]), if_pos]
          have : l.getD i (0, 0) = (a, b) := Prod.ext e1 e2
          rw [← this]; exact hm
        · rw [if_neg (fun z => e2 ((nI_eq (by omega) (by omega)).mp z))]
          exact go (fun z => e2 (by rw [z]))
      · rw [if_neg (fun z => e1 ((nI_eq (by omega) (by omega)).mp z))]
        exact go (fun z => e1 (by rw [z]))
theorem mo_table {N P S nR st : Nat} (hN : 402 ≤ N) (hS : S ≤ 60) (hst : st ≤ 20) {kinds : Nat → Int32} {rights factors : Nat → Int64} {pairs firsts seconds : Nat → Int32} {waits : Int32} {row : Nat → Int32} {l : List Nat} {K : Nat → Int32} {Rt : Nat → Int64} {sz : Nat → Nat} {pl : Nat → Nat → Nat} {fa : Nat → Nat → Int32} {prs : Nat → List (Nat × Nat)} (hG : GhR P S nR K sz pl fa prs) (hC : RulM nR kinds rights factors pairs firsts seconds K Rt sz fa prs) (hl : RowM waits row l) (a1 a2 a3 : Int32) :
    (∃ r a b, r < nR ∧ a < S ∧ b < S ∧ a1 = nI r ∧ a2 = nI a ∧ a3 = nI b ∧ okT K prs st r a b ∧ ∃ w row' f s, p_Mo_table N (nI S) (nI nR) waits (nI st) kinds pairs firsts seconds row a1 a2 a3 = some (1, 0, w, upd pairs r (nI ((prs r).length + 1)), f, s, row') ∧ RulM nR kinds rights factors (upd pairs r (nI ((prs r).length + 1))) f s K Rt sz fa (prsT prs r a b) ∧ RowM w row' (rjoin l r)) ∨
    ((∀ r a b, r < nR → a < S → b < S → a1 = nI r → a2 = nI a → a3 = nI b → ¬ okT K prs st r a b) ∧ p_Mo_table N (nI S) (nI nR) waits (nI st) kinds pairs firsts seconds row a1 a2 a3 = some (0, 0, waits, pairs, firsts, seconds, row)) := by
  unfold p_Mo_table
  have hR := hG.1
  rcases mo_isRule N (P := nR) (by omega) a1 with ⟨r, hr, rfl, e1⟩ | ⟨hno, e1⟩
  · rw [e1, Option.bind_some, if_neg (show ¬ (1 : Int32) = 0 by decide), Option.bind_some, if_neg (show ¬ (1 : Int32) = 0 by decide)]
    unfold q_Mo_table_30
    obtain ⟨h1, h2, h3, h4, h5⟩ := hC r hr
    obtain ⟨-, -, -, -, -, -, g7, g8⟩ := hG.2 r hr
    rw [jin_nI (by omega) (by decide), nI_clamp (by omega), h1]
    by_cases hK : K r = 7
    · rw [if_pos hK]
      rcases mo_isSymbol N (P := S) (by omega) a2 with ⟨a, ha, rfl, e2⟩ | ⟨hno, e2⟩
      · rw [e2, Option.bind_some, if_neg (show ¬ (1 : Int32) = 0 by decide)]
        rcases mo_isSymbol N (P := S) (by omega) a3 with ⟨b, hb, rfl, e3⟩ | ⟨hno, e3⟩
        · rw [e3, Option.bind_some, if_neg (show ¬ (1 : Int32) = 0 by decide)]
          by_cases c6 : st = 0
          · subst c6
            rw [if_pos (show nI 0 ≤ (0 : Int32) from by decide)]
            have e4 := mo_hasPair_loop N (r := r) (a := a) (b := b) (by omega) (by omega) (by omega) g7 (fun q hq => by have := g8 q hq; omega) h4 h5 N 0 (by omega) (by omega) (fun k hk => absurd hk (Nat.not_lt_zero _))
            unfold p_Mo_hasPair
            rw [show (400 : Int32) = nI 400 from rfl, pk_mul, show 400 * r = 400 * r + 0 from rfl, e4, Option.bind_some]
            by_cases hm : (a, b) ∈ prs r
            · rw [if_pos hm, if_neg (show ¬ (1 : Int32) = 0 by decide)]
              refine Or.inr ⟨fun r' a' b' hr' ha' hb' z1 z2 z3 z => ?_, rfl⟩
              have q1 : r = r' := (nI_eq (by omega) (by omega)).mp z1
              have q2 : a = a' := (nI_eq (by omega) (by omega)).mp z2
              have q3 : b = b' := (nI_eq (by omega) (by omega)).mp z3
              subst q1; subst q2; subst q3
              exact z.2.2.2 hm
            · rw [if_neg hm, if_pos rfl, jin_nI (by omega) (by decide), h4]
              by_cases h400 : (prs r).length = 400
              · rw [if_pos (by rw [h400])]
                refine Or.inr ⟨fun r' a' b' hr' ha' hb' z1 z2 z3 z => ?_, rfl⟩
                have q1 : r = r' := (nI_eq (by omega) (by omega)).mp z1
                subst q1
                have := z.2.2.1
                omega
              · obtain ⟨w, row', e5, h6⟩ := mo_wake (N := N) (by omega) hl (show r < 120 by omega)
                refine Or.inl ⟨r, a, b, hr, ha, hb, rfl, rfl, rfl, ⟨hK, rfl, by omega, hm⟩, w, row', _, _, ?_, rulM_T hR hC (fun i hi => by obtain ⟨-, -, -, -, -, -, g7, -⟩ := hG.2 i hi; exact g7) (by omega), h6⟩
                rw [if_neg (fun z => h400 ((nI_eq (b := 400) (by omega) (by decide)).mp z)), jin_nI (by omega) (by decide), Nat.add_zero, nI_add, jin_nI (by omega) (by decide), jin_nI (by omega) (by decide), jin_nI (by omega) (by decide), jin_nI (by omega) (by decide), jin_nI (by omega) (by decide), e5, Option.bind_some, nI_clamp (by omega), nI_1]
          · exact Or.inr ⟨fun r' a' b' _ _ _ _ _ _ z => c6 z.2.1, by rw [if_neg (show ¬ nI st ≤ (0 : Int32) from nI_nle (by omega) (by omega))]⟩
        · exact Or.inr ⟨fun r' a' b' _ _ hb' _ _ z3 _ => hno b' hb' z3, by rw [e3, Option.bind_some, if_pos rfl]⟩
      · exact Or.inr ⟨fun r' a' b' _ ha' _ _ z2 _ _ => hno a' ha' z2, by rw [e2, Option.bind_some, if_pos rfl]⟩
    · refine Or.inr ⟨fun r' a' b' hr' _ _ z1 _ _ z => ?_, by rw [if_neg hK]⟩
      have q1 : r = r' := (nI_eq (by omega) (by omega)).mp z1
      subst q1
      exact hK z.1
  · exact Or.inr ⟨fun r' _ _ hr' _ _ z1 _ _ _ => hno r' hr' z1, by rw [e1, Option.bind_some, if_pos rfl]⟩

