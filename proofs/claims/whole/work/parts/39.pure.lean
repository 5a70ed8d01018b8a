/-! rule, on both sides; what the rules are. -/
theorem jnw_nI {α : Type} {i lim : Nat} {k : Option α} (h : i ≤ lim) (hl : lim < 2 ^ 31) : jnw (nI i) lim k = k := by
  unfold jnw
  apply if_neg
  rintro (z | z)
  · exact nI_pos (by omega) z
  · rw [nI_clamp (by omega)] at z; omega
def okR (a1 : Int32) (a2 : Int64) (nR st : Nat) : Prop := ¬ a1 < 0 ∧ ¬ (7 : Int32) < a1 ∧ ¬ a2 < (-1000000 : Int64) ∧ a2 ≤ (1000000 : Int64) ∧ nR < 120 ∧ st = 0
theorem rk_rule (N : Nat) {S nR st : Nat} (hS : S ≤ 60) (hR : nR ≤ 120) (hst : st ≤ 20) (RF : Nat → RData) (a1 : Int32) (a2 : Int64) :
    (okR a1 a2 nR st ∧ p_RK_rule N (nI nR) (nI st) (nI S) nR RF a1 a2 = some (nI nR, nI (nR + 1), nR + 1, va_up RF nR ((if a1 = 7 then S else 0), a1, a2, 0, 0, (fun _ => 0), (fun _ => 0), (fun _ => 0)))) ∨
    (¬ okR a1 a2 nR st ∧ p_RK_rule N (nI nR) (nI st) (nI S) nR RF a1 a2 = some (-1, nI nR, nR, RF)) := by
  unfold p_RK_rule
  by_cases c1 : a1 < 0
  · exact Or.inr ⟨fun z => z.1 c1, by rw [if_pos c1]⟩
  rw [if_neg c1]
  by_cases c2 : (7 : Int32) < a1
  · exact Or.inr ⟨fun z => z.2.1 c2, by rw [if_pos c2]⟩
  rw [if_neg c2]
  by_cases c3 : a2 < (-1000000 : Int64)
  · exact Or.inr ⟨fun z => z.2.2.1 c3, by rw [if_pos ((lg_cmp_lt _ _).mpr c3)]⟩
  rw [if_neg (fun z => c3 ((lg_cmp_lt _ _).mp z))]
  by_cases c4 : a2 ≤ (1000000 : Int64)
  · rw [if_pos ((lg_cmp_le _ _).mpr c4)]
    by_cases c5 : nR < 120
    · rw [if_neg (show ¬ (120 : Int32) ≤ nI nR from nI_ge (b := 120) c5 (by decide))]
      by_cases c6 : st = 0
      · subst c6
        rw [if_pos (show nI 0 ≤ (0 : Int32) from by decide)]
        refine Or.inl ⟨⟨c1, c2, c3, c4, c5, rfl⟩, ?_⟩
        unfold p_Rule_init
        by_cases c7 : a1 = 7
        · rw [if_pos c7, if_pos c7, jnw_nI hS (by decide), Option.bind_some, nI_clamp (by omega)]
          show jin (nI nR) 120 (jeq (nI nR).toNatClampNeg nR _) = _
          rw [jin_nI c5 (by decide), nI_clamp (by omega)]
          unfold jeq
          rw [if_pos rfl, nI_1, nI_pred]
        · rw [if_neg c7, if_neg c7, Option.bind_some]
          show jin (nI nR) 120 (jeq (nI nR).toNatClampNeg nR _) = _
          rw [jin_nI c5 (by decide), nI_clamp (by omega)]
          unfold jeq
          rw [if_pos rfl, nI_1, nI_pred]
      · exact Or.inr ⟨fun z => c6 z.2.2.2.2.2, by rw [if_neg (show ¬ nI st ≤ (0 : Int32) from nI_nle (by omega) (by omega))]⟩
    · exact Or.inr ⟨fun z => c5 z.2.2.2.2.1, by rw [if_pos (show (120 : Int32) ≤ nI nR from nI_le (a := 120) (by omega) (by omega))]⟩
  · exact Or.inr ⟨fun z => c4 z.2.2.2.1, by rw [if_neg (fun z => c4 ((lg_cmp_le _ _).mp z))]⟩
theorem mo_rule (N : Nat) {nR st : Nat} (hR : nR ≤ 120) (hst : st ≤ 20) (kinds : Nat → Int32) (rights : Nat → Int64) (a1 : Int32) (a2 : Int64) :
    (okR a1 a2 nR st ∧ p_Mo_rule N (nI nR) (nI st) kinds rights a1 a2 = some (nI nR, 0, nI (nR + 1), upd kinds nR a1, vp_updL rights nR a2)) ∨
    (¬ okR a1 a2 nR st ∧ p_Mo_rule N (nI nR) (nI st) kinds rights a1 a2 = some (-1, 0, nI nR, kinds, rights)) := by
  unfold p_Mo_rule
  by_cases c1 : a1 < 0
  · exact Or.inr ⟨fun z => z.1 c1, by rw [if_pos c1]⟩
  rw [if_neg c1]
  by_cases c2 : (7 : Int32) < a1
  · exact Or.inr ⟨fun z => z.2.1 c2, by rw [if_pos c2]⟩
  rw [if_neg c2]
  by_cases c3 : a2 < (-1000000 : Int64)
  · exact Or.inr ⟨fun z => z.2.2.1 c3, by rw [if_pos ((lg_cmp_lt _ _).mpr c3)]⟩
  rw [if_neg (fun z => c3 ((lg_cmp_lt _ _).mp z))]
  by_cases c4 : a2 ≤ (1000000 : Int64)
  · rw [if_neg (show ¬ 0 < lg_cmp a2 (1000000 : Int64) from fun z => absurd ((lg_cmp_gt _ _).mp z) (Int64.not_lt.mpr c4))]
    by_cases c5 : nR < 120
    · rw [if_neg (show ¬ nI nR = (120 : Int32) from fun z => by have := (nI_eq (b := 120) (by omega) (by decide)).mp z; omega)]
      by_cases c6 : st = 0
      · subst c6
        rw [if_pos (show nI 0 ≤ (0 : Int32) from by decide), jin_nI c5 (by decide), jin_nI c5 (by decide), nI_clamp (by omega), nI_1, nI_pred]
        exact Or.inl ⟨⟨c1, c2, c3, c4, c5, rfl⟩, rfl⟩
      · exact Or.inr ⟨fun z => c6 z.2.2.2.2.2, by rw [if_neg (show ¬ nI st ≤ (0 : Int32) from nI_nle (by omega) (by omega))]⟩
    · have : nR = 120 := by omega
      exact Or.inr ⟨fun z => c5 z.2.2.2.2.1, by rw [if_pos (show nI nR = (120 : Int32) by rw [this]; rfl)]⟩
  · exact Or.inr ⟨fun z => c4 z.2.2.2.1, by rw [if_pos ((lg_cmp_gt _ _).mpr (Int64.not_le.mp c4))]⟩
/-- a rule's words in the class, said of its kind, number, places, factors, pairs -/
def RulC (S nR : Nat) (RF : Nat → RData) (K : Nat → Int32) (Rt : Nat → Int64) (sz : Nat → Nat) (pl : Nat → Nat → Nat) (fa : Nat → Nat → Int32) (prs : Nat → List (Nat × Nat)) : Prop := ∀ r, r < nR →
  (RF r).2.1 = K r ∧ (RF r).2.2.1 = Rt r ∧ (RF r).2.2.2.1 = nI (sz r) ∧ (RF r).2.2.2.2.1 = nI (prs r).length ∧ (∀ k, k < sz r → (RF r).2.2.2.2.2.1 k = nI (pl r k) ∧ (RF r).2.2.2.2.2.2.1 k = fa r k) ∧ (RF r).1 = (if K r = 7 then S else 0) ∧ (∀ a, a < S → ∀ b, b < 64 → tb ((RF r).2.2.2.2.2.2.2 a) b = decide ((a, b) ∈ prs r))
/-- the same in the reference (sizes and members: MemM) -/
def RulM (nR : Nat) (kinds : Nat → Int32) (rights : Nat → Int64) (factors : Nat → Int64) (pairs firsts seconds : Nat → Int32) (K : Nat → Int32) (Rt : Nat → Int64) (sz : Nat → Nat) (fa : Nat → Nat → Int32) (prs : Nat → List (Nat × Nat)) : Prop := ∀ r, r < nR →
  kinds r = K r ∧ rights r = Rt r ∧ (∀ k, k < sz r → factors (16 * r + k) = (fa r k).toInt64) ∧ pairs r = nI (prs r).length ∧ (∀ k, k < (prs r).length → firsts (400 * r + k) = nI ((prs r).getD k (0, 0)).1 ∧ seconds (400 * r + k) = nI ((prs r).getD k (0, 0)).2)
/-- what holds of rules on both sides -/
def GhR (P S nR : Nat) (K : Nat → Int32) (sz : Nat → Nat) (pl : Nat → Nat → Nat) (fa : Nat → Nat → Int32) (prs : Nat → List (Nat × Nat)) : Prop := nR ≤ 120 ∧ ∀ r, r < nR →
  ¬ K r < 0 ∧ ¬ (7 : Int32) < K r ∧ sz r ≤ 16 ∧ (∀ k, k < sz r → pl r k < P ∧ ∀ j, j < k → pl r j ≠ pl r k) ∧ (∀ k, k < sz r → ¬ fa r k < (-1000 : Int32) ∧ fa r k ≤ (1000 : Int32)) ∧ (prs r).Nodup ∧ (prs r).length ≤ 400 ∧ (∀ q ∈ prs r, K r = 7 ∧ q.1 < S ∧ q.2 < S)

