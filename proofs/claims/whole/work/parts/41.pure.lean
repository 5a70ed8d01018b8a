/-! into, in the class. -/
theorem up_selfF {α : Type} (f : Nat → α) (i : Nat) : va_up f i (f i) = f := by
  funext j
  unfold va_up
  by_cases h : j = i
  · rw [if_pos h, h]
  · rw [if_neg h]
def szI (sz : Nat → Nat) (r : Nat) : Nat → Nat := va_up sz r (sz r + 1)
def atI {α : Type} (sz : Nat → Nat) (f : Nat → Nat → α) (r : Nat) (x : α) : Nat → Nat → α := va_up f r (va_up (f r) (sz r) x)
theorem szI_r {sz : Nat → Nat} {r : Nat} : szI sz r r = sz r + 1 := if_pos rfl
theorem szI_n {sz : Nat → Nat} {r i : Nat} (h : i ≠ r) : szI sz r i = sz i := if_neg h
theorem atI_n {α : Type} {sz : Nat → Nat} {f : Nat → Nat → α} {r i : Nat} {x : α} (h : i ≠ r) : atI sz f r x i = f i := if_neg h
theorem atI_r {α : Type} {sz : Nat → Nat} {f : Nat → Nat → α} {r : Nat} {x : α} : atI sz f r x r = va_up (f r) (sz r) x := if_pos rfl
theorem atI_k {α : Type} {sz : Nat → Nat} {f : Nat → Nat → α} {r k : Nat} {x : α} (h : k < sz r) : atI sz f r x r k = f r k := by rw [atI_r]; exact if_neg (by omega)
theorem atI_s {α : Type} {sz : Nat → Nat} {f : Nat → Nat → α} {r : Nat} {x : α} : atI sz f r x r (sz r) = x := by rw [atI_r]; exact if_pos rfl
theorem inR_I {sz : Nat → Nat} {pl : Nat → Nat → Nat} {r p : Nat} (q i : Nat) : inR (szI sz r) (atI sz pl r p) i q = (inR sz pl i q || (decide (i = r) && decide (q = p))) := by
  rw [Bool.eq_iff_iff, inR_iff, Bool.or_eq_true, inR_iff, Bool.and_eq_true, decide_eq_true_eq, decide_eq_true_eq]
  by_cases h : i = r
  · subst h
    rw [szI_r]
    constructor
    · rintro ⟨k, hk, e⟩
      by_cases hks : k = sz i
      · subst hks; rw [atI_s] at e; exact Or.inr ⟨rfl, e.symm⟩
      · rw [atI_k (by omega)] at e; exact Or.inl ⟨k, by omega, e⟩
    · rintro (⟨k, hk, e⟩ | ⟨_, e⟩)
      · exact ⟨k, by omega, by rw [atI_k hk]; exact e⟩
      · exact ⟨sz i, by omega, by rw [atI_s]; exact e.symm⟩
  · rw [szI_n h, atI_n h]
    constructor
    · intro z; exact Or.inl z
    · rintro (z | ⟨z, _⟩)
      · exact z
      · exact absurd z h
def okI (sz : Nat → Nat) (pl : Nat → Nat → Nat) (st r p : Nat) (a3 : Int64) : Prop := ¬ a3 < (-1000 : Int64) ∧ a3 ≤ (1000 : Int64) ∧ st = 0 ∧ sz r < 16 ∧ ∀ k, k < sz r → pl r k ≠ p
theorem rulC_I {S nR : Nat} {RF : Nat → RData} {K : Nat → Int32} {Rt : Nat → Int64} {sz : Nat → Nat} {pl : Nat → Nat → Nat} {fa : Nat → Nat → Int32} {prs : Nat → List (Nat × Nat)} (h : RulC S nR RF K Rt sz pl fa prs) {r p : Nat} (hr : r < nR) {f : Int32} : RulC S nR (va_up RF r ((RF r).1, (RF r).2.1, (RF r).2.2.1, nI (sz r + 1), (RF r).2.2.2.2.1, upd (RF r).2.2.2.2.2.1 (sz r) (nI p), upd (RF r).2.2.2.2.2.2.1 (sz r) f, (RF r).2.2.2.2.2.2.2)) K Rt (szI sz r) (atI sz pl r p) (atI sz fa r f) prs := by
  intro i hi
  by_cases hir : i = r
  · subst hir
    obtain ⟨h1, h2, h3, h4, h5, h6, h7⟩ := h i hi
    rw [show ∀ x, va_up RF i x i = x from fun x => if_pos rfl]
    refine ⟨h1, h2, by rw [szI_r], h4, ?_, h6, h7⟩
    intro k hk
    rw [szI_r] at hk
    by_cases hks : k = sz i
    · subst hks
      rw [atI_s, atI_s]
      exact ⟨if_pos rfl, if_pos rfl⟩
    · have hk2 : k < sz i := by omega
      rw [atI_k hk2, atI_k hk2]
      exact ⟨(show upd (RF i).2.2.2.2.2.1 (sz i) (nI p) k = _ from if_neg hks).trans (h5 k hk2).1, (show upd (RF i).2.2.2.2.2.2.1 (sz i) f k = _ from if_neg hks).trans (h5 k hk2).2⟩
  · rw [show ∀ x, va_up RF r x i = RF i from fun x => if_neg hir, szI_n hir, atI_n hir, atI_n hir]
    exact h i hi
theorem rk_into {N P S nR st : Nat} (hN : 17 ≤ N) (hP : P ≤ 128) (hst : st ≤ 20) {lower upper : Nat → Int64} {head size : Int32} {ring waits : Nat → Int32} {l : List Nat} {RF : Nat → RData} {K : Nat → Int32} {Rt : Nat → Int64} {sz : Nat → Nat} {pl : Nat → Nat → Nat} {fa : Nat → Nat → Int32} {prs : Nat → List (Nat × Nat)} (hG : GhR P S nR K sz pl fa prs) (hC : RulC S nR RF K Rt sz pl fa prs) (hW : LowUp P nR lower upper sz pl) (hl : RowOK head size ring waits l) (a1 a2 : Int32) (a3 : Int64) :
    (∃ r p, r < nR ∧ p < P ∧ a1 = nI r ∧ a2 = nI p ∧ okI sz pl st r p a3 ∧ ∃ lo up s g w RF', p_RK_into N P P P (nI nR) (nI st) lower upper head size ring waits nR RF a1 a2 a3 = some (1, lo, up, s, g, w, RF') ∧ LowUp P nR lo up (szI sz r) (atI sz pl r p) ∧ RowOK head s g w (rjoin l r) ∧ RulC S nR RF' K Rt (szI sz r) (atI sz pl r p) (atI sz fa r a3.toInt32) prs) ∨
    ((∀ r p, r < nR → p < P → a1 = nI r → a2 = nI p → ¬ okI sz pl st r p a3) ∧ p_RK_into N P P P (nI nR) (nI st) lower upper head size ring waits nR RF a1 a2 a3 = some (0, lower, upper, size, ring, waits, RF)) := by
  unfold p_RK_into
  have hR := hG.1
  rcases rk_ruleAt N hR a1 with ⟨r, hr, rfl, e1⟩ | ⟨hno, e1⟩
  · rw [e1, Option.bind_some]
    show _ ∨ (_ ∧ jlt r nR _ = _)
    have jl : ∀ {α : Type} (k : Option α), jlt r nR k = k := fun k => if_pos hr
    simp only [jl]
    have uniq : ∀ {r' p' p : Nat}, r' < nR → p' < P → p < P → nI r = nI r' → nI p = nI p' → r' = r ∧ p' = p := fun h1 h2 h3 e3 e4 => ⟨((nI_eq (by omega) (by omega)).mp e3).symm, ((nI_eq (by omega) (by omega)).mp e4).symm⟩
    rcases bd_hasPlace N (P := P) (by omega) a2 with ⟨p, hp, rfl, e2⟩ | ⟨hno, e2⟩
    · rw [e2, Option.bind_some, if_neg (show ¬ (1 : Int32) = 0 by decide)]
      by_cases c6 : st = 0
      · subst c6
        rw [if_pos (show nI 0 ≤ (0 : Int32) from by decide)]
        by_cases c3 : a3 < (-1000 : Int64)
        · refine Or.inr ⟨fun r' p' _ _ _ _ z => z.1 c3, by rw [if_pos ((lg_cmp_lt _ _).mpr c3)]⟩
        rw [if_neg (fun z => c3 ((lg_cmp_lt _ _).mp z))]
        by_cases c4 : a3 ≤ (1000 : Int64)
        · rw [if_neg (show ¬ 0 < lg_cmp a3 (1000 : Int64) from fun z => absurd ((lg_cmp_gt _ _).mp z) (Int64.not_lt.mpr c4))]
          obtain ⟨-, -, g3, g4, -, -, -, -⟩ := hG.2 r hr
          obtain ⟨h1, h2, h3, h4, h5, h6, h7⟩ := hC r hr
          rw [h3]
          rcases rule_addPlace hN g3 (show p < 128 by omega) (places := (RF r).2.2.2.2.2.1) (factors := (RF r).2.2.2.2.2.2.1) (pl := pl r) (fun k hk => ⟨(h5 k hk).1, by have := (g4 k hk).1; omega⟩) a3.toInt32 with ⟨z1, z2, e3⟩ | ⟨z, e3⟩
          · obtain ⟨lo, up, e4, hW2⟩ := rk_note N (sz' := szI sz r) (pl' := atI sz pl r p) hP hR hp hr hW (fun q i _ _ => inR_I q i)
            obtain ⟨s', g', w', e5, h8⟩ := row_join N hl (show r < 120 by omega)
            refine Or.inl ⟨r, p, hr, hp, rfl, rfl, ⟨c3, c4, rfl, z1, z2⟩, lo, up, s', g', w', _, ?_, hW2, h8, rulC_I hC hr (p := p) (f := a3.toInt32)⟩
            rw [e3, Option.bind_some]
            show (if (1 : Int32) = 0 then _ else _) = _
            rw [if_neg (show ¬ (1 : Int32) = 0 by decide), e4, Option.bind_some]
            show Option.bind (p_Row_join N head size ring waits (nI r)) _ = _
            rw [e5]
            rfl
          · refine Or.inr ⟨fun r' p' h1' h2' ha hb z' => ?_, ?_⟩
            · obtain ⟨e4, e5⟩ := uniq h1' h2' hp ha hb
              subst e4; subst e5
              exact z ⟨z'.2.2.2.1, z'.2.2.2.2⟩
            · rw [e3, Option.bind_some]
              show (if (0 : Int32) = 0 then _ else _) = _
              rw [if_pos rfl, ← h3]
              show some (0, lower, upper, size, ring, waits, va_up RF r (RF r)) = _
              rw [up_selfF]
        · exact Or.inr ⟨fun r' p' _ _ _ _ z => c4 z.2.1, by rw [if_pos ((lg_cmp_gt _ _).mpr (Int64.not_le.mp c4))]⟩
      · exact Or.inr ⟨fun r' p' _ _ _ _ z => c6 z.2.2.1, by rw [if_neg (show ¬ nI st ≤ (0 : Int32) from nI_nle (by omega) (by omega))]⟩
    · exact Or.inr ⟨fun r' p' _ hp' _ hb _ => hno p' hp' hb, by rw [e2, Option.bind_some, if_pos rfl]⟩
  · exact Or.inr ⟨fun r' p' hr' _ ha _ _ => hno r' hr' ha, by rw [e1, Option.bind_some]⟩

