/-! into, in the reference. -/
theorem small_fac {a : Int64} (h1 : ¬ a < (-1000 : Int64)) (h2 : a ≤ (1000 : Int64)) : a.toInt32.toInt64 = a := by
  apply Int64.toInt_inj.mp
  rw [Int32.toInt_toInt64, Int64.toInt_toInt32]
  have h3 : (-1000 : Int64).toInt ≤ a.toInt := Int64.le_iff_toInt_le.mp (Int64.not_lt.mp h1)
  have h4 : a.toInt ≤ (1000 : Int64).toInt := Int64.le_iff_toInt_le.mp h2
  have e1 : (-1000 : Int64).toInt = -1000 := by decide
  have e2 : (1000 : Int64).toInt = 1000 := by decide
  rw [e1] at h3
  rw [e2] at h4
  rw [Int.bmod_def]
  omega
theorem memM_I {nR : Nat} {sizes members : Nat → Int32} {sz : Nat → Nat} {pl : Nat → Nat → Nat} (h : MemM nR sizes members sz pl) {r p : Nat} (hp : p < 128) (h16 : sz r < 16) : MemM nR (upd sizes r (nI (sz r + 1))) (upd members (16 * r + sz r) (nI p)) (szI sz r) (atI sz pl r p) := by
  intro i hi
  obtain ⟨h1, h2, h3⟩ := h i hi
  by_cases hir : i = r
  · subst hir
    rw [szI_r]
    refine ⟨if_pos rfl, by omega, fun k hk => ?_⟩
    by_cases hks : k = sz i
    · subst hks
      rw [atI_s]
      exact ⟨if_pos rfl, hp⟩
    · rw [atI_k (by omega)]
      have := h3 k (by omega)
      exact ⟨(show upd members (16 * i + sz i) (nI p) (16 * i + k) = _ from if_neg (by omega)).trans this.1, this.2⟩
  · rw [szI_n hir, atI_n hir]
    refine ⟨(show upd sizes r _ i = _ from if_neg hir).trans h1, h2, fun k hk => ?_⟩
    have := h3 k hk
    exact ⟨(show upd members (16 * r + sz r) (nI p) (16 * i + k) = _ from if_neg (by omega)).trans this.1, this.2⟩
theorem rulM_I {nR : Nat} {kinds : Nat → Int32} {rights factors : Nat → Int64} {pairs firsts seconds : Nat → Int32} {K : Nat → Int32} {Rt : Nat → Int64} {sz : Nat → Nat} {fa : Nat → Nat → Int32} {prs : Nat → List (Nat × Nat)} (h : RulM nR kinds rights factors pairs firsts seconds K Rt sz fa prs) {r : Nat} (hs : ∀ i, i < nR → sz i ≤ 16) (h16 : sz r < 16) {a3 : Int64} {f : Int32} (hf : f.toInt64 = a3) : RulM nR kinds rights (vp_updL factors (16 * r + sz r) a3) pairs firsts seconds K Rt (szI sz r) (atI sz fa r f) prs := by
  intro i hi
  obtain ⟨h1, h2, h3, h4, h5⟩ := h i hi
  have hsi := hs i hi
  refine ⟨h1, h2, ?_, h4, h5⟩
  by_cases hir : i = r
  · subst hir
    rw [szI_r]
    intro k hk
    by_cases hks : k = sz i
    · subst hks
      rw [atI_s, pk_uLs, hf]
    · rw [atI_k (by omega), pk_uLn (by omega)]
      exact h3 k (by omega)
  · rw [szI_n hir, atI_n hir]
    intro k hk
    rw [pk_uLn (by omega)]
    exact h3 k hk
theorem mo_into {N P S nR st : Nat} (hN : 122 ≤ N) (hP : P ≤ 128) (hst : st ≤ 20) {kinds : Nat → Int32} {rights factors : Nat → Int64} {sizes members pairs firsts seconds : Nat → Int32} {waits : Int32} {row : Nat → Int32} {l : List Nat} {K : Nat → Int32} {Rt : Nat → Int64} {sz : Nat → Nat} {pl : Nat → Nat → Nat} {fa : Nat → Nat → Int32} {prs : Nat → List (Nat × Nat)} (hG : GhR P S nR K sz pl fa prs) (hM : MemM nR sizes members sz pl) (hC : RulM nR kinds rights factors pairs firsts seconds K Rt sz fa prs) (hl : RowM waits row l) (a1 a2 : Int32) (a3 : Int64) :
    (∃ r p, r < nR ∧ p < P ∧ a1 = nI r ∧ a2 = nI p ∧ okI sz pl st r p a3 ∧ ∃ w row' fac, p_Mo_into N (nI P) (nI nR) waits (nI st) sizes members factors row a1 a2 a3 = some (1, 0, w, upd sizes r (nI (sz r + 1)), upd members (16 * r + sz r) (nI p), fac, row') ∧ MemM nR (upd sizes r (nI (sz r + 1))) (upd members (16 * r + sz r) (nI p)) (szI sz r) (atI sz pl r p) ∧ RulM nR kinds rights fac pairs firsts seconds K Rt (szI sz r) (atI sz fa r a3.toInt32) prs ∧ RowM w row' (rjoin l r)) ∨
    ((∀ r p, r < nR → p < P → a1 = nI r → a2 = nI p → ¬ okI sz pl st r p a3) ∧ p_Mo_into N (nI P) (nI nR) waits (nI st) sizes members factors row a1 a2 a3 = some (0, 0, waits, sizes, members, factors, row)) := by
  unfold p_Mo_into
  have hR := hG.1
  rcases mo_isRule N (P := nR) (by omega) a1 with ⟨r, hr, rfl, e1⟩ | ⟨hno, e1⟩
  · rw [e1, Option.bind_some, if_neg (show ¬ (1 : Int32) = 0 by decide)]
    have uniq : ∀ {r' p' p : Nat}, r' < nR → p' < P → p < P → nI r = nI r' → nI p = nI p' → r' = r ∧ p' = p := fun h1 h2 h3 e3 e4 => ⟨((nI_eq (by omega) (by omega)).mp e3).symm, ((nI_eq (by omega) (by omega)).mp e4).symm⟩
    rcases mo_isPlace N (P := P) (by omega) a2 with ⟨p, hp, rfl, e2⟩ | ⟨hno, e2⟩
    · rw [e2, Option.bind_some, if_neg (show ¬ (1 : Int32) = 0 by decide)]
      by_cases c3 : a3 < (-1000 : Int64)
      · exact Or.inr ⟨fun r' p' _ _ _ _ z => z.1 c3, by rw [if_pos ((lg_cmp_lt _ _).mpr c3)]⟩
      rw [if_neg (fun z => c3 ((lg_cmp_lt _ _).mp z))]
      by_cases c4 : a3 ≤ (1000 : Int64)
      · rw [if_neg (show ¬ 0 < lg_cmp a3 (1000 : Int64) from fun z => absurd ((lg_cmp_gt _ _).mp z) (Int64.not_lt.mpr c4))]
        by_cases c6 : st = 0
        · subst c6
          rw [if_pos (show nI 0 ≤ (0 : Int32) from by decide)]
          obtain ⟨h1, h2, h3⟩ := hM r hr
          obtain ⟨o, e3, ho⟩ := mo_seat (N := N) (by omega) hR hM hr (show p < 128 by omega)
          rw [e3, Option.bind_some]
          by_cases hin : inR sz pl r p = true
          · rw [if_pos hin] at ho
            obtain ⟨k, hk, hk2, rfl⟩ := ho
            refine Or.inr ⟨fun r' p' h1' h2' ha hb z => ?_, by rw [if_pos (nI_pos' (by omega))]⟩
            obtain ⟨e4, e5⟩ := uniq h1' h2' hp ha hb
            subst e4; subst e5
            exact z.2.2.2.2 k hk hk2
          · rw [if_neg hin] at ho
            subst ho
            rw [if_neg (show ¬ (0 : Int32) ≤ -1 by decide), jin_nI (by omega) (by decide), nI_clamp (by omega), h1]
            by_cases c16 : sz r = 16
            · refine Or.inr ⟨fun r' p' h1' h2' ha hb z => ?_, by rw [if_pos (by rw [c16]; rfl)]⟩
              obtain ⟨e4, e5⟩ := uniq h1' h2' hp ha hb
              subst e4; subst e5
              exact absurd z.2.2.2.1 (by omega)
            · obtain ⟨w, row', e4, h5⟩ := mo_wake (N := N) (by omega) hl (show r < 120 by omega)
              refine Or.inl ⟨r, p, hr, hp, rfl, rfl, ⟨c3, c4, rfl, by omega, fun k hk z => hin (inR_iff.mpr ⟨k, hk, z⟩)⟩, w, row', _, ?_, memM_I hM (by omega) (by omega), rulM_I hC (fun i hi => (hM i hi).2.1) (by omega) (small_fac c3 c4), h5⟩
              rw [if_neg (show ¬ nI (sz r) = (16 : Int32) from fun z => c16 ((nI_eq (b := 16) (by omega) (by decide)).mp z)), jin_nI (by omega) (by decide), show (16 : Int32) = nI 16 from rfl, pk_mul, nI_add, jin_nI (by omega) (by decide), jin_nI (by omega) (by decide), jin_nI (by omega) (by decide), jin_nI (by omega) (by decide), jin_nI (by omega) (by decide), e4, Option.bind_some, nI_clamp (by omega), nI_1]
        · exact Or.inr ⟨fun r' p' _ _ _ _ z => c6 z.2.2.1, by rw [if_neg (show ¬ nI st ≤ (0 : Int32) from nI_nle (by omega) (by omega))]⟩
      · exact Or.inr ⟨fun r' p' _ _ _ _ z => c4 z.2.1, by rw [if_pos ((lg_cmp_gt _ _).mpr (Int64.not_le.mp c4))]⟩
    · exact Or.inr ⟨fun r' p' _ hp' _ hb _ => hno p' hp' hb, by rw [e2, Option.bind_some, if_pos rfl]⟩
  · exact Or.inr ⟨fun r' p' hr' _ ha _ _ => hno r' hr' ha, by rw [e1, Option.bind_some, if_pos rfl]⟩

