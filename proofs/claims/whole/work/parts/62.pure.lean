/-! decide in the class, find in the reference. -/
def RtOK (nR : Nat) (Rt : Nat → Int64) : Prop := ∀ r, r < nR → ¬ Rt r < (-1000000 : Int64) ∧ Rt r ≤ (1000000 : Int64)
theorem jcp16 {α : Type} {k : Option α} : jcp (0 : Int32) (0 : Int32) (nI 16) 16 16 k = k := by
  unfold jcp
  exact if_neg (by decide)
theorem cpy16 (h keep : Nat → Int64) : ∀ i, i < 16 → va_cpy h keep (0 : Int32).toNatClampNeg (0 : Int32).toNatClampNeg (nI 16).toNatClampNeg i = h i := by
  intro i hi
  rw [cl0, nI_clamp (by decide), pk_cpy_in (by omega) (by omega)]
  congr 1
  omega
theorem find_load (N : Nat) {P n r : Nat} (hP : P ≤ 128) (hn : n ≤ 16) (hr : r < 120) {cand : Nat → Int64} {members kinds : Nat → Int32} {rights factors : Nat → Int64} {pairs firsts seconds : Nat → Int32} {pl : Nat → Nat} (hm : ∀ k, k < n → members (16 * r + k) = nI (pl k) ∧ pl k < P) {sy : Int32} (U : Nat → Int64) :
    ∀ f k had goes, k ≤ n → n - k < f → ∃ goes', q_Mo_find_9 N sy cand kinds rights members factors pairs firsts seconds (nI r) f (nI n) (nI k) had goes U = q_Mo_find_49 N sy kinds rights factors pairs firsts seconds (nI r) (nI n) (fun i => if k ≤ i ∧ i < n then cand (pl i) else had i) goes' U ∧ (∀ i, i < k → goes' i = goes i) ∧ ∀ i, k ≤ i → i < n → goes' i = 0 := by
  intro f
  induction f with
  | zero => intro k had goes _ hf; omega
  | succ f ih =>
    intro k had goes hk hf
    rw [q_Mo_find_9]
    show ∃ goes', (if nI n ≤ nI k then _ else _) = _ ∧ _
    by_cases hc : n ≤ k
    · rw [if_pos (nI_le hc (by omega))]
      refine ⟨goes, ?_, fun _ _ => rfl, fun i h1 h2 => by omega⟩
      congr 1
      funext i
      rw [if_neg (by omega)]
    · obtain ⟨m1, m2⟩ := hm k (by omega)
      rw [if_neg (nI_ge (by omega) (by omega)), show (16 : Int32) = nI 16 from rfl, pk_mul, nI_add, jin_nI (by omega) (by decide), nI_clamp (by omega), m1, jin_nI (by omega) (by decide), jin_nI (by omega) (by decide), jin_nI (by omega) (by decide), nI_clamp (by omega), nI_clamp (by omega), nI_1]
      obtain ⟨g', e1, h1, h2⟩ := ih (k + 1) (vp_updL had k (cand (pl k))) (vp_updL goes k 0) (by omega) (by omega)
      refine ⟨g', ?_, fun i hi => by rw [h1 i (by omega), pk_uLn (by omega)], fun i a b => ?_⟩
      · rw [e1]
        congr 1
        funext i
        by_cases he : i = k
        · subst he
          rw [if_neg (by omega), if_pos ⟨Nat.le_refl _, by omega⟩, pk_uLs]
        · rw [pk_uLn he]
          by_cases h3 : k ≤ i ∧ i < n
          · rw [if_pos h3, if_pos ⟨by omega, h3.2⟩]
          · rw [if_neg h3, if_neg (by omega)]
      · by_cases he : i = k
        · subst he; rw [h1 i (by omega), pk_uLs]
        · exact h2 i (by omega) b
theorem same_keep {h keep goes : Nat → Int64} {n : Nat} (hk : ∀ i, i < n → keep i = h i) (hg : ∀ i, i < n → goes i = 0) : Same h keep goes n := by
  apply same_of
  intro k hkn v hv
  rw [hk k hkn, hg k hkn, tb_0]
  constructor
  · intro z; cases z
  · intro z; exact absurd z.1 z.2
theorem rt_int {a : Int64} (h1 : ¬ a < (-1000000 : Int64)) (h2 : a ≤ (1000000 : Int64)) : -1000000 ≤ a.toInt ∧ a.toInt ≤ 1000000 := by
  rw [Int64.lt_iff_toInt_lt] at h1
  rw [Int64.le_iff_toInt_le] at h2
  have e1 : (-1000000 : Int64).toInt = -1000000 := by decide
  have e2 : (1000000 : Int64).toInt = 1000000 := by decide
  rw [e1] at h1
  rw [e2] at h2
  omega
theorem fa_int {a : Int32} (h1 : ¬ a < (-1000 : Int32)) (h2 : a ≤ (1000 : Int32)) : -1000 ≤ a.toInt ∧ a.toInt ≤ 1000 := by
  rw [Int32.lt_iff_toInt_lt] at h1
  rw [Int32.le_iff_toInt_le] at h2
  have e1 : (-1000 : Int32).toInt = -1000 := by decide
  have e2 : (1000 : Int32).toInt = 1000 := by decide
  rw [e1] at h1
  rw [e2] at h2
  omega
theorem decide_both {N P S nR r : Nat} (hN : 65538 ≤ N) (hS : S ≤ 60) {K : Nat → Int32} {Rt : Nat → Int64} {sz : Nat → Nat} {pl : Nat → Nat → Nat} {fa : Nat → Nat → Int32} {prs : Nat → List (Nat × Nat)} {RF : Nat → RData} {kinds : Nat → Int32} {rights factors : Nat → Int64} {pairs firsts seconds : Nat → Int32} (hG : GhR P S nR K sz pl fa prs) (hT : RtOK nR Rt) (hC : RulC S nR RF K Rt sz pl fa prs) (hM : RulM nR kinds rights factors pairs firsts seconds K Rt sz fa prs) (hr : r < nR) {h : Nat → Int64} (hne : ∀ k, k < sz r → h k ≠ 0) (hlt : ∀ k, k < sz r → ∀ v, tb (h k) v = true → v < S) (keep : Nat → Int64) (used : Int64) (mv : Int32) (given ab line reach : Nat → Int32) (goes U : Nat → Int64) (hg : ∀ i, i < sz r → goes i = 0) :
    ∃ keep' u' mv' gi' ab' li' re' goes' U', p_Kernel_decide N (RF r).1 (nI S) h keep used mv given ab line reach (RF r).2.1 (RF r).2.2.1 (RF r).2.2.2.1 (RF r).2.2.2.2.2.2.1 (RF r).2.2.2.2.2.2.2 = some (keep', u', mv', gi', ab', li', re') ∧ q_Mo_find_49 N (nI S) kinds rights factors pairs firsts seconds (nI r) (nI (sz r)) h goes U = some (h, goes', U') ∧ Same h keep' goes' (sz r) := by
  obtain ⟨hR, hG⟩ := hG
  obtain ⟨g1, g2, g3, g4, g5, g6, g7, g8⟩ := hG r hr
  obtain ⟨c1, c2, c3, c4, c5, c6, c7⟩ := hC r hr
  obtain ⟨m1, m2, m3, m4, m5⟩ := hM r hr
  obtain ⟨t1, t2⟩ := hT r hr
  obtain ⟨i1, i2⟩ := rt_int t1 t2
  have hb60 : ∀ k, k < sz r → ∀ v, tb (h k) v = true → v < 60 := fun k hk v hv => by have := hlt k hk v hv; omega
  have hfb : ∀ k, k < sz r → -1000 ≤ (fa r k).toInt ∧ (fa r k).toInt ≤ 1000 := fun k hk => fa_int (g5 k hk).1 (g5 k hk).2
  have hff : ∀ k, k < sz r → (RF r).2.2.2.2.2.2.1 k = fa r k := fun k hk => (c5 k hk).2
  unfold p_Kernel_decide q_Mo_find_49
  rw [jcp16, jin_nI (show r < 120 by omega) (by decide), nI_clamp (show r < 2 ^ 31 by omega), c1, c2, c3, c6, m1]
  generalize hkc : va_cpy h keep (0 : Int32).toNatClampNeg (0 : Int32).toNatClampNeg (nI 16).toNatClampNeg = kc
  have hkeep : ∀ i, i < sz r → kc i = h i := fun i hi => by rw [← hkc]; exact cpy16 h keep i (by omega)
  have hz : ∀ {α : Type} {x y : Option α}, 0 < sz r → (if nI (sz r) = 0 then x else y) = y := fun q => if_neg (nI_ne0 q (by omega))
  -- with no place the class keeps all
  have zero : ∀ {x : Option ((Nat → Int64) × Int64 × Int32 × (Nat → Int32) × (Nat → Int32) × (Nat → Int32) × (Nat → Int32))} {y : Option ((Nat → Int64) × (Nat → Int64) × (Nat → Int64))}, (∃ keep' u' mv' gi' ab' li' re' goes' U', x = some (keep', u', mv', gi', ab', li', re') ∧ y = some (h, goes', U') ∧ Same h keep' goes' (sz r)) → ∃ keep' u' mv' gi' ab' li' re' goes' U', (if nI (sz r) = 0 then some (kc, used, mv, given, ab, line, reach) else x) = some (keep', u', mv', gi', ab', li', re') ∧ y = some (h, goes', U') ∧ Same h keep' goes' (sz r) := by
    rintro x y ⟨keep', u', mv', gi', ab', li', re', goes', U', e1, e2, e3⟩
    by_cases h0 : sz r = 0
    · rw [h0, if_pos (show nI 0 = 0 by decide)]
      exact ⟨_, _, _, _, _, _, _, goes', U', rfl, e2, fun k hk => absurd hk (Nat.not_lt_zero _)⟩
    · rw [hz (by omega)]
      exact ⟨keep', u', mv', gi', ab', li', re', goes', U', e1, e2, e3⟩
  apply zero
  rcases pk_ix (K r) (n := 8) (by decide) with q | q | ⟨j, hj, q⟩
  · exact absurd q g1
  · exact absurd (show (7 : Int32) < K r from by
      rw [Int32.lt_iff_toInt_lt]
      rw [Int32.le_iff_toInt_le] at q
      have e1 : (nI 8).toInt = 8 := by decide
      have e2 : (7 : Int32).toInt = 7 := by decide
      omega) g2
  · rw [q]
    have hj8 : j = 0 ∨ j = 1 ∨ j = 2 ∨ j = 3 ∨ j = 4 ∨ j = 5 ∨ j = 6 ∨ j = 7 := by omega
    rcases hj8 with rfl | rfl | rfl | rfl | rfl | rfl | rfl | rfl
    · rw [if_pos (show nI 0 = 0 by decide), if_pos (show nI 0 = 0 by decide)]
      obtain ⟨keep', u', mv', gi', ab', li', re', g', U', e1, e2, e3⟩ := unlike_both hN g3 hb60 kc mv given ab line reach goes U hg
      exact ⟨keep', u', mv', gi', ab', li', re', g', U', by rw [e1]; rfl, by rw [e2]; rfl, e3⟩
    · rw [if_neg (show ¬ nI 1 = 0 by decide), if_neg (show ¬ nI 1 = 0 by decide), if_pos (show nI 1 = 1 by decide), if_pos (show nI 1 = 1 by decide)]
      obtain ⟨keep', g', e1, e2, e3⟩ := equal_both (show 18 ≤ N by omega) g3 kc goes (h := h)
      exact ⟨keep', _, _, _, _, _, _, g', _, by rw [e1]; rfl, by rw [e2]; rfl, e3⟩
    · rw [if_neg (show ¬ nI 2 = 0 by decide), if_neg (show ¬ nI 2 = 0 by decide), if_neg (show ¬ nI 2 = 1 by decide), if_neg (show ¬ nI 2 = 1 by decide), if_pos (show nI 2 = 2 by decide), if_pos (show nI 2 = 2 by decide)]
      obtain ⟨keep', g', e1, e2, e3⟩ := sum_both (N := N) (by omega) (show r < 120 by omega) hS g3 hne hlt hfb hff (rights := rights) m3 m2 i1 i2 (kind := nI 2) (a3 := 1) (Or.inl ⟨rfl, rfl⟩) kc goes hkeep hg
      exact ⟨keep', _, _, _, _, _, _, g', _, by rw [e1]; rfl, by rw [e2]; rfl, e3⟩
    · rw [if_neg (show ¬ nI 3 = 0 by decide), if_neg (show ¬ nI 3 = 0 by decide), if_neg (show ¬ nI 3 = 1 by decide), if_neg (show ¬ nI 3 = 1 by decide), if_neg (show ¬ nI 3 = 2 by decide), if_neg (show ¬ nI 3 = 2 by decide), if_pos (show nI 3 = 3 by decide), if_pos (show nI 3 = 3 by decide)]
      obtain ⟨keep', g', e1, e2, e3⟩ := sum_both (N := N) (by omega) (show r < 120 by omega) hS g3 hne hlt hfb hff (rights := rights) m3 m2 i1 i2 (kind := nI 3) (a3 := 0) (Or.inr ⟨by decide, rfl⟩) kc goes hkeep hg
      exact ⟨keep', _, _, _, _, _, _, g', _, by rw [e1]; rfl, by rw [e2]; rfl, e3⟩
    · rw [if_neg (show ¬ nI 4 = 0 by decide), if_neg (show ¬ nI 4 = 0 by decide), if_neg (show ¬ nI 4 = 1 by decide), if_neg (show ¬ nI 4 = 1 by decide), if_neg (show ¬ nI 4 = 2 by decide), if_neg (show ¬ nI 4 = 2 by decide), if_neg (show ¬ nI 4 = 3 by decide), if_neg (show ¬ nI 4 = 3 by decide), if_pos (show nI 4 = 4 by decide), if_pos (show nI 4 = 4 by decide)]
      obtain ⟨keep', g', e1, e2, e3⟩ := count_both (N := N) (by omega) (show r < 120 by omega) hS g3 hlt hff (rights := rights) m3 m2 i1 i2 kc goes hkeep hg
      exact ⟨keep', _, _, _, _, _, _, g', _, by rw [e1]; rfl, by rw [e2]; rfl, e3⟩
    · rw [if_neg (show ¬ nI 5 = 0 by decide), if_neg (show ¬ nI 5 = 0 by decide), if_neg (show ¬ nI 5 = 1 by decide), if_neg (show ¬ nI 5 = 1 by decide), if_neg (show ¬ nI 5 = 2 by decide), if_neg (show ¬ nI 5 = 2 by decide), if_neg (show ¬ nI 5 = 3 by decide), if_neg (show ¬ nI 5 = 3 by decide), if_neg (show ¬ nI 5 = 4 by decide), if_neg (show ¬ nI 5 = 4 by decide), if_pos (show nI 5 = 5 by decide), if_pos (show nI 5 = 5 by decide)]
      obtain ⟨keep', g', e1, e2, e3⟩ := rising_both (N := N) (by omega) hS g3 hlt kc goes hkeep hg
      exact ⟨keep', _, _, _, _, _, _, g', _, by rw [e1]; rfl, by rw [e2]; rfl, e3⟩
    · rw [if_neg (show ¬ nI 6 = 0 by decide), if_neg (show ¬ nI 6 = 0 by decide), if_neg (show ¬ nI 6 = 1 by decide), if_neg (show ¬ nI 6 = 1 by decide), if_neg (show ¬ nI 6 = 2 by decide), if_neg (show ¬ nI 6 = 2 by decide), if_neg (show ¬ nI 6 = 3 by decide), if_neg (show ¬ nI 6 = 3 by decide), if_neg (show ¬ nI 6 = 4 by decide), if_neg (show ¬ nI 6 = 4 by decide), if_neg (show ¬ nI 6 = 5 by decide), if_neg (show ¬ nI 6 = 5 by decide), if_pos (show nI 6 = 6 by decide), if_pos (show nI 6 = 6 by decide)]
      by_cases h2 : sz r = 2
      · rw [h2] at hlt hkeep hg ⊢
        rw [if_pos (show nI 2 = (2 : Int32) by decide)]
        obtain ⟨keep', g', e1, e2, e3⟩ := apart_both (N := N) (by omega) hS (show r < 120 by omega) t1 t2 (rights := rights) m2 hlt kc goes hkeep hg
        exact ⟨keep', _, _, _, _, _, _, g', _, by rw [e1]; rfl, by rw [e2]; rfl, e3⟩
      · have hn2 : ¬ nI (sz r) = (2 : Int32) := fun z => h2 ((nI_eq (b := 2) (by omega) (by decide)).mp z)
        rw [if_neg hn2]
        unfold p_Kernel_keepApart
        rw [if_neg hn2]
        exact ⟨kc, _, _, _, _, _, _, goes, _, rfl, rfl, same_keep hkeep hg⟩
    · rw [if_neg (show ¬ nI 7 = 0 by decide), if_neg (show ¬ nI 7 = 0 by decide), if_neg (show ¬ nI 7 = 1 by decide), if_neg (show ¬ nI 7 = 1 by decide), if_neg (show ¬ nI 7 = 2 by decide), if_neg (show ¬ nI 7 = 2 by decide), if_neg (show ¬ nI 7 = 3 by decide), if_neg (show ¬ nI 7 = 3 by decide), if_neg (show ¬ nI 7 = 4 by decide), if_neg (show ¬ nI 7 = 4 by decide), if_neg (show ¬ nI 7 = 5 by decide), if_neg (show ¬ nI 7 = 5 by decide), if_neg (show ¬ nI 7 = 6 by decide), if_neg (show ¬ nI 7 = 6 by decide), if_pos (show nI 7 = 7 by decide), if_pos (show nI 7 = 7 by decide)]
      by_cases h2 : sz r = 2
      · rw [h2] at hlt hkeep hg ⊢
        rw [if_pos (show nI 2 = (2 : Int32) by decide)]
        obtain ⟨keep', g', e1, e2, e3⟩ := table_both (N := N) (by omega) hS (show r < 120 by omega) (h := h) c7 g7 (fun p hp => (g8 p hp).2) m4 m5 kc goes
        exact ⟨keep', _, _, _, _, _, _, g', _, by rw [e1]; rfl, by rw [e2]; rfl, e3⟩
      · have hn2 : ¬ nI (sz r) = (2 : Int32) := fun z => h2 ((nI_eq (b := 2) (by omega) (by decide)).mp z)
        rw [if_neg hn2]
        unfold p_Kernel_keepTable
        rw [if_neg hn2]
        exact ⟨kc, _, _, _, _, _, _, goes, _, rfl, rfl, same_keep hkeep hg⟩

