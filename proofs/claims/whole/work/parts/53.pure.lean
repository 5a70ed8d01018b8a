/-! What a place can be led to: the class's sets of reach. -/
theorem reach_in (N : Nat) {n k : Nat} (hn : n ≤ 16) (hk : k < n) {R0 : Nat → Int32} (K : Int32 → Int32 → (Nat → Int32) → Option (Int32 × (Nat → Int32))) (mv : Int32) :
    ∀ f x R, n - x < f → x ≤ n → (∀ i, i < n → ∀ o, o < 32 → bt (R i) o = if i < x then (bt (R0 i) o || (bt (R0 i) k && bt (R0 k) o)) else bt (R0 i) o) →
      ∃ R', q_Giving_findReach_116 N (nI n) K f (nI k) (nI x) mv R = K (nI (k + 1)) mv R' ∧ ∀ i, i < n → ∀ o, o < 32 → bt (R' i) o = (bt (R0 i) o || (bt (R0 i) k && bt (R0 k) o)) := by
  intro f
  induction f with
  | zero => intro x R hf; omega
  | succ f ih =>
    intro x R hf hx hR
    rw [q_Giving_findReach_116]
    show ∃ R', (if nI n ≤ nI x then _ else _) = _ ∧ _
    by_cases hc : n ≤ x
    · rw [if_pos (nI_le hc (by omega))]
      unfold q_Giving_findReach_162
      rw [nI_1]
      refine ⟨R, rfl, fun i hi o ho => ?_⟩
      rw [hR i hi o ho, if_pos (by omega)]
    · rw [if_neg (nI_ge (by omega) (by omega)), jin_nI (by omega) (by decide), jin_nI (by omega) (by decide), nI_clamp (by omega)]
      have hk0 : ∀ o, o < 32 → bt (R k) o = bt (R0 k) o := fun o ho => by
        rw [hR k hk o ho]
        split
        · cases bt (R0 k) o <;> simp
        · rfl
      have hx0 : ∀ o, o < 32 → bt (R x) o = bt (R0 x) o := fun o ho => by
        rw [hR x (by omega) o ho, if_neg (by omega)]
      have go : ∀ z : Int32, (∀ o, o < 32 → bt (R x ||| z) o = (bt (R0 x) o || (bt (R0 x) k && bt (R0 k) o))) → ∃ R', q_Giving_findReach_154 N (q_Giving_findReach_116 N (nI n) K f) (nI k) (nI x) z (R x) (nI x) mv R = K (nI (k + 1)) mv R' ∧ ∀ i, i < n → ∀ o, o < 32 → bt (R' i) o = (bt (R0 i) o || (bt (R0 i) k && bt (R0 k) o)) := by
        intro z hz
        unfold q_Giving_findReach_154
        rw [jin_nI (by omega) (by decide), nI_clamp (by omega), nI_1]
        refine ih (x + 1) _ (by omega) (by omega) (fun i hi o ho => ?_)
        by_cases hix : i = x
        · subst hix
          rw [pk_us, hz o ho, if_pos (by omega)]
        · rw [pk_un hix, hR i hi o ho]
          by_cases h1 : i < x
          · rw [if_pos h1, if_pos (by omega)]
          · rw [if_neg h1, if_neg (by omega)]
      by_cases hb : bt (R0 x) k = true
      · rw [if_neg (fun h => by rw [bt_test (by omega), hx0 k (by omega), hb] at h; cases h), jin_nI (by omega) (by decide), nI_clamp (by omega)]
        exact go _ (fun o ho => by rw [bt_or, hx0 o ho, hk0 o ho, hb, Bool.true_and])
      · have hb : bt (R0 x) k = false := by simpa using hb
        rw [if_pos ((bt_test (by omega) _).mpr (by rw [hx0 k (by omega), hb]))]
        exact go _ (fun o ho => by rw [bt_or, hx0 o ho, bt_0, hb, Bool.false_and])
/-- what the sets of reach are, when the places below k have been gone through -/
def ReachK (n : Nat) (E : Nat → Nat → Prop) (k : Nat) (R : Nat → Int32) : Prop :=
  (∀ i o, i < n → o < 32 → bt (R i) o = true → o < n) ∧ (∀ i o, i < n → o < n → E i o → bt (R i) o = true) ∧ (∀ i t j, i < n → t < k → t < n → j < n → bt (R i) t = true → bt (R t) j = true → bt (R i) j = true) ∧
  ∀ S : Nat → Prop, (∀ a b, a < n → b < n → S a → E a b → S b) → ∀ i o, i < n → o < n → S i → bt (R i) o = true → S o
theorem reach_step {n k : Nat} (hn : n ≤ 16) (hk : k < n) {E : Nat → Nat → Prop} {R R' : Nat → Int32} (h : ReachK n E k R) (hR : ∀ i, i < n → ∀ o, o < 32 → bt (R' i) o = (bt (R i) o || (bt (R i) k && bt (R k) o))) : ReachK n E (k + 1) R' := by
  obtain ⟨h1, h2, h3, h4⟩ := h
  have up : ∀ i o, i < n → o < 32 → (bt (R' i) o = true ↔ bt (R i) o = true ∨ (bt (R i) k = true ∧ bt (R k) o = true)) := fun i o hi ho => by
    rw [hR i hi o ho, Bool.or_eq_true, Bool.and_eq_true]
  refine ⟨fun i o hi ho z => ?_, fun i o hi ho z => ?_, fun i t j hi htk ht hj z1 z2 => ?_, fun S hS i o hi ho hs z => ?_⟩
  · rcases (up i o hi ho).mp z with z | ⟨_, z⟩
    · exact h1 i o hi ho z
    · exact h1 k o hk ho z
  · exact (up i o hi (by omega)).mpr (Or.inl (h2 i o hi ho z))
  · rw [up i j hi (by omega)]
    rw [up i t hi (by omega)] at z1
    rw [up t j ht (by omega)] at z2
    by_cases htk' : t = k
    · subst htk'
      have a1 : bt (R i) t = true := by
        rcases z1 with z | ⟨z, _⟩
        · exact z
        · exact z
      have a2 : bt (R t) j = true := by
        rcases z2 with z | ⟨_, z⟩
        · exact z
        · exact z
      exact Or.inr ⟨a1, a2⟩
    · have ht' : t < k := by omega
      rcases z1 with z1 | ⟨z1, z1'⟩
      · rcases z2 with z2 | ⟨z2, z2'⟩
        · exact Or.inl (h3 i t j hi ht' ht hj z1 z2)
        · exact Or.inr ⟨h3 i t k hi ht' ht hk z1 z2, z2'⟩
      · rcases z2 with z2 | ⟨z2, z2'⟩
        · exact Or.inr ⟨z1, h3 k t j hk ht' ht hj z1' z2⟩
        · exact Or.inr ⟨z1, z2'⟩
  · rcases (up i o hi (by omega)).mp z with z | ⟨z, z'⟩
    · exact h4 S hS i o hi ho hs z
    · exact h4 S hS k o hk ho (h4 S hS i k hi hk hs z) z'
theorem reach_out (N : Nat) {n : Nat} (hN : 17 ≤ N) (hn : n ≤ 16) {E : Nat → Nat → Prop} (mv : Int32) :
    ∀ f k R, n - k < f → k ≤ n → ReachK n E k R → ∃ R', q_Giving_findReach_108 N (nI n) f (nI k) mv R = some (mv, R') ∧ ReachK n E n R' := by
  intro f
  induction f with
  | zero => intro k R hf; omega
  | succ f ih =>
    intro k R hf hk hR
    rw [q_Giving_findReach_108]
    show ∃ R', (if nI n ≤ nI k then _ else _) = _ ∧ _
    by_cases hc : n ≤ k
    · rw [if_pos (nI_le hc (by omega))]
      have : k = n := by omega
      subst this
      exact ⟨R, rfl, hR⟩
    · rw [if_neg (nI_ge (by omega) (by omega))]
      obtain ⟨R', e1, h1⟩ := reach_in N hn (show k < n by omega) (R0 := R) (q_Giving_findReach_108 N (nI n) f) mv N 0 R (by omega) (by omega) (fun i hi o ho => by rw [if_neg (by omega)])
      rw [show (0 : Int32) = nI 0 from rfl, e1]
      exact ih (k + 1) R' (by omega) (by omega) (reach_step hn (by omega) hR h1)
theorem find_in (N : Nat) {n x : Nat} (hn : n ≤ 16) (hx : x < n) {h : Nat → Int64} {gv : Nat → Nat} {given : Nat → Int32} (used : Int64) (hg : ∀ i, i < n → given i = nI (gv i) ∧ gv i < 60) (K : Int32 → Int32 → (Nat → Int32) → Option (Int32 × (Nat → Int32))) (mv : Int32) (R0 : Nat → Int32) :
    ∀ f y R, n - y < f → y ≤ n → (∀ o, o < 32 → bt (R x) o = decide (o < y ∧ tb (h x) (gv o) = true)) → (∀ i, i ≠ x → R i = R0 i) →
      ∃ R', q_Giving_findReach_22 N used given h (nI n) K f (nI x) (nI y) mv R = q_Giving_findReach_67 N used h K (nI x) mv R' ∧ (∀ o, o < 32 → bt (R' x) o = decide (o < n ∧ tb (h x) (gv o) = true)) ∧ (∀ i, i ≠ x → R' i = R0 i) := by
  intro f
  induction f with
  | zero => intro y R hf; omega
  | succ f ih =>
    intro y R hf hy hR hR0
    rw [q_Giving_findReach_22]
    show ∃ R', (if nI n ≤ nI y then _ else _) = _ ∧ _
    by_cases hc : n ≤ y
    · rw [if_pos (nI_le hc (by omega))]
      have : y = n := by omega
      subst this
      exact ⟨R, rfl, hR, hR0⟩
    · rw [if_neg (nI_ge (by omega) (by omega)), jin_nI (by omega) (by decide), jin_nI (by omega) (by decide), jin_nI (by omega) (by decide), nI_clamp (by omega), nI_clamp (by omega), (hg y (by omega)).1, has_tb N _ (show gv y < 64 by have := (hg y (by omega)).2; omega), Option.bind_some]
      have go : ∀ z : Int32, (∀ o, o < 32 → bt z o = decide (o = y ∧ tb (h x) (gv y) = true)) → ∃ R', q_Giving_findReach_59 N (q_Giving_findReach_22 N used given h (nI n) K f) (nI x) (nI y) z (R x) (nI x) mv R = q_Giving_findReach_67 N used h K (nI x) mv R' ∧ (∀ o, o < 32 → bt (R' x) o = decide (o < n ∧ tb (h x) (gv o) = true)) ∧ (∀ i, i ≠ x → R' i = R0 i) := by
        intro z hz
        unfold q_Giving_findReach_59
        rw [jin_nI (by omega) (by decide), nI_clamp (by omega), nI_1]
        refine ih (y + 1) _ (by omega) (by omega) (fun o ho => ?_) (fun i hi => ?_)
        · rw [pk_us, bt_or, hR o ho, hz o ho]
          rw [Bool.eq_iff_iff, Bool.or_eq_true, decide_eq_true_eq, decide_eq_true_eq, decide_eq_true_eq]
          constructor
          · rintro (⟨a, b⟩ | ⟨a, b⟩)
            · exact ⟨by omega, b⟩
            · subst a; exact ⟨by omega, b⟩
          · rintro ⟨a, b⟩
            by_cases h : o = y
            · subst h; exact Or.inr ⟨rfl, b⟩
            · exact Or.inl ⟨by omega, b⟩
        · rw [pk_un hi, hR0 i hi]
      by_cases hb : tb (h x) (gv y) = true
      · rw [if_pos hb, if_neg (show ¬ (1 : Int32) = 0 by decide)]
        exact go _ (fun o ho => by rw [bt_bit (by omega) ho]; simp [hb])
      · rw [if_neg hb, if_pos rfl]
        exact go _ (fun o ho => by rw [bt_0]; simp [hb])
/-- findReach: the sets of reach, and the places that can take a symbol that nobody was given -/
theorem find_loop (N : Nat) {n : Nat} (hN : 17 ≤ N) (hn : n ≤ 16) {h : Nat → Int64} {gv : Nat → Nat} {given : Nat → Int32} (used : Int64) (hg : ∀ i, i < n → given i = nI (gv i) ∧ gv i < 60) :
    ∀ f x mv R, n - x < f → x ≤ n → (∀ o, o < 32 → bt mv o = decide (o < x ∧ ¬ h o &&& (used ^^^ (-1 : Int64)) = 0)) → (∀ i, i < x → ∀ o, o < 32 → bt (R i) o = decide (o < n ∧ tb (h i) (gv o) = true)) →
      ∃ mv' R', q_Giving_findReach_7 N used given h (nI n) f (nI x) mv R = some (mv', R') ∧ ReachK n (fun i o => tb (h i) (gv o) = true) n R' ∧ (∀ o, o < 32 → bt mv' o = decide (o < n ∧ ¬ h o &&& (used ^^^ (-1 : Int64)) = 0)) := by
  intro f
  induction f with
  | zero => intro x mv R hf; omega
  | succ f ih =>
    intro x mv R hf hx hmv hR
    rw [q_Giving_findReach_7]
    show ∃ mv' R', (if nI n ≤ nI x then _ else _) = _ ∧ _
    by_cases hc : n ≤ x
    · rw [if_pos (nI_le hc (by omega))]
      have : x = n := by omega
      subst this
      unfold q_Giving_findReach_106
      obtain ⟨R', e1, h1⟩ := reach_out N hN hn (E := fun i o => tb (h i) (gv o) = true) mv N 0 R (by omega) (by omega) ⟨fun i o hi ho z => (by
        rw [hR i hi o ho, decide_eq_true_eq] at z; exact z.1), fun i o hi ho z => (by rw [hR i hi o (by omega), decide_eq_true_eq]; exact ⟨ho, z⟩), fun i t j _ ht => absurd ht (Nat.not_lt_zero _), fun S hS i o hi ho hs z => (by
        rw [hR i hi o (by omega), decide_eq_true_eq] at z; exact hS i o hi ho hs z.2)⟩
      exact ⟨mv, R', e1, h1, hmv⟩
    · rw [if_neg (nI_ge (by omega) (by omega)), jin_nI (by omega) (by decide), nI_clamp (by omega)]
      obtain ⟨R', e1, h1, h2⟩ := find_in N hn (show x < n by omega) (h := h) used hg (q_Giving_findReach_7 N used given h (nI n) f) mv R N 0 (upd R x 0) (by omega) (by omega) (fun o ho => by rw [pk_us, bt_0]; simp) (fun i hi => pk_un hi)
      rw [show (0 : Int32) = nI 0 from rfl] at *
      rw [e1]
      unfold q_Giving_findReach_67
      rw [jin_nI (by omega) (by decide), nI_clamp (by omega)]
      have go : ∀ z : Int32, (∀ o, o < 32 → bt z o = decide (o = x ∧ ¬ h x &&& (used ^^^ (-1 : Int64)) = 0)) → ∃ mv' R'', q_Giving_findReach_96 N (q_Giving_findReach_7 N used given h (nI n) f) (nI x) z mv mv R' = some (mv', R'') ∧ ReachK n (fun i o => tb (h i) (gv o) = true) n R'' ∧ (∀ o, o < 32 → bt mv' o = decide (o < n ∧ ¬ h o &&& (used ^^^ (-1 : Int64)) = 0)) := by
        intro z hz
        unfold q_Giving_findReach_96
        rw [nI_1]
        refine ih (x + 1) _ R' (by omega) (by omega) (fun o ho => ?_) (fun i hi o ho => ?_)
        · rw [bt_or, hmv o ho, hz o ho, Bool.eq_iff_iff, Bool.or_eq_true, decide_eq_true_eq, decide_eq_true_eq, decide_eq_true_eq]
          constructor
          · rintro (⟨a, b⟩ | ⟨a, b⟩)
            · exact ⟨by omega, b⟩
            · subst a; exact ⟨by omega, b⟩
          · rintro ⟨a, b⟩
            by_cases h : o = x
            · subst h; exact Or.inr ⟨rfl, b⟩
            · exact Or.inl ⟨by omega, b⟩
        · by_cases hix : i = x
          · subst hix
            exact h1 o ho
          · rw [h2 i hix]
            exact hR i (by omega) o ho
      by_cases hz : h x &&& (used ^^^ (-1 : Int64)) = 0
      · rw [if_pos ((lg_cmp_eq _ _).mpr hz)]
        exact go _ (fun o ho => by rw [bt_0]; exact (decide_eq_false (fun a => a.2 hz)).symm)
      · rw [if_neg (fun q => hz ((lg_cmp_eq _ _).mp q))]
        exact go _ (fun o ho => by rw [bt_bit (by omega) ho]; exact decide_eq_decide.mpr ⟨fun a => ⟨a, hz⟩, fun a => a.1⟩)
theorem find_all (N : Nat) {n : Nat} (hN : 17 ≤ N) (hn : n ≤ 16) {h : Nat → Int64} {gv : Nat → Nat} {given : Nat → Int32} (used : Int64) (hg : ∀ i, i < n → given i = nI (gv i) ∧ gv i < 60) (R : Nat → Int32) :
    ∃ mv' R', p_Giving_findReach N used given R h (nI n) = some (mv', R') ∧ ReachK n (fun i o => tb (h i) (gv o) = true) n R' ∧ (∀ o, o < 32 → bt mv' o = decide (o < n ∧ ¬ h o &&& (used ^^^ (-1 : Int64)) = 0)) := by
  unfold p_Giving_findReach
  exact find_loop N hN hn used hg N 0 0 R (by omega) (by omega) (fun o ho => by rw [bt_0]; simp) (fun i hi => absurd hi (Nat.not_lt_zero _))
theorem poss_loop (N : Nat) {n pl : Nat} (hn : n ≤ 16) (hpl : pl < n) {x : Int64} {gv : Nat → Nat} {given R : Nat → Int32} {mv : Int32} (hg : ∀ i, i < n → given i = nI (gv i) ∧ gv i < 60) :
    ∀ f o y, n - o < f → o ≤ n → ∃ y', q_Giving_possible_15 N mv given R x (nI pl) (nI n) f y (nI o) = some y' ∧ ∀ v, v < 64 → (tb y' v = true ↔ tb y v = true ∨ (tb x v = true ∧ ∃ q, o ≤ q ∧ q < n ∧ gv q = v ∧ ∃ t, t < 32 ∧ bt (R q) t = true ∧ (bt mv t = true ∨ t = pl))) := by
  intro f
  induction f with
  | zero => intro o y hf; omega
  | succ f ih =>
    intro o y hf ho
    rw [q_Giving_possible_15]
    show ∃ y', (if nI n ≤ nI o then _ else _) = _ ∧ _
    by_cases hc : n ≤ o
    · rw [if_pos (nI_le hc (by omega))]
      refine ⟨y, rfl, fun v hv => ⟨Or.inl, ?_⟩⟩
      rintro (z | ⟨_, q, h1, h2, _⟩)
      · exact z
      · omega
    · rw [if_neg (nI_ge (by omega) (by omega)), jin_nI (by omega) (by decide), nI_clamp (by omega)]
      have key : (R o &&& (mv ||| (1 : Int32) <<< (nI pl &&& 31)) = 0) ↔ ¬ ∃ t, t < 32 ∧ bt (R o) t = true ∧ (bt mv t = true ∨ t = pl) := by
        rw [bt_zero]
        constructor
        · rintro h ⟨t, ht, a, b⟩
          have := h t ht
          rw [bt_and, bt_or, bt_bit (by omega) ht, a, Bool.true_and, Bool.or_eq_false_iff, decide_eq_false_iff_not] at this
          rcases b with b | b
          · rw [b] at this; cases this.1
          · exact this.2 b
        · intro h t ht
          rw [bt_and, bt_or, bt_bit (by omega) ht]
          cases hq : (bt (R o) t && (bt mv t || decide (t = pl))) with
          | false => rfl
          | true =>
            rw [Bool.and_eq_true, Bool.or_eq_true, decide_eq_true_eq] at hq
            exact absurd ⟨t, ht, hq.1, hq.2⟩ h
      by_cases hz : R o &&& (mv ||| (1 : Int32) <<< (nI pl &&& 31)) = 0
      · rw [if_pos hz]
        unfold q_Giving_possible_57
        rw [nI_1]
        obtain ⟨y', e1, h1⟩ := ih (o + 1) y (by omega) (by omega)
        refine ⟨y', e1, fun v hv => ?_⟩
        rw [h1 v hv]
        constructor
        · rintro (z | ⟨z, q, a, b⟩)
          · exact Or.inl z
          · exact Or.inr ⟨z, q, by omega, b⟩
        · rintro (z | ⟨z, q, a, b, c, d⟩)
          · exact Or.inl z
          · refine Or.inr ⟨z, q, ?_, b, c, d⟩
            by_cases hq : q = o
            · subst hq; exact absurd d (key.mp hz)
            · omega
      · rw [if_neg hz]
        have hr : ∃ t, t < 32 ∧ bt (R o) t = true ∧ (bt mv t = true ∨ t = pl) := Classical.byContradiction (fun q => hz (key.mpr q))
        rw [jin_nI (by omega) (by decide), (hg o (by omega)).1]
        unfold q_Giving_possible_57
        rw [nI_1]
        obtain ⟨y', e1, h1⟩ := ih (o + 1) (y ||| (x &&& j_lshl 1 (nI (gv o)))) (by omega) (by omega)
        refine ⟨y', e1, fun v hv => ?_⟩
        have hgo := (hg o (by omega)).2
        rw [h1 v hv, tb_or, tb_and, tb_bit (by omega) hv, Bool.or_eq_true, Bool.and_eq_true, decide_eq_true_eq]
        constructor
        · rintro ((z | ⟨z, e⟩) | ⟨z, q, a, b⟩)
          · exact Or.inl z
          · exact Or.inr ⟨z, o, Nat.le_refl _, by omega, e.symm, hr⟩
          · exact Or.inr ⟨z, q, by omega, b⟩
        · rintro (z | ⟨z, q, a, b, c, d⟩)
          · exact Or.inl (Or.inl z)
          · by_cases hq : q = o
            · subst hq; exact Or.inl (Or.inr ⟨z, c.symm⟩)
            · exact Or.inr ⟨z, q, by omega, b, c, d⟩

