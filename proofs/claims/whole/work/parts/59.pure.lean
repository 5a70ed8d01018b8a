/-! sum and most: the class and the reference take the same away. -/
def sumZ (m : Nat → Int) : Nat → Int
  | 0 => 0
  | k + 1 => sumZ m k + m k
def sx (m : Nat → Int) (k : Nat) : Nat → Int
  | 0 => 0
  | j + 1 => sx m k j + (if j = k then 0 else m j)
theorem sumZ_bd {m : Nat → Int} {n : Nat} (h : ∀ k, k < n → -60000 ≤ m k ∧ m k ≤ 60000) : ∀ k, k ≤ n → -60000 * (k : Int) ≤ sumZ m k ∧ sumZ m k ≤ 60000 * (k : Int) := by
  intro k
  induction k with
  | zero => intro _; exact ⟨Int.le_refl _, Int.le_refl _⟩
  | succ k ih =>
    intro hk
    have := ih (by omega)
    have := h k (by omega)
    show -60000 * ((k + 1 : Nat) : Int) ≤ sumZ m k + m k ∧ sumZ m k + m k ≤ 60000 * ((k + 1 : Nat) : Int)
    omega
theorem sx_le (m : Nat → Int) (k : Nat) : ∀ j, j ≤ k → sx m k j = sumZ m j := by
  intro j
  induction j with
  | zero => intro _; rfl
  | succ j ih =>
    intro hj
    show sx m k j + _ = sumZ m j + m j
    rw [ih (by omega), if_neg (by omega)]
theorem sx_gt (m : Nat → Int) (k : Nat) : ∀ j, k < j → sx m k j = sumZ m j - m k := by
  intro j
  induction j with
  | zero => intro h; omega
  | succ j ih =>
    intro hj
    show sx m k j + (if j = k then 0 else m j) = sumZ m j + m j - m k
    by_cases he : j = k
    · subst he
      rw [if_pos rfl, sx_le m j j (Nat.le_refl _)]
      omega
    · rw [if_neg he, ih (by omega)]
      omega
theorem sx_bd {m : Nat → Int} {n k : Nat} (hn : n ≤ 16) (h : ∀ k, k < n → -60000 ≤ m k ∧ m k ≤ 60000) (hk : k < n) : ∀ j, j ≤ n → -2000000 ≤ sx m k j ∧ sx m k j ≤ 2000000 := by
  intro j hj
  have a := sumZ_bd h j hj
  have b := h k hk
  rcases Nat.lt_or_ge k j with hkj | hkj
  · rw [sx_gt m k j hkj]; omega
  · rw [sx_le m k j hkj]; omega
/-- what sum and most have to do with: places that have symbols, factors, their least and greatest products -/
def SumH (S n : Nat) (h : Nat → Int64) (fa : Nat → Int32) (mn mx : Nat → Int) : Prop := (S ≤ 60) ∧ (n ≤ 16) ∧ (∀ k, k < n → h k ≠ 0) ∧ (∀ k, k < n → ∀ v, tb (h k) v = true → v < S) ∧ (∀ k, k < n → -1000 ≤ (fa k).toInt ∧ (fa k).toInt ≤ 1000) ∧ (∀ k, k < n → IsMin (h k) (fa k).toInt (mn k)) ∧ (∀ k, k < n → IsMax (h k) (fa k).toInt (mx k))
theorem SumH.cs {S n : Nat} {h : Nat → Int64} {fa : Nat → Int32} {mn mx : Nat → Int} (hH : SumH S n h fa mn mx) : S ≤ 60 := hH.1
theorem SumH.cn {S n : Nat} {h : Nat → Int64} {fa : Nat → Int32} {mn mx : Nat → Int} (hH : SumH S n h fa mn mx) : n ≤ 16 := hH.2.1
theorem SumH.cne {S n : Nat} {h : Nat → Int64} {fa : Nat → Int32} {mn mx : Nat → Int} (hH : SumH S n h fa mn mx) : ∀ k, k < n → h k ≠ 0 := hH.2.2.1
theorem SumH.clt {S n : Nat} {h : Nat → Int64} {fa : Nat → Int32} {mn mx : Nat → Int} (hH : SumH S n h fa mn mx) : ∀ k, k < n → ∀ v, tb (h k) v = true → v < S := hH.2.2.2.1
theorem SumH.cf {S n : Nat} {h : Nat → Int64} {fa : Nat → Int32} {mn mx : Nat → Int} (hH : SumH S n h fa mn mx) : ∀ k, k < n → -1000 ≤ (fa k).toInt ∧ (fa k).toInt ≤ 1000 := hH.2.2.2.2.1
theorem SumH.cmn {S n : Nat} {h : Nat → Int64} {fa : Nat → Int32} {mn mx : Nat → Int} (hH : SumH S n h fa mn mx) : ∀ k, k < n → IsMin (h k) (fa k).toInt (mn k) := hH.2.2.2.2.2.1
theorem SumH.cmx {S n : Nat} {h : Nat → Int64} {fa : Nat → Int32} {mn mx : Nat → Int} (hH : SumH S n h fa mn mx) : ∀ k, k < n → IsMax (h k) (fa k).toInt (mx k) := hH.2.2.2.2.2.2
theorem SumH.bn {S n : Nat} {h : Nat → Int64} {fa : Nat → Int32} {mn mx : Nat → Int} (H : SumH S n h fa mn mx) : ∀ k, k < n → -60000 ≤ mn k ∧ mn k ≤ 60000 := fun k hk => isMin_bd (H.cf k hk).1 (H.cf k hk).2 (H.cmn k hk)
theorem SumH.bx {S n : Nat} {h : Nat → Int64} {fa : Nat → Int32} {mn mx : Nat → Int} (H : SumH S n h fa mn mx) : ∀ k, k < n → -60000 ≤ mx k ∧ mx k ≤ 60000 := fun k hk => isMax_bd (H.cf k hk).1 (H.cf k hk).2 (H.cmx k hk)
theorem SumH.least {S n : Nat} {h : Nat → Int64} {fa : Nat → Int32} {mn mx : Nat → Int} (H : SumH S n h fa mn mx) (N : Nat) {k : Nat} (hk : k < n) : p_Kernel_leastOf N (fa k) (h k) = some (iL (mn k)) := by
  have := H.cs
  obtain ⟨m, h1, h2⟩ := leastOf N (H.cne k hk) (fun v hv => by have := H.clt k hk v hv; omega) (fa k)
  rw [h2, isMin_uniq h1 (H.cmn k hk)]
theorem SumH.most {S n : Nat} {h : Nat → Int64} {fa : Nat → Int32} {mn mx : Nat → Int} (H : SumH S n h fa mn mx) (N : Nat) {k : Nat} (hk : k < n) : p_Kernel_mostOf N (fa k) (h k) = some (iL (mx k)) := by
  have := H.cs
  obtain ⟨m, h1, h2⟩ := mostOf N (H.cne k hk) (fun v hv => by have := H.clt k hk v hv; omega) (fa k)
  rw [h2, isMax_uniq h1 (H.cmx k hk)]
theorem sum_c8 (N : Nat) {S n : Nat} {h : Nat → Int64} {fa ff : Nat → Int32} {mn mx : Nat → Int} (H : SumH S n h fa mn mx) (hff : ∀ k, k < n → ff k = fa k) (kind : Int32) (R : Int64) (keep : Nat → Int64) :
    ∀ g k, k ≤ n → n - k < g → q_Kernel_keepSum_8 N (nI S) h kind R (nI n) ff g (iL (sumZ mn k)) (iL (sumZ mx k)) (nI k) keep = q_Kernel_keepSum_65 N (nI S) h kind R (nI n) ff (iL (sumZ mn n)) (iL (sumZ mx n)) keep := by
  have hn := H.cn
  intro g
  induction g with
  | zero => intro k _ hg; omega
  | succ g ih =>
    intro k hk hg
    rw [q_Kernel_keepSum_8]
    show (if nI n ≤ nI k then _ else _) = _
    by_cases hc : n ≤ k
    · rw [if_pos (nI_le hc (by omega)), show k = n by omega]
    · rw [if_neg (nI_ge (by omega) (by omega)), jin_nI (by omega) (by decide), jin_nI (by omega) (by decide), nI_clamp (by omega), hff k (by omega), H.least N (by omega), Option.bind_some, jin_nI (by omega) (by decide), jin_nI (by omega) (by decide), H.most N (by omega), Option.bind_some, iL_add, iL_add, nI_1]
      exact ih (k + 1) (by omega) (by omega)
def lowZ (kind : Int32) (R B : Int) (mn mx : Nat → Int) (k : Nat) : Int := if kind = 2 then R - (B - mx k) else mn k
theorem sum_c68 {N : Nat} (hN : 61 ≤ N) {S n : Nat} {h : Nat → Int64} {fa ff : Nat → Int32} {mn mx : Nat → Int} (H : SumH S n h fa mn mx) (hff : ∀ k, k < n → ff k = fa k) (kind : Int32) {R : Int} (R1 : -1000000 ≤ R) (R2 : R ≤ 1000000) :
    ∀ g k keep, k ≤ n → n - k < g → (∀ i, k ≤ i → i < n → keep i = h i) → ∃ keep', q_Kernel_keepSum_68 N (nI S) h kind (iL R) (nI n) ff g (iL (sumZ mn n)) (iL (sumZ mx n)) (nI k) keep = some keep' ∧ (∀ i, i < k → keep' i = keep i) ∧
      ∀ i, k ≤ i → i < n → ∀ w, w < 64 → (tb (keep' i) w = true ↔ tb (h i) w = true ∧ lowZ kind R (sumZ mx n) mn mx i ≤ (fa i).toInt * w ∧ (fa i).toInt * w ≤ R - (sumZ mn n - mn i)) := by
  have hn := H.cn
  have bA := sumZ_bd H.bn n (Nat.le_refl _)
  have bB := sumZ_bd H.bx n (Nat.le_refl _)
  intro g
  induction g with
  | zero => intro k keep _ hg; omega
  | succ g ih =>
    intro k keep hk hg hkeep
    rw [q_Kernel_keepSum_68]
    show ∃ keep', (if nI n ≤ nI k then _ else _) = _ ∧ _
    by_cases hc : n ≤ k
    · rw [if_pos (nI_le hc (by omega))]
      exact ⟨keep, rfl, fun _ _ => rfl, fun i h1 h2 => by omega⟩
    · rw [if_neg (nI_ge (by omega) (by omega)), jin_nI (by omega) (by decide), jin_nI (by omega) (by decide), nI_clamp (by omega), hff k (by omega), H.least N (by omega), Option.bind_some, jin_nI (by omega) (by decide), H.most N (by omega), Option.bind_some]
      have bn := H.bn k (by omega)
      have bx := H.bx k (by omega)
      have hLow : ∃ lo, lo = lowZ kind R (sumZ mx n) mn mx k ∧ Md lo := ⟨_, rfl, by unfold lowZ; split <;> exact ⟨by omega, by omega⟩⟩
      obtain ⟨lo, elo, mlo⟩ := hLow
      have hHi : ∃ hi, hi = R - (sumZ mn n - mn k) ∧ Md hi := ⟨_, rfl, ⟨by omega, by omega⟩⟩
      obtain ⟨hi, ehi, mhi⟩ := hHi
      have next : ∀ y : Int64, (∀ w, w < 64 → (tb y w = true ↔ tb (h k) w = true ∧ lo ≤ (fa k).toInt * w ∧ (fa k).toInt * w ≤ hi)) → ∀ kp : Nat → Int64, kp k = y → (∀ i, i ≠ k → kp i = keep i) → ∃ keep', q_Kernel_keepSum_190 N (q_Kernel_keepSum_68 N (nI S) h kind (iL R) (nI n) ff g) (iL (sumZ mn n)) (iL (sumZ mx n)) (nI k) kp = some keep' ∧ (∀ i, i < k → keep' i = keep i) ∧
      ∀ i, k ≤ i → i < n → ∀ w, w < 64 → (tb (keep' i) w = true ↔ tb (h i) w = true ∧ lowZ kind R (sumZ mx n) mn mx i ≤ (fa i).toInt * w ∧ (fa i).toInt * w ≤ R - (sumZ mn n - mn i)) := by
        intro y hy kp e1 e2
        unfold q_Kernel_keepSum_190
        rw [nI_1]
        obtain ⟨keep', e3, h3, h4⟩ := ih (k + 1) kp (by omega) (by omega) (fun i a b => by rw [e2 i (by omega)]; exact hkeep i (by omega) b)
        refine ⟨keep', e3, fun i hi => by rw [h3 i (by omega), e2 i (by omega)], fun i a b w hw => ?_⟩
        by_cases he : i = k
        · subst he
          rw [h3 i (by omega), e1, hy w hw, elo, ehi]
        · exact h4 i (by omega) b w hw
      have go : ∃ keep', q_Kernel_keepSum_148 N (nI S) h (q_Kernel_keepSum_68 N (nI S) h kind (iL R) (nI n) ff g) (iL (sumZ mn n)) (iL (sumZ mx n)) (nI k) (fa k) (iL (mn k)) (iL (mx k)) (iL hi) (iL lo) keep = some keep' ∧ (∀ i, i < k → keep' i = keep i) ∧
      ∀ i, k ≤ i → i < n → ∀ w, w < 64 → (tb (keep' i) w = true ↔ tb (h i) w = true ∧ lowZ kind R (sumZ mx n) mn mx i ≤ (fa i).toInt * w ∧ (fa i).toInt * w ≤ R - (sumZ mn n - mn i)) := by
        have w166 : ∃ keep', q_Kernel_keepSum_166 N (nI S) h (q_Kernel_keepSum_68 N (nI S) h kind (iL R) (nI n) ff g) (iL (sumZ mn n)) (iL (sumZ mx n)) (nI k) (fa k) (iL hi) (iL lo) keep = some keep' ∧ (∀ i, i < k → keep' i = keep i) ∧
      ∀ i, k ≤ i → i < n → ∀ w, w < 64 → (tb (keep' i) w = true ↔ tb (h i) w = true ∧ lowZ kind R (sumZ mx n) mn mx i ≤ (fa i).toInt * w ∧ (fa i).toInt * w ≤ R - (sumZ mn n - mn i)) := by
          unfold q_Kernel_keepSum_166
          obtain ⟨y, e1, h1⟩ := within_ hN H.cs (H.clt k (by omega)) (H.cf k (by omega)).1 (H.cf k (by omega)).2 mlo mhi
          rw [jin_nI (by omega) (by decide), nI_clamp (by omega), e1, Option.bind_some, jin_nI (by omega) (by decide)]
          exact next y h1 _ pk_uLs (fun i hi => pk_uLn hi)
        unfold q_Kernel_keepSum_148
        by_cases c1 : mn k < lo
        · rw [if_pos ((lg_cmp_lt _ _).mpr ((iL_lt ⟨by omega, by omega⟩ mlo).mpr c1))]
          exact w166
        · rw [if_neg (fun z => c1 ((iL_lt ⟨by omega, by omega⟩ mlo).mp ((lg_cmp_lt _ _).mp z)))]
          by_cases c2 : mx k ≤ hi
          · rw [if_pos ((lg_cmp_le _ _).mpr ((iL_le ⟨by omega, by omega⟩ mhi).mpr c2))]
            refine next (h k) (fun w hw => ⟨fun z => ⟨z, ?_, ?_⟩, fun z => z.1⟩) keep (hkeep k (Nat.le_refl _) (by omega)) (fun _ _ => rfl)
            · have := (H.cmn k (by omega)).2 w z; omega
            · have := (H.cmx k (by omega)).2 w z; omega
          · rw [if_neg (fun z => c2 ((iL_le ⟨by omega, by omega⟩ mhi).mp ((lg_cmp_le _ _).mp z)))]
            exact w166
      rw [iL_sub, iL_sub, iL_sub, iL_sub, ← ehi]
      by_cases hkd : kind = 2
      · rw [if_pos hkd, show R - (sumZ mx n - mx k) = lo by rw [elo]; unfold lowZ; rw [if_pos hkd]]
        exact go
      · rw [if_neg hkd]
        have hl : iL lo = iL (mn k) := by rw [elo]; unfold lowZ; rw [if_neg hkd]
        rw [hl] at go
        exact go
/-- the reference's bound of a place -/
theorem mo_factorOf (N : Nat) {r k : Nat} (hr : r < 120) (hk : k < 16) {factors : Nat → Int64} {f : Int32} (hf : factors (16 * r + k) = f.toInt64) : p_Mo_factorOf N factors (nI r) (nI k) = some (iL f.toInt) := by
  unfold p_Mo_factorOf
  rw [show (16 : Int32) = nI 16 from rfl, pk_mul, nI_add, jin_nI (by omega) (by decide), nI_clamp (by omega), hf, iL_i32]
theorem bound_min (N : Nat) {S r k : Nat} (hS : S ≤ 60) (hr : r < 120) (hk : k < 16) {factors h : Nat → Int64} {f : Int32} (hf : factors (16 * r + k) = f.toInt64) (f1 : -1000 ≤ f.toInt) (f2 : f.toInt ≤ 1000) (hne : h k ≠ 0) (hlt : ∀ v, tb (h k) v = true → v < S) :
    ∀ g v x4 x6, v ≤ S → S - v < g → ((x6 = 0 ∧ ∀ w, w < v → tb (h k) w = false) ∨ (x6 = 1 ∧ ∃ m, x4 = iL m ∧ (∃ w, w < 60 ∧ tb (h k) w = true ∧ m = f.toInt * w) ∧ ∀ w : Nat, w < v → tb (h k) w = true → m ≤ f.toInt * w)) →
      ∃ m, q_Mo_bound_9 N (nI S) factors h (nI r) (nI k) 1 g x4 x6 (nI v) = some (iL m) ∧ IsMin (h k) f.toInt m := by
  intro g
  induction g with
  | zero => intro v x4 x6 _ hg; omega
  | succ g ih =>
    intro v x4 x6 hv hg hI
    rw [q_Mo_bound_9]
    show ∃ m, (if nI S ≤ nI v then _ else _) = _ ∧ _
    by_cases hc : S ≤ v
    · rw [if_pos (nI_le hc (by omega))]
      rcases hI with ⟨_, hI⟩ | ⟨_, m, rfl, e1, e2⟩
      · obtain ⟨i, hi, hb⟩ := some_bit hne
        have := hlt i hb
        rw [hI i (by omega)] at hb
        cases hb
      · exact ⟨m, rfl, e1, fun w hw => e2 w (by have := hlt w hw; omega) hw⟩
    · rw [if_neg (nI_ge (by omega) (by omega)), mo_factorOf N hr hk hf, Option.bind_some, jin_nI hk (by decide), nI_clamp (by omega), mo_has N _ (show v < 64 by omega), Option.bind_some]
      unfold q_Mo_bound_82 q_Mo_bound_75
      by_cases hb : tb (h k) v = true
      · rw [if_pos hb, if_neg (show ¬ (1 : Int32) = 0 by decide), iL_nI (by omega), iL_mul]
        unfold q_Mo_bound_82
        rw [nI_1]
        have bv := mul_bd f1 f2 (show v < 60 by omega)
        rcases hI with ⟨rfl, hI⟩ | ⟨rfl, m, rfl, e1, e2⟩
        · rw [if_pos rfl]
          refine ih (v + 1) _ 1 (by omega) (by omega) (Or.inr ⟨rfl, _, rfl, ⟨v, by omega, hb, rfl⟩, fun w hw hw2 => ?_⟩)
          by_cases he : w = v
          · subst he; exact Int.le_refl _
          · rw [hI w (by omega)] at hw2; cases hw2
        · rw [if_neg (show ¬ (1 : Int32) = 0 by decide), if_neg (show ¬ (1 : Int32) = 0 by decide)]
          obtain ⟨w0, hw0, _, ew0⟩ := e1
          have bw := mul_bd f1 f2 hw0
          by_cases hl : f.toInt * (v : Int) < m
          · rw [if_pos ((lg_cmp_lt _ _).mpr ((iL_lt ⟨by omega, by omega⟩ ⟨by omega, by omega⟩).mpr hl))]
            refine ih (v + 1) _ 1 (by omega) (by omega) (Or.inr ⟨rfl, _, rfl, ⟨v, by omega, hb, rfl⟩, fun w hw hw2 => ?_⟩)
            by_cases he : w = v
            · subst he; exact Int.le_refl _
            · have := e2 w (by omega) hw2; omega
          · rw [if_neg (fun z => hl ((iL_lt ⟨by omega, by omega⟩ ⟨by omega, by omega⟩).mp ((lg_cmp_lt _ _).mp z)))]
            refine ih (v + 1) _ 1 (by omega) (by omega) (Or.inr ⟨rfl, m, rfl, ⟨w0, hw0, by assumption, ew0⟩, fun w hw hw2 => ?_⟩)
            by_cases he : w = v
            · subst he; omega
            · exact e2 w (by omega) hw2
      · rw [if_neg hb, if_pos rfl, nI_1]
        have hb' : tb (h k) v = false := by simpa using hb
        refine ih (v + 1) _ _ (by omega) (by omega) ?_
        rcases hI with ⟨e0, hI⟩ | ⟨e0, m, em, e1, e2⟩
        · refine Or.inl ⟨e0, fun w hw => ?_⟩
          by_cases he : w = v
          · subst he; exact hb'
          · exact hI w (by omega)
        · refine Or.inr ⟨e0, m, em, e1, fun w hw hw2 => ?_⟩
          by_cases he : w = v
          · subst he; exact absurd hw2 hb
          · exact e2 w (by omega) hw2
theorem bound_max (N : Nat) {S r k : Nat} (hS : S ≤ 60) (hr : r < 120) (hk : k < 16) {factors h : Nat → Int64} {f : Int32} (hf : factors (16 * r + k) = f.toInt64) (f1 : -1000 ≤ f.toInt) (f2 : f.toInt ≤ 1000) (hne : h k ≠ 0) (hlt : ∀ v, tb (h k) v = true → v < S) :
    ∀ g v x4 x6, v ≤ S → S - v < g → ((x6 = 0 ∧ ∀ w, w < v → tb (h k) w = false) ∨ (x6 = 1 ∧ ∃ m, x4 = iL m ∧ (∃ w, w < 60 ∧ tb (h k) w = true ∧ m = f.toInt * w) ∧ ∀ w : Nat, w < v → tb (h k) w = true → f.toInt * w ≤ m)) →
      ∃ m, q_Mo_bound_9 N (nI S) factors h (nI r) (nI k) 0 g x4 x6 (nI v) = some (iL m) ∧ IsMax (h k) f.toInt m := by
  intro g
  induction g with
  | zero => intro v x4 x6 _ hg; omega
  | succ g ih =>
    intro v x4 x6 hv hg hI
    rw [q_Mo_bound_9]
    show ∃ m, (if nI S ≤ nI v then _ else _) = _ ∧ _
    by_cases hc : S ≤ v
    · rw [if_pos (nI_le hc (by omega))]
      rcases hI with ⟨_, hI⟩ | ⟨_, m, rfl, e1, e2⟩
      · obtain ⟨i, hi, hb⟩ := some_bit hne
        have := hlt i hb
        rw [hI i (by omega)] at hb
        cases hb
      · exact ⟨m, rfl, e1, fun w hw => e2 w (by have := hlt w hw; omega) hw⟩
    · rw [if_neg (nI_ge (by omega) (by omega)), mo_factorOf N hr hk hf, Option.bind_some, jin_nI hk (by decide), nI_clamp (by omega), mo_has N _ (show v < 64 by omega), Option.bind_some]
      unfold q_Mo_bound_82 q_Mo_bound_75
      by_cases hb : tb (h k) v = true
      · rw [if_pos hb, if_neg (show ¬ (1 : Int32) = 0 by decide), iL_nI (by omega), iL_mul]
        unfold q_Mo_bound_82
        rw [nI_1]
        have bv := mul_bd f1 f2 (show v < 60 by omega)
        rcases hI with ⟨rfl, hI⟩ | ⟨rfl, m, rfl, e1, e2⟩
        · rw [if_pos rfl]
          refine ih (v + 1) _ 1 (by omega) (by omega) (Or.inr ⟨rfl, _, rfl, ⟨v, by omega, hb, rfl⟩, fun w hw hw2 => ?_⟩)
          by_cases he : w = v
          · subst he; exact Int.le_refl _
          · rw [hI w (by omega)] at hw2; cases hw2
        · rw [if_neg (show ¬ (1 : Int32) = 0 by decide), if_pos rfl]
          obtain ⟨w0, hw0, _, ew0⟩ := e1
          have bw := mul_bd f1 f2 hw0
          by_cases hl : m < f.toInt * (v : Int)
          · rw [if_pos ((lg_cmp_gt _ _).mpr ((iL_lt ⟨by omega, by omega⟩ ⟨by omega, by omega⟩).mpr hl))]
            refine ih (v + 1) _ 1 (by omega) (by omega) (Or.inr ⟨rfl, _, rfl, ⟨v, by omega, hb, rfl⟩, fun w hw hw2 => ?_⟩)
            by_cases he : w = v
            · subst he; exact Int.le_refl _
            · have := e2 w (by omega) hw2; omega
          · rw [if_neg (fun z => hl ((iL_lt ⟨by omega, by omega⟩ ⟨by omega, by omega⟩).mp ((lg_cmp_gt _ _).mp z)))]
            refine ih (v + 1) _ 1 (by omega) (by omega) (Or.inr ⟨rfl, m, rfl, ⟨w0, hw0, by assumption, ew0⟩, fun w hw hw2 => ?_⟩)
            by_cases he : w = v
            · subst he; omega
            · exact e2 w (by omega) hw2
      · rw [if_neg hb, if_pos rfl, nI_1]
        have hb' : tb (h k) v = false := by simpa using hb
        refine ih (v + 1) _ _ (by omega) (by omega) ?_
        rcases hI with ⟨e0, hI⟩ | ⟨e0, m, em, e1, e2⟩
        · refine Or.inl ⟨e0, fun w hw => ?_⟩
          by_cases he : w = v
          · subst he; exact hb'
          · exact hI w (by omega)
        · refine Or.inr ⟨e0, m, em, e1, fun w hw hw2 => ?_⟩
          by_cases he : w = v
          · subst he; exact absurd hw2 hb
          · exact e2 w (by omega) hw2
theorem SumH.bmin {S n : Nat} {h : Nat → Int64} {fa : Nat → Int32} {mn mx : Nat → Int} (H : SumH S n h fa mn mx) {N : Nat} (hN : 61 ≤ N) {r k : Nat} (hr : r < 120) (hk : k < n) {factors : Nat → Int64} (hf : factors (16 * r + k) = (fa k).toInt64) : p_Mo_bound N (nI S) factors h (nI r) (nI k) 1 = some (iL (mn k)) := by
  have := H.cs
  have := H.cn
  obtain ⟨m, e1, e2⟩ := bound_min N H.cs hr (show k < 16 by omega) hf (H.cf k hk).1 (H.cf k hk).2 (H.cne k hk) (H.clt k hk) N 0 0 0 (by omega) (by omega) (Or.inl ⟨rfl, fun w hw => absurd hw (Nat.not_lt_zero _)⟩)
  rw [← isMin_uniq e2 (H.cmn k hk)]
  exact e1
theorem SumH.bmax {S n : Nat} {h : Nat → Int64} {fa : Nat → Int32} {mn mx : Nat → Int} (H : SumH S n h fa mn mx) {N : Nat} (hN : 61 ≤ N) {r k : Nat} (hr : r < 120) (hk : k < n) {factors : Nat → Int64} (hf : factors (16 * r + k) = (fa k).toInt64) : p_Mo_bound N (nI S) factors h (nI r) (nI k) 0 = some (iL (mx k)) := by
  have := H.cs
  have := H.cn
  obtain ⟨m, e1, e2⟩ := bound_max N H.cs hr (show k < 16 by omega) hf (H.cf k hk).1 (H.cf k hk).2 (H.cne k hk) (H.clt k hk) N 0 0 0 (by omega) (by omega) (Or.inl ⟨rfl, fun w hw => absurd hw (Nat.not_lt_zero _)⟩)
  rw [← isMax_uniq e2 (H.cmx k hk)]
  exact e1
theorem sum_m18 {N : Nat} (hN : 61 ≤ N) {S n r k : Nat} (hr : r < 120) {h : Nat → Int64} {fa : Nat → Int32} {mn mx : Nat → Int} (H : SumH S n h fa mn mx) {factors rights : Nat → Int64} (hf : ∀ k, k < n → factors (16 * r + k) = (fa k).toInt64) (hk : k < n) (a3 : Int32) (K : Int32 → (Nat → Int64) → Option (Nat → Int64)) (goes : Nat → Int64) :
    ∀ g j, j ≤ n → n - j < g → q_Mo_sum_18 N (nI S) rights factors h (nI r) (nI n) a3 K g (nI k) (iL (sx mn k j)) (iL (sx mx k j)) (nI j) goes = q_Mo_sum_78 N (nI S) rights factors h (nI r) a3 K (nI k) (iL (sx mn k n)) (iL (sx mx k n)) goes := by
  have hn := H.cn
  intro g
  induction g with
  | zero => intro j _ hg; omega
  | succ g ih =>
    intro j hj hg
    rw [q_Mo_sum_18]
    show (if nI n ≤ nI j then _ else _) = _
    by_cases hc : n ≤ j
    · rw [if_pos (nI_le hc (by omega)), show j = n by omega]
    · rw [if_neg (nI_ge (by omega) (by omega))]
      have e1 : sx mn k (j + 1) = sx mn k j + (if j = k then 0 else mn j) := rfl
      have e2 : sx mx k (j + 1) = sx mx k j + (if j = k then 0 else mx j) := rfl
      have := ih (j + 1) (by omega) (by omega)
      rw [e1, e2] at this
      by_cases he : j = k
      · subst he
        rw [if_pos rfl] at this ⊢
        unfold q_Mo_sum_45
        rw [if_pos rfl]
        unfold q_Mo_sum_69
        rw [iL_0, iL_add, iL_add, nI_1]
        rw [if_pos rfl] at this
        exact this
      · have hne : ¬ nI j = nI k := fun z => he ((nI_eq (by omega) (by omega)).mp z)
        rw [if_neg he] at this
        rw [if_neg he] at this
        rw [if_neg hne, H.bmin hN hr (by omega) (hf j (by omega)), Option.bind_some]
        unfold q_Mo_sum_45
        rw [if_neg hne, H.bmax hN hr (by omega) (hf j (by omega)), Option.bind_some]
        unfold q_Mo_sum_69
        rw [iL_add, iL_add, nI_1]
        exact this
theorem sum_m81 (N : Nat) {S r k : Nat} (hS : S ≤ 60) (hr : r < 120) (hk : k < 16) {h factors rights : Nat → Int64} {f : Int32} (hf : factors (16 * r + k) = f.toInt64) (f1 : -1000 ≤ f.toInt) (f2 : f.toInt ≤ 1000) {R A B : Int} (hR : rights r = iL R) (R1 : -1000000 ≤ R) (R2 : R ≤ 1000000) (A1 : -2000000 ≤ A ∧ A ≤ 2000000) (B1 : -2000000 ≤ B ∧ B ≤ 2000000) {a3 : Int32} (ha3 : a3 = 0 ∨ a3 = 1) (K : Int32 → (Nat → Int64) → Option (Nat → Int64)) :
    ∀ g v goes, v ≤ S → S - v < g → ∃ goes', q_Mo_sum_81 N (nI S) rights factors h (nI r) a3 K g (nI k) (iL A) (iL B) (nI v) goes = K (nI (k + 1)) goes' ∧ (∀ i, i ≠ k → goes' i = goes i) ∧ ∀ w, w < 64 → (tb (goes' k) w = true ↔ tb (goes k) w = true ∨ (v ≤ w ∧ w < S ∧ tb (h k) w = true ∧ (R < f.toInt * w + A ∨ (a3 = 1 ∧ f.toInt * w + B < R)))) := by
  intro g
  induction g with
  | zero => intro v goes _ hg; omega
  | succ g ih =>
    intro v goes hv hg
    rw [q_Mo_sum_81]
    show ∃ goes', (if nI S ≤ nI v then _ else _) = _ ∧ _
    by_cases hc : S ≤ v
    · rw [if_pos (nI_le hc (by omega))]
      unfold q_Mo_sum_177
      rw [nI_1]
      refine ⟨goes, rfl, fun _ _ => rfl, fun w hw => ⟨Or.inl, ?_⟩⟩
      rintro (z | z)
      · exact z
      · omega
    · rw [if_neg (nI_ge (by omega) (by omega)), mo_factorOf N hr hk hf, Option.bind_some, jin_nI hk (by decide), nI_clamp (by omega), mo_has N _ (show v < 64 by omega), Option.bind_some]
      have bv := mul_bd f1 f2 (show v < 60 by omega)
      have next : ∀ g1 : Nat → Int64, (∀ i, i ≠ k → g1 i = goes i) → (∀ w, w < 64 → (tb (g1 k) w = true ↔ tb (goes k) w = true ∨ (w = v ∧ tb (h k) v = true ∧ (R < f.toInt * v + A ∨ (a3 = 1 ∧ f.toInt * v + B < R))))) → ∃ goes', q_Mo_sum_171 N (q_Mo_sum_81 N (nI S) rights factors h (nI r) a3 K g) (nI k) (iL A) (iL B) (nI v) g1 = K (nI (k + 1)) goes' ∧ (∀ i, i ≠ k → goes' i = goes i) ∧ ∀ w, w < 64 → (tb (goes' k) w = true ↔ tb (goes k) w = true ∨ (v ≤ w ∧ w < S ∧ tb (h k) w = true ∧ (R < f.toInt * w + A ∨ (a3 = 1 ∧ f.toInt * w + B < R)))) := by
        intro g1 q1 q2
        unfold q_Mo_sum_171
        rw [nI_1]
        obtain ⟨g', e1, h1, h2⟩ := ih (v + 1) g1 (by omega) (by omega)
        refine ⟨g', e1, fun i hi => by rw [h1 i hi, q1 i hi], fun w hw => ?_⟩
        rw [h2 w hw, q2 w hw]
        constructor
        · rintro ((z | ⟨z, z1⟩) | ⟨z, z1⟩)
          · exact Or.inl z
          · subst z; exact Or.inr ⟨Nat.le_refl _, by omega, z1⟩
          · exact Or.inr ⟨by omega, z1⟩
        · rintro (z | ⟨z, z1, z2⟩)
          · exact Or.inl (Or.inl z)
          · by_cases he : w = v
            · subst he; exact Or.inl (Or.inr ⟨rfl, z2⟩)
            · exact Or.inr ⟨by omega, z1, z2⟩
      have add : tb (h k) v = true → (R < f.toInt * v + A ∨ (a3 = 1 ∧ f.toInt * v + B < R)) → ∃ goes', q_Mo_sum_152 N (q_Mo_sum_81 N (nI S) rights factors h (nI r) a3 K g) (nI k) (iL A) (iL B) (nI v) goes = K (nI (k + 1)) goes' ∧ (∀ i, i ≠ k → goes' i = goes i) ∧ ∀ w, w < 64 → (tb (goes' k) w = true ↔ tb (goes k) w = true ∨ (v ≤ w ∧ w < S ∧ tb (h k) w = true ∧ (R < f.toInt * w + A ∨ (a3 = 1 ∧ f.toInt * w + B < R)))) := by
        intro c1 c2
        unfold q_Mo_sum_152
        rw [jin_nI hk (by decide), jin_nI hk (by decide), nI_clamp (by omega)]
        refine next _ (fun i hi => pk_uLn hi) (fun w hw => ?_)
        rw [pk_uLs, tb_or, tb_bit (by omega) hw, Bool.or_eq_true, decide_eq_true_eq]
        constructor
        · rintro (z | z)
          · exact Or.inl z
          · exact Or.inr ⟨z, c1, c2⟩
        · rintro (z | z)
          · exact Or.inl z
          · exact Or.inr z.1
      by_cases hb : tb (h k) v = true
      · rw [if_pos hb, if_neg (show ¬ (1 : Int32) = 0 by decide), jin_nI hr (by decide), nI_clamp (by omega), hR, iL_nI (by omega), iL_mul, iL_add]
        by_cases c1 : R < f.toInt * v + A
        · rw [if_pos ((lg_cmp_gt _ _).mpr ((iL_lt ⟨by omega, by omega⟩ ⟨by omega, by omega⟩).mpr c1))]
          exact add hb (Or.inl c1)
        · rw [if_neg (fun z => c1 ((iL_lt ⟨by omega, by omega⟩ ⟨by omega, by omega⟩).mp ((lg_cmp_gt _ _).mp z)))]
          by_cases c3 : a3 = 0
          · rw [if_pos c3]
            refine next goes (fun _ _ => rfl) (fun w hw => ⟨Or.inl, fun z => z.elim id (fun z => ?_)⟩)
            rcases z.2.2 with q | q
            · exact absurd q c1
            · rw [c3] at q; exact absurd q.1 (by decide)
          · have c3' : a3 = 1 := ha3.resolve_left c3
            rw [if_neg c3, jin_nI hr (by decide), iL_add]
            by_cases c4 : R ≤ f.toInt * v + B
            · rw [if_pos ((lg_cmp_ge _ _).mpr ((iL_le ⟨by omega, by omega⟩ ⟨by omega, by omega⟩).mpr c4))]
              refine next goes (fun _ _ => rfl) (fun w hw => ⟨Or.inl, fun z => z.elim id (fun z => ?_)⟩)
              rcases z.2.2 with q | q
              · exact absurd q c1
              · omega
            · rw [if_neg (fun z => c4 ((iL_le ⟨by omega, by omega⟩ ⟨by omega, by omega⟩).mp ((lg_cmp_ge _ _).mp z)))]
              exact add hb (Or.inr ⟨c3', by omega⟩)
      · rw [if_neg hb, if_pos rfl]
        exact next goes (fun _ _ => rfl) (fun w hw => ⟨Or.inl, fun z => z.elim id (fun z => absurd z.2.1 hb)⟩)
theorem sum_m3 {N : Nat} (hN : 61 ≤ N) {S n r : Nat} (hr : r < 120) {h : Nat → Int64} {fa : Nat → Int32} {mn mx : Nat → Int} (H : SumH S n h fa mn mx) {factors rights : Nat → Int64} (hf : ∀ k, k < n → factors (16 * r + k) = (fa k).toInt64) {R : Int} (hR : rights r = iL R) (R1 : -1000000 ≤ R) (R2 : R ≤ 1000000) {a3 : Int32} (ha3 : a3 = 0 ∨ a3 = 1) :
    ∀ g k goes, k ≤ n → n - k < g → ∃ goes', q_Mo_sum_3 N (nI S) rights factors h (nI r) (nI n) a3 g (nI k) goes = some goes' ∧ (∀ i, i < k → goes' i = goes i) ∧ ∀ i, k ≤ i → i < n → ∀ w, w < 64 → (tb (goes' i) w = true ↔ tb (goes i) w = true ∨ (w < S ∧ tb (h i) w = true ∧ (R < (fa i).toInt * w + sx mn i n ∨ (a3 = 1 ∧ (fa i).toInt * w + sx mx i n < R)))) := by
  have hn := H.cn
  have hs := H.cs
  intro g
  induction g with
  | zero => intro k goes _ hg; omega
  | succ g ih =>
    intro k goes hk hg
    rw [q_Mo_sum_3]
    show ∃ goes', (if nI n ≤ nI k then _ else _) = _ ∧ _
    by_cases hc : n ≤ k
    · rw [if_pos (nI_le hc (by omega))]
      exact ⟨goes, rfl, fun _ _ => rfl, fun i h1 h2 => by omega⟩
    · rw [if_neg (nI_ge (by omega) (by omega))]
      have e0 := sum_m18 hN hr H (rights := rights) hf (show k < n by omega) a3 (q_Mo_sum_3 N (nI S) rights factors h (nI r) (nI n) a3 g) goes N 0 (by omega) (by omega)
      rw [show (0 : Int64) = iL 0 from rfl, show (0 : Int32) = nI 0 from rfl, show iL 0 = iL (sx mn k 0) from rfl]
      rw [show q_Mo_sum_18 N (nI S) rights factors h (nI r) (nI n) a3 (q_Mo_sum_3 N (nI S) rights factors h (nI r) (nI n) a3 g) N (nI k) (iL (sx mn k 0)) (iL (sx mn k 0)) (nI 0) goes = _ from e0]
      unfold q_Mo_sum_78
      obtain ⟨g1, e1, h1, h2⟩ := sum_m81 N (S := S) (r := r) (k := k) hs hr (by omega) (h := h) (rights := rights) (hf k (by omega)) (H.cf k (by omega)).1 (H.cf k (by omega)).2 hR R1 R2 (sx_bd hn H.bn (show k < n by omega) n (Nat.le_refl _)) (sx_bd hn H.bx (show k < n by omega) n (Nat.le_refl _)) ha3 (q_Mo_sum_3 N (nI S) rights factors h (nI r) (nI n) a3 g) N 0 goes (by omega) (by omega)
      rw [show (0 : Int32) = nI 0 from rfl, e1]
      obtain ⟨g2, e2, h3, h4⟩ := ih (k + 1) g1 (by omega) (by omega)
      refine ⟨g2, e2, fun i hi => by rw [h3 i (by omega), h1 i (by omega)], fun i a b w hw => ?_⟩
      by_cases he : i = k
      · subst he
        rw [h3 i (by omega), h2 w hw]
        simp
      · rw [h4 i (by omega) b w hw, h1 i he]
theorem sum_both {N : Nat} (hN : 61 ≤ N) {S n r : Nat} (hr : r < 120) (hS : S ≤ 60) (hn : n ≤ 16) {h : Nat → Int64} (hne : ∀ k, k < n → h k ≠ 0) (hlt : ∀ k, k < n → ∀ v, tb (h k) v = true → v < S) {fa ff : Nat → Int32} (hfb : ∀ k, k < n → -1000 ≤ (fa k).toInt ∧ (fa k).toInt ≤ 1000) (hff : ∀ k, k < n → ff k = fa k) {factors rights : Nat → Int64} (hf : ∀ k, k < n → factors (16 * r + k) = (fa k).toInt64) {a : Int64} (ha : rights r = a) (R1 : -1000000 ≤ a.toInt) (R2 : a.toInt ≤ 1000000) {kind a3 : Int32} (hkd : (kind = 2 ∧ a3 = 1) ∨ (¬ kind = 2 ∧ a3 = 0)) (keep goes : Nat → Int64) (hkeep : ∀ i, i < n → keep i = h i) (hg : ∀ i, i < n → goes i = 0) :
    ∃ keep' goes', p_Kernel_keepSum N (nI S) h keep kind a (nI n) ff = some keep' ∧ p_Mo_sum N (nI S) rights factors h goes (nI r) (nI n) a3 = some goes' ∧ Same h keep' goes' n := by
  have hch : ∀ k, ∃ m : Int × Int, k < n → IsMin (h k) (fa k).toInt m.1 ∧ IsMax (h k) (fa k).toInt m.2 := by
    intro k
    by_cases hk : k < n
    · obtain ⟨a, a1, _⟩ := leastOf 0 (hne k hk) (fun v hv => by have := hlt k hk v hv; omega) (fa k)
      obtain ⟨b, b1, _⟩ := mostOf 0 (hne k hk) (fun v hv => by have := hlt k hk v hv; omega) (fa k)
      exact ⟨(a, b), fun _ => ⟨a1, b1⟩⟩
    · exact ⟨(0, 0), fun q => absurd q hk⟩
  obtain ⟨M, hM0⟩ := Classical.axiomOfChoice hch
  obtain ⟨mn, mx, hM⟩ : ∃ mn mx : Nat → Int, ∀ k, k < n → IsMin (h k) (fa k).toInt (mn k) ∧ IsMax (h k) (fa k).toInt (mx k) := ⟨fun k => (M k).1, fun k => (M k).2, hM0⟩
  have H : SumH S n h fa mn mx := ⟨hS, hn, hne, hlt, hfb, fun k hk => (hM k hk).1, fun k hk => (hM k hk).2⟩
  obtain ⟨keep', e1, _, h1⟩ := sum_c68 hN H hff kind R1 R2 N 0 keep (by omega) (by omega) (fun i _ b => hkeep i b)
  obtain ⟨goes', e2, _, h2⟩ := sum_m3 hN hr H (factors := factors) (rights := rights) hf (ha.trans (iL_of a)) R1 R2 (a3 := a3) (by rcases hkd with z | z; exact Or.inr z.2; exact Or.inl z.2) N 0 goes (by omega) (by omega)
  refine ⟨keep', goes', ?_, e2, ?_⟩
  · unfold p_Kernel_keepSum
    have := sum_c8 N H hff kind a keep N 0 (by omega) (by omega)
    refine Eq.trans this ?_
    unfold q_Kernel_keepSum_65
    rw [← iL_of a] at e1
    exact e1
  · apply same_of
    intro k hk w hw
    rw [h2 k (by omega) hk w hw, h1 k (by omega) hk w hw, hg k hk, tb_0, sx_gt _ k n hk, sx_gt _ k n hk]
    unfold lowZ
    constructor
    · rintro (z | ⟨z1, z2, z3⟩)
      · cases z
      · refine ⟨z2, fun ⟨_, q1, q2⟩ => ?_⟩
        rcases z3 with z3 | ⟨z3, z4⟩
        · omega
        · rcases hkd with ⟨q3, _⟩ | ⟨_, q3⟩
          · rw [if_pos q3] at q1
            omega
          · rw [q3] at z3; exact absurd z3 (by decide)
    · rintro ⟨z1, z2⟩
      refine Or.inr ⟨hlt k hk w z1, z1, ?_⟩
      have hmn := (H.cmn k hk).2 w z1
      rcases hkd with ⟨q3, q4⟩ | ⟨q3, q4⟩
      · rw [if_pos q3] at z2
        by_cases c : a.toInt < (fa k).toInt * w + (sumZ mn n - mn k)
        · exact Or.inl c
        · refine Or.inr ⟨q4, ?_⟩
          apply Classical.byContradiction
          intro c2
          exact z2 ⟨z1, by omega, by omega⟩
      · rw [if_neg q3] at z2
        refine Or.inl ?_
        apply Classical.byContradiction
        intro c
        exact z2 ⟨z1, hmn, by omega⟩

