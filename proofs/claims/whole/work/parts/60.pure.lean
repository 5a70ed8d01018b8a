/-! count: the class and the reference take the same away. -/
def bo (S : Nat) (f : Int32) : Int64 := if f < 0 then 0 else (if nI S ≤ f then 0 else j_lshl 1 f)
theorem bitOf (N S : Nat) (f : Int32) : p_Kernel_bitOf N (nI S) f = some (bo S f) := by
  unfold p_Kernel_bitOf bo
  by_cases h1 : f < 0
  · rw [if_pos h1, if_pos h1]
  · rw [if_neg h1, if_neg h1]
    by_cases h2 : nI S ≤ f
    · rw [if_pos h2, if_pos h2]
    · rw [if_neg h2, if_neg h2]
def caB (S : Nat) (h : Nat → Int64) (fa : Nat → Int32) (k : Nat) : Bool := decide (¬ h k &&& bo S (fa k) = 0)
def muB (S : Nat) (h : Nat → Int64) (fa : Nat → Int32) (k : Nat) : Bool := caB S h fa k && decide (h k = h k &&& bo S (fa k))
theorem caB_t {S : Nat} {h : Nat → Int64} {fa : Nat → Int32} {k : Nat} : caB S h fa k = true ↔ ¬ h k &&& bo S (fa k) = 0 := by unfold caB; rw [decide_eq_true_eq]
theorem muB_t {S : Nat} {h : Nat → Int64} {fa : Nat → Int32} {k : Nat} : muB S h fa k = true ↔ caB S h fa k = true ∧ h k = h k &&& bo S (fa k) := by unfold muB; rw [Bool.and_eq_true, decide_eq_true_eq]
theorem and_0 (x : Int64) : x &&& 0 = 0 := tb_ext (fun i _ => by rw [tb_and, tb_0, Bool.and_false])
/-- a factor that is a symbol's number, and that number -/
theorem fac_cases {S : Nat} (hS : S ≤ 60) (f : Int32) : (f < 0 ∧ bo S f = 0) ∨ (¬ f < 0 ∧ nI S ≤ f ∧ bo S f = 0) ∨ ∃ w, w < S ∧ f = nI w ∧ bo S f = j_lshl 1 (nI w) := by
  unfold bo
  rcases pk_ix f (n := S) (by omega) with h | h | ⟨w, hw, rfl⟩
  · exact Or.inl ⟨h, if_pos h⟩
  · have hn : ¬ f < 0 := by
      intro z
      have h3 : (0 : Int32) ≤ nI S := nI_pos' (by omega)
      exact absurd (Int32.le_trans h3 h) (Int32.not_le.mpr z)
    exact Or.inr (Or.inl ⟨hn, h, by rw [if_neg hn, if_pos h]⟩)
  · exact Or.inr (Or.inr ⟨w, hw, rfl, by rw [if_neg (nI_pos (by omega)), if_neg (nI_ge hw (by omega))]⟩)
theorem hit_t {x : Int64} {w : Nat} (hw : w < 64) : x &&& j_lshl 1 (nI w) = 0 ↔ ¬ tb x w = true := by
  rw [tb_zero]
  constructor
  · intro H z
    have := H w hw
    rw [tb_and, tb_bit hw hw, z] at this
    simp at this
  · intro H i hi
    rw [tb_and, tb_bit hw hi]
    by_cases he : i = w
    · subst he; simp [H]
    · simp [he]
theorem cnt_zero (f : Nat → Bool) : ∀ n, cnt f n = 0 ↔ ∀ i, i < n → f i = false := by
  intro n
  induction n with
  | zero => exact ⟨fun _ i hi => absurd hi (Nat.not_lt_zero _), fun _ => rfl⟩
  | succ n ih =>
    rw [cnt_s]
    constructor
    · intro h i hi
      by_cases he : i = n
      · subst he
        cases hf : f i with
        | false => rfl
        | true => rw [if_pos hf] at h; omega
      · exact ih.mp (by omega) i (by omega)
    · intro h
      rw [ih.mpr (fun i hi => h i (by omega)), h n (by omega)]
      rfl
theorem cnt_one {f : Nat → Bool} {w n : Nat} (hw : w < n) (hf : f w = true) : cnt f n = 1 ↔ ∀ i, i < n → i ≠ w → f i = false := by
  rw [cnt_rem hf n hw]
  have := cnt_zero (fun x => f x && !decide (x = w)) n
  constructor
  · intro h i hi hne
    have h2 : (f i && !decide (i = w)) = false := this.mp (by omega) i hi
    rw [decide_eq_false hne] at h2
    simpa using h2
  · intro h
    rw [this.mpr (fun i hi => ?_)]
    show (f i && !decide (i = w)) = false
    by_cases he : i = w
    · simp [he]
    · rw [h i hi he]; rfl
theorem mo_can (N : Nat) {S r k : Nat} (hS : S ≤ 60) (hr : r < 120) (hk : k < 16) {factors h : Nat → Int64} {fa : Nat → Int32} (hf : factors (16 * r + k) = (fa k).toInt64) : p_Mo_can N (nI S) factors h (nI r) (nI k) = some (if caB S h fa k = true then 1 else 0) := by
  unfold p_Mo_can
  have eF : p_Mo_factorOf N factors (nI r) (nI k) = some (fa k).toInt64 := by rw [mo_factorOf N hr hk hf, iL_i32]
  rw [eF, Option.bind_some]
  have b1 := Int32.toInt_lt (fa k)
  have b2 := Int32.le_toInt (fa k)
  rcases fac_cases hS (fa k) with ⟨h1, h2⟩ | ⟨h1, h2, h3⟩ | ⟨w, h1, h2, h3⟩
  · rw [if_pos ((lg_cmp_lt _ _).mpr (by rw [Int64.lt_iff_toInt_lt, Int32.toInt_toInt64]; rw [neg_iff] at h1; exact h1)), if_neg (fun z => caB_t.mp z (by rw [h2, and_0]))]
  · rw [if_neg (fun z => h1 (by rw [lg_cmp_lt, Int64.lt_iff_toInt_lt, Int32.toInt_toInt64] at z; rw [neg_iff]; exact z)), if_pos ((lg_cmp_ge _ _).mpr (by rw [Int64.le_iff_toInt_le, Int32.toInt_toInt64, Int32.toInt_toInt64, ← Int32.le_iff_toInt_le]; exact h2)), if_neg (fun z => caB_t.mp z (by rw [h3, and_0]))]
  · rw [h2, nI_l (by omega), nI_l (by omega), if_neg (fun z => by rw [lg_cmp_lt, show (0 : Int64) = lN 0 from rfl, pk_lLT (by omega) (by decide)] at z; omega), if_neg (fun z => by rw [lg_cmp_ge, pk_lLE (by omega) (by omega)] at z; omega), jin_nI hk (by decide), nI_clamp (by omega), lN_i, mo_has N _ (by omega), Option.bind_some]
    by_cases hb : tb (h k) w = true
    · rw [if_pos hb, if_neg (show ¬ (1 : Int32) = 0 by decide), if_pos (caB_t.mpr (fun z => by rw [h3, hit_t (by omega)] at z; exact z hb))]
    · rw [if_neg hb, if_pos rfl, if_neg (fun z => caB_t.mp z (by rw [h3, hit_t (by omega)]; exact hb))]
theorem mu_one {S : Nat} (hS : S ≤ 60) {h : Nat → Int64} {fa : Nat → Int32} {k : Nat} (hlt : ∀ v, tb (h k) v = true → v < S) (hc : caB S h fa k = true) : cnt (tb (h k)) 60 = 1 ↔ h k = h k &&& bo S (fa k) := by
  rcases fac_cases hS (fa k) with ⟨h1, h2⟩ | ⟨h1, h2, h3⟩ | ⟨w, h1, h2, h3⟩
  · exact absurd (by rw [h2, and_0]) (caB_t.mp hc)
  · exact absurd (by rw [h3, and_0]) (caB_t.mp hc)
  · have hb : tb (h k) w = true := by
      have := caB_t.mp hc
      rw [h3, hit_t (by omega)] at this
      exact Classical.byContradiction this
    rw [cnt_one (show w < 60 by omega) hb, h3]
    constructor
    · intro H
      apply tb_ext
      intro i hi
      rw [tb_and, tb_bit (by omega) hi]
      by_cases he : i = w
      · subst he; simp
      · rw [decide_eq_false he, Bool.and_false]
        cases hi2 : tb (h k) i with
        | false => rfl
        | true =>
          have := hlt i hi2
          rw [H i (by omega) he] at hi2
          cases hi2
    · intro H i hi hne
      rw [H, tb_and, tb_bit (by omega) (by omega), decide_eq_false hne, Bool.and_false]
theorem mo_must {N : Nat} (hN : 61 ≤ N) {S r k : Nat} (hS : S ≤ 60) (hr : r < 120) (hk : k < 16) {factors h : Nat → Int64} {fa : Nat → Int32} (hf : factors (16 * r + k) = (fa k).toInt64) (hlt : ∀ v, tb (h k) v = true → v < S) : p_Mo_must N (nI S) factors h (nI r) (nI k) = some (if muB S h fa k = true then 1 else 0) := by
  unfold p_Mo_must
  rw [mo_can N hS hr hk hf, Option.bind_some]
  by_cases hc : caB S h fa k = true
  · rw [if_pos hc, if_neg (show ¬ (1 : Int32) = 0 by decide), jin_nI hk (by decide), nI_clamp (by omega), mo_countOf hN, Option.bind_some]
    have hle := cnt_le_n (tb (h k)) 60
    by_cases h1 : cnt (tb (h k)) 60 = 1
    · rw [h1, if_pos (show nI 1 = (1 : Int32) from rfl), if_pos (muB_t.mpr ⟨hc, (mu_one hS hlt hc).mp h1⟩)]
    · rw [if_neg (show ¬ nI (cnt (tb (h k)) 60) = (1 : Int32) from fun z => h1 ((nI_eq (b := 1) (by omega) (by decide)).mp z)), if_neg (fun z => h1 ((mu_one hS hlt hc).mpr (muB_t.mp z).2))]
  · rw [if_neg hc, if_pos rfl, if_neg (fun z => hc (muB_t.mp z).1)]
theorem cnt_c7 (N : Nat) {S n : Nat} (hn : n ≤ 16) {h : Nat → Int64} {fa ff : Nat → Int32} (hff : ∀ k, k < n → ff k = fa k) (R : Int64) (keep : Nat → Int64) :
    ∀ g k, k ≤ n → n - k < g → q_Kernel_keepCount_7 N (nI S) h R (nI n) ff g (nI (cnt (caB S h fa) k)) (nI (cnt (muB S h fa) k)) (nI k) keep = q_Kernel_keepCount_74 N (nI S) h R (nI n) ff (nI (cnt (caB S h fa) n)) (nI (cnt (muB S h fa) n)) keep := by
  intro g
  induction g with
  | zero => intro k _ hg; omega
  | succ g ih =>
    intro k hk hg
    rw [q_Kernel_keepCount_7]
    show (if nI n ≤ nI k then _ else _) = _
    by_cases hc : n ≤ k
    · rw [if_pos (nI_le hc (by omega)), show k = n by omega]
    · rw [if_neg (nI_ge (by omega) (by omega)), jin_nI (by omega) (by decide), jin_nI (by omega) (by decide), nI_clamp (by omega), hff k (by omega), bitOf, Option.bind_some]
      have := ih (k + 1) (by omega) (by omega)
      rw [cnt_s, cnt_s] at this
      by_cases hz : h k &&& bo S (fa k) = 0
      · have hca : ¬ caB S h fa k = true := fun q => caB_t.mp q hz
        have hmu : ¬ muB S h fa k = true := fun q => hca (muB_t.mp q).1
        rw [if_neg hca, if_neg hmu] at this
        rw [if_pos ((lg_cmp_eq _ _).mpr hz)]
        unfold q_Kernel_keepCount_68
        rw [nI_1]
        exact this
      · have hca : caB S h fa k = true := caB_t.mpr hz
        rw [if_pos hca] at this
        rw [if_neg (fun q => hz ((lg_cmp_eq _ _).mp q)), jin_nI (by omega) (by decide)]
        unfold q_Kernel_keepCount_66 q_Kernel_keepCount_68
        by_cases he : h k = h k &&& bo S (fa k)
        · rw [if_pos (muB_t.mpr ⟨hca, he⟩)] at this
          rw [if_pos ((lg_cmp_eq _ _).mpr he), nI_1, nI_1, nI_1]
          exact this
        · rw [if_neg (fun q => he (muB_t.mp q).2)] at this
          rw [if_neg (fun q => he ((lg_cmp_eq _ _).mp q)), nI_1, nI_1, show nI (cnt (muB S h fa) k) + 0 = nI (cnt (muB S h fa) k + 0) from nI_add _ 0]
          exact this
theorem iL_eqc {a : Nat} {R : Int} (ha : a < 1000) (R1 : -1000000 ≤ R) (R2 : R ≤ 1000000) : lg_cmp (nI a).toInt64 (iL R) = 0 ↔ (a : Int) = R := by
  rw [lg_cmp_eq, iL_nI (by omega), ← Int64.toInt_inj, iL_toInt ⟨by omega, by omega⟩, iL_toInt ⟨by omega, by omega⟩]
theorem iL_ltc {a : Nat} {R : Int} (ha : a < 1000) (R1 : -1000000 ≤ R) (R2 : R ≤ 1000000) : lg_cmp (nI a).toInt64 (iL R) < 0 ↔ (a : Int) < R := by
  rw [lg_cmp_lt, iL_nI (by omega), iL_lt ⟨by omega, by omega⟩ ⟨by omega, by omega⟩]
theorem iL_lec {a : Nat} {R : Int} (ha : a < 1000) (R1 : -1000000 ≤ R) (R2 : R ≤ 1000000) : lg_cmp (nI a).toInt64 (iL R) ≤ 0 ↔ (a : Int) ≤ R := by
  rw [lg_cmp_le, iL_nI (by omega), iL_le ⟨by omega, by omega⟩ ⟨by omega, by omega⟩]
/-- what the class keeps of a place -/
def kpC (S : Nat) (h : Nat → Int64) (fa : Nat → Int32) (C M R : Int) (k : Nat) : Int64 := if caB S h fa k = true ∧ C = R then h k &&& bo S (fa k) else (if ¬ h k = h k &&& bo S (fa k) ∧ M = R then h k &&& ((h k &&& bo S (fa k)) ^^^ (-1 : Int64)) else h k)
theorem cnt_c102 (N : Nat) {S n : Nat} (hn : n ≤ 16) {h : Nat → Int64} {fa ff : Nat → Int32} (hff : ∀ k, k < n → ff k = fa k) {R : Int} (R1 : -1000000 ≤ R) (R2 : R ≤ 1000000) {C M : Nat} (hC : C < 1000) (hM : M < 1000) :
    ∀ g k keep, k ≤ n → n - k < g → (∀ i, k ≤ i → i < n → keep i = h i) → ∃ keep', q_Kernel_keepCount_102 N (nI S) h (iL R) (nI n) ff g (nI C) (nI M) (nI k) keep = some keep' ∧ (∀ i, i < k → keep' i = keep i) ∧ ∀ i, k ≤ i → i < n → keep' i = kpC S h fa C M R i := by
  intro g
  induction g with
  | zero => intro k keep _ hg; omega
  | succ g ih =>
    intro k keep hk hg hkeep
    rw [q_Kernel_keepCount_102]
    show ∃ keep', (if nI n ≤ nI k then _ else _) = _ ∧ _
    by_cases hc : n ≤ k
    · rw [if_pos (nI_le hc (by omega))]
      exact ⟨keep, rfl, fun _ _ => rfl, fun i h1 h2 => by omega⟩
    · rw [if_neg (nI_ge (by omega) (by omega)), jin_nI (by omega) (by decide), jin_nI (by omega) (by decide), nI_clamp (by omega), hff k (by omega), bitOf, Option.bind_some]
      have next : ∀ kp : Nat → Int64, kp k = kpC S h fa C M R k → (∀ i, i ≠ k → kp i = keep i) → ∃ keep', q_Kernel_keepCount_205 N (q_Kernel_keepCount_102 N (nI S) h (iL R) (nI n) ff g) (nI C) (nI M) (nI k) kp = some keep' ∧ (∀ i, i < k → keep' i = keep i) ∧ ∀ i, k ≤ i → i < n → keep' i = kpC S h fa C M R i := by
        intro kp e1 e2
        unfold q_Kernel_keepCount_205
        rw [nI_1]
        obtain ⟨keep', e3, h3, h4⟩ := ih (k + 1) kp (by omega) (by omega) (fun i a b => by rw [e2 i (by omega)]; exact hkeep i (by omega) b)
        refine ⟨keep', e3, fun i hi => by rw [h3 i (by omega), e2 i (by omega)], fun i a b => ?_⟩
        by_cases he : i = k
        · subst he
          rw [h3 i (by omega), e1]
        · exact h4 i (by omega) b
      have c161 : ¬ (caB S h fa k = true ∧ (C : Int) = R) → ∃ keep', q_Kernel_keepCount_161 N h (iL R) (q_Kernel_keepCount_102 N (nI S) h (iL R) (nI n) ff g) (nI C) (nI M) (nI k) (h k &&& bo S (fa k)) keep = some keep' ∧ (∀ i, i < k → keep' i = keep i) ∧ ∀ i, k ≤ i → i < n → keep' i = kpC S h fa C M R i := by
        intro hno
        unfold q_Kernel_keepCount_161
        rw [jin_nI (by omega) (by decide), nI_clamp (by omega)]
        by_cases he : h k = h k &&& bo S (fa k)
        · rw [if_pos ((lg_cmp_eq _ _).mpr he)]
          exact next keep (by unfold kpC; rw [if_neg hno, if_neg (fun q => q.1 he)]; exact hkeep k (Nat.le_refl _) (by omega)) (fun _ _ => rfl)
        · rw [if_neg (fun q => he ((lg_cmp_eq _ _).mp q))]
          by_cases hm : (M : Int) = R
          · rw [if_pos ((iL_eqc hM R1 R2).mpr hm), jin_nI (by omega) (by decide), jin_nI (by omega) (by decide)]
            exact next _ (by rw [pk_uLs]; unfold kpC; rw [if_neg hno, if_pos ⟨he, hm⟩]) (fun i hi => pk_uLn hi)
          · rw [if_neg (fun q => hm ((iL_eqc hM R1 R2).mp q))]
            exact next keep (by unfold kpC; rw [if_neg hno, if_neg (fun q => hm q.2)]; exact hkeep k (Nat.le_refl _) (by omega)) (fun _ _ => rfl)
      by_cases hz : h k &&& bo S (fa k) = 0
      · rw [if_pos ((lg_cmp_eq _ _).mpr hz)]
        exact c161 (fun q => caB_t.mp q.1 hz)
      · rw [if_neg (fun q => hz ((lg_cmp_eq _ _).mp q))]
        by_cases hcr : (C : Int) = R
        · rw [if_pos ((iL_eqc hC R1 R2).mpr hcr), jin_nI (by omega) (by decide)]
          exact next _ (by rw [pk_uLs]; unfold kpC; rw [if_pos ⟨caB_t.mpr hz, hcr⟩]) (fun i hi => pk_uLn hi)
        · rw [if_neg (fun q => hcr ((iL_eqc hC R1 R2).mp q))]
          exact c161 (fun q => hcr q.2)
theorem cnt_m8 {N : Nat} (hN : 61 ≤ N) {S n r : Nat} (hS : S ≤ 60) (hn : n ≤ 16) (hr : r < 120) {h factors rights : Nat → Int64} {fa : Nat → Int32} (hf : ∀ k, k < n → factors (16 * r + k) = (fa k).toInt64) (hlt : ∀ k, k < n → ∀ v, tb (h k) v = true → v < S) (goes : Nat → Int64) :
    ∀ g k, k ≤ n → n - k < g → q_Mo_count_8 N (nI S) rights factors h (nI r) (nI n) g (nI (cnt (caB S h fa) k)) (nI (cnt (muB S h fa) k)) (nI k) goes = q_Mo_count_58 N (nI S) rights factors h (nI r) (nI n) (nI (cnt (caB S h fa) n)) (nI (cnt (muB S h fa) n)) goes := by
  intro g
  induction g with
  | zero => intro k _ hg; omega
  | succ g ih =>
    intro k hk hg
    rw [q_Mo_count_8]
    show (if nI n ≤ nI k then _ else _) = _
    by_cases hc : n ≤ k
    · rw [if_pos (nI_le hc (by omega)), show k = n by omega]
    · rw [if_neg (nI_ge (by omega) (by omega)), mo_can N hS hr (by omega) (hf k (by omega)), Option.bind_some]
      have := ih (k + 1) (by omega) (by omega)
      rw [cnt_s, cnt_s] at this
      have e0 : ∀ a : Nat, nI a + (0 : Int32) = nI (a + 0) := fun a => nI_add a 0
      unfold q_Mo_count_30
      rw [mo_must hN hS hr (by omega) (hf k (by omega)) (hlt k (by omega)), Option.bind_some]
      unfold q_Mo_count_49
      rw [nI_1]
      by_cases hca : caB S h fa k = true
      · rw [if_pos hca] at this
        rw [if_pos hca, if_neg (show ¬ (1 : Int32) = 0 by decide), nI_1]
        by_cases hmu : muB S h fa k = true
        · rw [if_pos hmu] at this
          rw [if_pos hmu, Option.bind_some, if_neg (show ¬ (1 : Int32) = 0 by decide), nI_1]
          exact this
        · rw [if_neg hmu] at this
          rw [if_neg hmu, Option.bind_some, if_pos rfl, e0]
          exact this
      · have hmu : ¬ muB S h fa k = true := fun q => hca (muB_t.mp q).1
        rw [if_neg hca, if_neg hmu] at this
        rw [if_neg hca, if_pos rfl, if_neg hmu, if_pos rfl, e0, e0]
        exact this
def gin (S : Nat) (h : Nat → Int64) (fa : Nat → Int32) (C R : Int) (g : Int64) (k : Nat) : Int64 := if C = R ∧ caB S h fa k = true then g ||| (h k &&& (bo S (fa k) ^^^ (-1 : Int64))) else g
/-- what goes from a place in the reference, of g -/
def gsM (S : Nat) (h : Nat → Int64) (fa : Nat → Int32) (C M R : Int) (g : Int64) (k : Nat) : Int64 := if C < R ∨ R < M then h k else (if M = R ∧ caB S h fa k = true ∧ ¬ muB S h fa k = true then gin S h fa C R g k ||| bo S (fa k) else gin S h fa C R g k)
theorem gsM_0 {S : Nat} {h : Nat → Int64} {fa : Nat → Int32} {C M R : Int} {g : Int64} {k : Nat} (q : C < R ∨ R < M) : gsM S h fa C M R g k = h k := if_pos q
theorem gsM_1 {S : Nat} {h : Nat → Int64} {fa : Nat → Int32} {C M R : Int} {g : Int64} {k : Nat} (q : ¬ (C < R ∨ R < M)) (q2 : ¬ (M = R ∧ caB S h fa k = true ∧ ¬ muB S h fa k = true)) : gsM S h fa C M R g k = gin S h fa C R g k := (if_neg q).trans (if_neg q2)
theorem gsM_2 {S : Nat} {h : Nat → Int64} {fa : Nat → Int32} {C M R : Int} {g : Int64} {k : Nat} (q : ¬ (C < R ∨ R < M)) (q2 : M = R ∧ caB S h fa k = true ∧ ¬ muB S h fa k = true) : gsM S h fa C M R g k = gin S h fa C R g k ||| bo S (fa k) := (if_neg q).trans (if_pos q2)
theorem gin_0 {S : Nat} {h : Nat → Int64} {fa : Nat → Int32} {C R : Int} {g : Int64} {k : Nat} (q : ¬ (C = R ∧ caB S h fa k = true)) : gin S h fa C R g k = g := if_neg q
theorem gin_1 {S : Nat} {h : Nat → Int64} {fa : Nat → Int32} {C R : Int} {g : Int64} {k : Nat} (q : C = R ∧ caB S h fa k = true) : gin S h fa C R g k = g ||| (h k &&& (bo S (fa k) ^^^ (-1 : Int64))) := if_pos q
theorem cnt_m61 {N : Nat} (hN : 61 ≤ N) {S n r : Nat} (hS : S ≤ 60) (hn : n ≤ 16) (hr : r < 120) {h factors rights : Nat → Int64} {fa : Nat → Int32} (hf : ∀ k, k < n → factors (16 * r + k) = (fa k).toInt64) (hlt : ∀ k, k < n → ∀ v, tb (h k) v = true → v < S) {R : Int} (hR : rights r = iL R) (R1 : -1000000 ≤ R) (R2 : R ≤ 1000000) {C M : Nat} (hC : C < 1000) (hM : M < 1000) :
    ∀ g k goes, k ≤ n → n - k < g → ∃ goes', q_Mo_count_61 N (nI S) rights factors h (nI r) (nI n) g (nI C) (nI M) (nI k) goes = some goes' ∧ (∀ i, i < k → goes' i = goes i) ∧ ∀ i, k ≤ i → i < n → goes' i = gsM S h fa C M R (goes i) i := by
  intro g
  induction g with
  | zero => intro k goes _ hg; omega
  | succ g ih =>
    intro k goes hk hg
    rw [q_Mo_count_61]
    show ∃ goes', (if nI n ≤ nI k then _ else _) = _ ∧ _
    by_cases hc : n ≤ k
    · rw [if_pos (nI_le hc (by omega))]
      exact ⟨goes, rfl, fun _ _ => rfl, fun i h1 h2 => by omega⟩
    · have hcan := mo_can N hS hr (show k < 16 by omega) (h := h) (hf k (by omega))
      have hmust := mo_must hN hS hr (show k < 16 by omega) (hf k (by omega)) (hlt k (by omega))
      rw [if_neg (nI_ge (by omega) (by omega)), hcan, Option.bind_some]
      have next : ∀ gg : Nat → Int64, gg k = gsM S h fa C M R (goes k) k → (∀ i, i ≠ k → gg i = goes i) → ∃ goes', q_Mo_count_248 N (q_Mo_count_61 N (nI S) rights factors h (nI r) (nI n) g) (nI C) (nI M) (nI k) gg = some goes' ∧ (∀ i, i < k → goes' i = goes i) ∧ ∀ i, k ≤ i → i < n → goes' i = gsM S h fa C M R (goes i) i := by
        intro gg e1 e2
        unfold q_Mo_count_248
        rw [nI_1]
        obtain ⟨g', e3, h3, h4⟩ := ih (k + 1) gg (by omega) (by omega)
        refine ⟨g', e3, fun i hi => by rw [h3 i (by omega), e2 i (by omega)], fun i a b => ?_⟩
        by_cases he : i = k
        · subst he
          rw [h3 i (by omega), e1]
        · rw [h4 i (by omega) b, e2 i he]
      have c186 : ∀ (z : Int64) (gg : Nat → Int64), (caB S h fa k = true → z = bo S (fa k)) → (∀ i, i ≠ k → gg i = goes i) → (((C : Int) < R ∨ R < (M : Int)) ∧ gg k = h k) ∨ (¬ ((C : Int) < R ∨ R < (M : Int)) ∧ gg k = gin S h fa C R (goes k) k) → ∃ goes', q_Mo_count_186 N (nI S) rights factors h (nI r) (q_Mo_count_61 N (nI S) rights factors h (nI r) (nI n) g) (nI C) (nI M) (nI k) z gg = some goes' ∧ (∀ i, i < k → goes' i = goes i) ∧ ∀ i, k ≤ i → i < n → goes' i = gsM S h fa C M R (goes i) i := by
        intro z gg hz hgg hcase
        unfold q_Mo_count_186
        rw [jin_nI hr (by decide), nI_clamp (by omega), hR]
        rcases hcase with ⟨q1, q2⟩ | ⟨q1, q2⟩
        · have stay := next gg (by rw [q2, gsM_0 q1]) hgg
          by_cases hcr : (C : Int) < R
          · rw [if_pos ((iL_ltc hC R1 R2).mpr hcr)]
            exact stay
          · rw [if_neg (fun q => hcr ((iL_ltc hC R1 R2).mp q)), jin_nI hr (by decide), if_neg (fun q => by have := (iL_eqc hM R1 R2).mp q; omega)]
            exact stay
        · rw [if_neg (fun q => q1 (Or.inl ((iL_ltc hC R1 R2).mp q))), jin_nI hr (by decide)]
          by_cases hm : (M : Int) = R
          · rw [if_pos ((iL_eqc hM R1 R2).mpr hm), hcan, Option.bind_some]
            by_cases hca : caB S h fa k = true
            · rw [if_pos hca, if_neg (show ¬ (1 : Int32) = 0 by decide), hmust, Option.bind_some]
              by_cases hmu : muB S h fa k = true
              · rw [if_pos hmu, if_neg (show ¬ (1 : Int32) = 0 by decide)]
                exact next gg (by rw [q2, gsM_1 q1 (fun q => q.2.2 hmu)]) hgg
              · rw [if_neg hmu, if_pos rfl, jin_nI (by omega) (by decide), jin_nI (by omega) (by decide), nI_clamp (by omega)]
                exact next _ (by rw [pk_uLs, q2, hz hca, gsM_2 q1 ⟨hm, hca, hmu⟩]) (fun i hi => by rw [pk_uLn hi]; exact hgg i hi)
            · rw [if_neg hca, if_pos rfl]
              exact next gg (by rw [q2, gsM_1 q1 (fun q => hca q.2.1)]) hgg
          · rw [if_neg (fun q => hm ((iL_eqc hM R1 R2).mp q))]
            exact next gg (by rw [q2, gsM_1 q1 (fun q => hm q.1)]) hgg
      have c91 : ∀ z : Int64, (caB S h fa k = true → z = bo S (fa k)) → ∃ goes', q_Mo_count_91 N (nI S) rights factors h (nI r) (q_Mo_count_61 N (nI S) rights factors h (nI r) (nI n) g) (nI C) (nI M) (nI k) z goes = some goes' ∧ (∀ i, i < k → goes' i = goes i) ∧ ∀ i, k ≤ i → i < n → goes' i = gsM S h fa C M R (goes i) i := by
        intro z hz
        unfold q_Mo_count_91 q_Mo_count_118
        rw [jin_nI hr (by decide), nI_clamp (by omega), hR]
        have all : (C : Int) < R ∨ R < (M : Int) → ∃ goes', q_Mo_count_186 N (nI S) rights factors h (nI r) (q_Mo_count_61 N (nI S) rights factors h (nI r) (nI n) g) (nI C) (nI M) (nI k) z (vp_updL goes k (h k)) = some goes' ∧ (∀ i, i < k → goes' i = goes i) ∧ ∀ i, k ≤ i → i < n → goes' i = gsM S h fa C M R (goes i) i := fun q => c186 z _ hz (fun i hi => pk_uLn hi) (Or.inl ⟨q, pk_uLs⟩)
        by_cases hcr : (C : Int) < R
        · rw [if_pos ((iL_ltc hC R1 R2).mpr hcr), jin_nI (by omega) (by decide), jin_nI (by omega) (by decide), nI_clamp (by omega)]
          exact all (Or.inl hcr)
        · rw [if_neg (fun q => hcr ((iL_ltc hC R1 R2).mp q)), jin_nI hr (by decide)]
          by_cases hmr : (M : Int) ≤ R
          · rw [if_pos ((iL_lec hM R1 R2).mpr hmr), jin_nI hr (by decide)]
            by_cases hce : (C : Int) = R
            · rw [if_pos ((iL_eqc hC R1 R2).mpr hce), hcan, Option.bind_some]
              by_cases hca : caB S h fa k = true
              · rw [if_pos hca, if_neg (show ¬ (1 : Int32) = 0 by decide), jin_nI (by omega) (by decide), jin_nI (by omega) (by decide), jin_nI (by omega) (by decide), nI_clamp (by omega)]
                exact c186 z _ hz (fun i hi => pk_uLn hi) (Or.inr ⟨by omega, by rw [pk_uLs, gin_1 ⟨hce, hca⟩, hz hca]⟩)
              · rw [if_neg hca, if_pos rfl]
                exact c186 z goes hz (fun _ _ => rfl) (Or.inr ⟨by omega, by rw [gin_0 (fun q => hca q.2)]⟩)
            · rw [if_neg (fun q => hce ((iL_eqc hC R1 R2).mp q))]
              exact c186 z goes hz (fun _ _ => rfl) (Or.inr ⟨by omega, by rw [gin_0 (fun q => hce q.1)]⟩)
          · rw [if_neg (fun q => hmr ((iL_lec hM R1 R2).mp q)), jin_nI (by omega) (by decide), jin_nI (by omega) (by decide), nI_clamp (by omega)]
            exact all (Or.inr (by omega))
      by_cases hca : caB S h fa k = true
      · rw [if_pos hca, if_neg (show ¬ (1 : Int32) = 0 by decide), mo_factorOf N hr (by omega) (hf k (by omega)), Option.bind_some]
        refine c91 _ (fun _ => ?_)
        rcases fac_cases hS (fa k) with ⟨h1, h2⟩ | ⟨h1, h2, h3⟩ | ⟨w, h1, h2, h3⟩
        · exact absurd (by rw [h2, and_0]) (caB_t.mp hca)
        · exact absurd (by rw [h3, and_0]) (caB_t.mp hca)
        · rw [h3, ← iL_i32, h2, nI_l (by omega), lN_i]
      · rw [if_neg hca, if_pos rfl]
        exact c91 _ (fun q => absurd q hca)
theorem cnt_sub_eq {f g : Nat → Bool} : ∀ n, (∀ i, i < n → g i = true → f i = true) → cnt g n ≤ cnt f n ∧ (cnt f n = cnt g n → ∀ i, i < n → f i = true → g i = true) := by
  intro n
  induction n with
  | zero => intro _; exact ⟨Nat.le_refl _, fun _ i hi => absurd hi (Nat.not_lt_zero _)⟩
  | succ n ih =>
    intro H
    obtain ⟨h1, h2⟩ := ih (fun i hi => H i (by omega))
    rw [cnt_s, cnt_s]
    cases hf : f n with
    | false =>
      cases hg : g n with
      | false =>
        refine ⟨by simpa using h1, fun e i hi hfi => ?_⟩
        have : i ≠ n := fun q => by rw [q, hf] at hfi; cases hfi
        exact h2 (by simpa using e) i (by omega) hfi
      | true =>
        have := H n (by omega) hg
        rw [hf] at this
        cases this
    | true =>
      cases hg : g n with
      | false =>
        refine ⟨by rw [if_pos rfl, if_neg (by decide)]; omega, fun e i hi hfi => ?_⟩
        rw [if_pos rfl, if_neg (by decide)] at e
        omega
      | true =>
        refine ⟨by rw [if_pos rfl]; omega, fun e i hi hfi => ?_⟩
        rw [if_pos rfl] at e
        by_cases he : i = n
        · rw [he]; exact hg
        · exact h2 (by omega) i (by omega) hfi
theorem count_both {N : Nat} (hN : 61 ≤ N) {S n r : Nat} (hr : r < 120) (hS : S ≤ 60) (hn : n ≤ 16) {h : Nat → Int64} (hlt : ∀ k, k < n → ∀ v, tb (h k) v = true → v < S) {fa ff : Nat → Int32} (hff : ∀ k, k < n → ff k = fa k) {factors rights : Nat → Int64} (hf : ∀ k, k < n → factors (16 * r + k) = (fa k).toInt64) {a : Int64} (ha : rights r = a) (R1 : -1000000 ≤ a.toInt) (R2 : a.toInt ≤ 1000000) (keep goes : Nat → Int64) (hkeep : ∀ i, i < n → keep i = h i) (hg : ∀ i, i < n → goes i = 0) :
    ∃ keep' goes', p_Kernel_keepCount N (nI S) h keep a (nI n) ff = some keep' ∧ p_Mo_count N (nI S) rights factors h goes (nI r) (nI n) = some goes' ∧ Same h keep' goes' n := by
  have hC : cnt (caB S h fa) n < 1000 := by have := cnt_le_n (caB S h fa) n; omega
  have hM : cnt (muB S h fa) n < 1000 := by have := cnt_le_n (muB S h fa) n; omega
  obtain ⟨hsub, hsub2⟩ := cnt_sub_eq (f := caB S h fa) (g := muB S h fa) n (fun i hi q => (muB_t.mp q).1)
  obtain ⟨goes', e2, _, h2⟩ := cnt_m61 hN hS hn hr (h := h) (rights := rights) hf hlt (ha.trans (iL_of a)) R1 R2 hC hM N 0 goes (by omega) (by omega)
  have eM : p_Mo_count N (nI S) rights factors h goes (nI r) (nI n) = some goes' := Eq.trans (cnt_m8 hN hS hn hr (rights := rights) hf hlt goes N 0 (by omega) (by omega)) e2
  have eC := cnt_c7 N (S := S) hn (h := h) hff a keep N 0 (by omega) (by omega)
  unfold q_Kernel_keepCount_74 at eC
  have eC' : p_Kernel_keepCount N (nI S) h keep a (nI n) ff = _ := eC
  rw [eC', iL_of a]
  have hbits : ∀ k, k < n → caB S h fa k = true → bo S (fa k) = h k &&& bo S (fa k) := by
    intro k hk hca
    rcases fac_cases hS (fa k) with ⟨h1, h2⟩ | ⟨h1, h2, h3⟩ | ⟨w, h1, h2, h3⟩
    · exact absurd (by rw [h2, and_0]) (caB_t.mp hca)
    · exact absurd (by rw [h3, and_0]) (caB_t.mp hca)
    · have hb : tb (h k) w = true := by
        have := caB_t.mp hca
        rw [h3, hit_t (by omega)] at this
        exact Classical.byContradiction this
      rw [h3]
      apply tb_ext
      intro i hi
      rw [tb_and, tb_bit (by omega) hi]
      by_cases he : i = w
      · subst he; rw [hb]; rfl
      · rw [decide_eq_false he, Bool.and_false]
  by_cases hcr : ((cnt (caB S h fa) n : Nat) : Int) < a.toInt ∨ a.toInt < ((cnt (muB S h fa) n : Nat) : Int)
  · obtain ⟨k', e3, h3⟩ := keepNothing (N := N) (by omega) keep
    have e4 : q_Kernel_keepCount_94 N keep = some k' := by unfold q_Kernel_keepCount_94; rw [e3]; rfl
    refine ⟨k', goes', ?_, eM, same_nothing hn h3 (fun o ho => ?_)⟩
    · by_cases c1 : ((cnt (caB S h fa) n : Nat) : Int) < a.toInt
      · rw [if_pos ((iL_ltc hC R1 R2).mpr c1)]; exact e4
      · rw [if_neg (fun q => c1 ((iL_ltc hC R1 R2).mp q)), if_neg (fun q => by have := (iL_lec hM R1 R2).mp q; omega)]; exact e4
    · rw [h2 o (by omega) ho, gsM_0 hcr]
  · obtain ⟨keep', e1, _, h1⟩ := cnt_c102 N (S := S) hn (h := h) hff R1 R2 hC hM N 0 keep (by omega) (by omega) (fun i _ b => hkeep i b)
    refine ⟨keep', goes', ?_, eM, ?_⟩
    · rw [if_neg (fun q => hcr (Or.inl ((iL_ltc hC R1 R2).mp q))), if_pos ((iL_lec hM R1 R2).mpr (by omega))]
      exact e1
    · intro k hk
      rw [h2 k (by omega) hk, h1 k (by omega) hk, hg k hk]
      have k1 : ∀ {C M R : Int}, caB S h fa k = true ∧ C = R → kpC S h fa C M R k = h k &&& bo S (fa k) := fun q => if_pos q
      have k2 : ∀ {C M R : Int}, ¬ (caB S h fa k = true ∧ C = R) → (¬ h k = h k &&& bo S (fa k) ∧ M = R) → kpC S h fa C M R k = h k &&& ((h k &&& bo S (fa k)) ^^^ (-1 : Int64)) := fun q q2 => (if_neg q).trans (if_pos q2)
      have k3 : ∀ {C M R : Int}, ¬ (caB S h fa k = true ∧ C = R) → ¬ (¬ h k = h k &&& bo S (fa k) ∧ M = R) → kpC S h fa C M R k = h k := fun q q2 => (if_neg q).trans (if_neg q2)
      have nil : (0 : Int64) = h k &&& (h k ^^^ (-1 : Int64)) := tb_ext (fun i hi => by
        rw [tb_0, tb_and, tb_not hi]
        cases tb (h k) i <;> rfl)
      by_cases hca : caB S h fa k = true
      · by_cases hce : ((cnt (caB S h fa) n : Nat) : Int) = a.toInt
        · rw [gsM_1 hcr (fun q => q.2.2 (hsub2 (by omega) k hk hca)), gin_1 ⟨hce, hca⟩, k1 ⟨hca, hce⟩]
          apply tb_ext
          intro i hi
          rw [tb_or, tb_0, tb_and, tb_and, tb_not hi, tb_not hi, tb_and]
          cases tb (h k) i <;> simp
        · by_cases hme : ((cnt (muB S h fa) n : Nat) : Int) = a.toInt
          · by_cases hmu : muB S h fa k = true
            · rw [gsM_1 hcr (fun q => q.2.2 hmu), gin_0 (fun q => hce q.1), k3 (fun q => hce q.2) (fun q => q.1 (muB_t.mp hmu).2)]
              exact nil
            · have hne : ¬ h k = h k &&& bo S (fa k) := fun q => hmu (muB_t.mpr ⟨hca, q⟩)
              rw [gsM_2 hcr ⟨hme, hca, hmu⟩, gin_0 (fun q => hce q.1), k2 (fun q => hce q.2) ⟨hne, hme⟩]
              have hb := hbits k hk hca
              apply tb_ext
              intro i hi
              have hbi : tb (bo S (fa k)) i = (tb (h k) i && tb (bo S (fa k)) i) := by rw [← tb_and, ← hb]
              rw [tb_or, tb_0, tb_and, tb_not hi, tb_and, tb_not hi, tb_and]
              revert hbi
              cases tb (h k) i <;> cases tb (bo S (fa k)) i <;> simp
          · rw [gsM_1 hcr (fun q => hme q.1), gin_0 (fun q => hce q.1), k3 (fun q => hce q.2) (fun q => hme q.2)]
            exact nil
      · have hz : h k &&& bo S (fa k) = 0 := Classical.byContradiction (fun q => hca (caB_t.mpr q))
        rw [gsM_1 hcr (fun q => hca q.2.1), gin_0 (fun q => hca q.2)]
        by_cases hq : ¬ h k = h k &&& bo S (fa k) ∧ ((cnt (muB S h fa) n : Nat) : Int) = a.toInt
        · rw [k2 (fun q => hca q.1) hq, hz]
          apply tb_ext
          intro i hi
          rw [tb_0, tb_and, tb_not hi, tb_and, tb_not hi, tb_0]
          cases tb (h k) i <;> rfl
        · rw [k3 (fun q => hca q.1) hq]
          exact nil

