/-! reason on both sides; told; the row's copy; the least empty place. -/
def RsOK (nR : Nat) (tr : List Nat) (rs : Nat → Int32) : Prop := ∀ c ∈ tr, rs c = -1 ∨ ∃ r, r < nR ∧ rs c = nI r
theorem m1_ne {i : Nat} (hi : i < 2 ^ 31) : nI i ≠ (-1 : Int32) := fun h => by
  have h2 : (nI i).toInt = (-1 : Int32).toInt := by rw [h]
  rw [nI_toInt hi] at h2
  have : (-1 : Int32).toInt = -1 := by decide
  omega
theorem reason_both (N : Nat) {P S nR : Nat} (hP : P ≤ 128) (hS : S ≤ 60) {K : Nat → Int32} {Rt : Nat → Int64} {sz : Nat → Nat} {pl : Nat → Nat → Nat} {fa : Nat → Nat → Int32} {prs : Nat → List (Nat × Nat)} (hG : GhR P S nR K sz pl fa prs) {RF : Nat → RData} (hC : RulC S nR RF K Rt sz pl fa prs) {sizes members : Nat → Int32} (hM : MemM nR sizes members sz pl) {c d : Nat → Int64} {re rm : Nat → Int32} {tr : List Nat} {rs : Nat → Int32} (hc : CandOK P S c tr) (hre : ∀ x ∈ tr, re x = rs x) (hm : MoBd P S d rm tr rs) (hrs : RsOK nR tr rs) (a1 a2 a3 : Int32) :
    ∃ o, p_RK_reason N P (64 * P) (nI nR) (nI S) c re nR RF a1 a2 a3 = some o ∧ p_Mo_reason N (nI P) (nI S) d rm sizes members a1 a2 a3 = some (o, 0) := by
  unfold p_RK_reason p_Board_reasonFor p_Mo_reason
  have hR := hG.1
  have hnone : p_RK_ruleAt N (nI nR) nR (-1) = some none := by
    unfold p_RK_ruleAt
    rw [if_pos (by decide)]
  have m0 : ∀ o : Option (Option Nat), o = some none → ∀ (f : Nat → Option Int32), (o.bind fun r => match r with | none => some (-1 : Int32) | some i => f i) = some (-1) := by
    intro o ho f
    rw [ho]
    rfl
  rcases bd_hasPlace N (P := P) (by omega) a1 with ⟨p, hp, rfl, e1⟩ | ⟨hno, e1⟩
  · rcases mo_isPlace N (P := P) (by omega) (nI p) with ⟨q, hq, hqe, e2⟩ | ⟨hno, e2⟩
    · rw [e1, Option.bind_some, if_neg (show ¬ (1 : Int32) = 0 by decide), e2, Option.bind_some, if_neg (show ¬ (1 : Int32) = 0 by decide)]
      rcases bd_hasSymbol N (S := S) (by omega) a2 with ⟨v, hv, rfl, e3⟩ | ⟨hno, e3⟩
      · rcases mo_isSymbol N (P := S) (by omega) (nI v) with ⟨q2, hq2, hqe2, e4⟩ | ⟨hno, e4⟩
        · rw [e3, Option.bind_some, if_neg (show ¬ (1 : Int32) = 0 by decide), e4, Option.bind_some, if_neg (show ¬ (1 : Int32) = 0 by decide), jin_nI hp (by omega), nI_clamp (by omega), has_tb N _ (show v < 64 by omega), Option.bind_some, spot (by omega) (by omega), jin_nI (n := 64 * P) (by omega) (by omega), nI_clamp (n := 64 * p + v) (by omega)]
          rw [show (60 : Int32) = nI 60 from rfl, pk_mul, nI_add, jin_nI (by omega) (by decide), nI_clamp (n := 60 * p + v) (by omega), jin_nI (n := 128) (by omega) (by decide), mo_has N _ (show v < 64 by omega), Option.bind_some, ← hc.eq hm.1 hp]
          by_cases hb : tb (c p) v = true
          · rw [if_pos hb, if_neg (show ¬ (1 : Int32) = 0 by decide), Option.bind_some, hnone]
            refine ⟨-1, rfl, ?_⟩
            rw [if_neg (show ¬ (1 : Int32) = 0 by decide)]
            split
            · split <;> rfl
            · rfl
          · have hin : 64 * p + v ∈ tr := by
              have h3 := hc p hp v (by omega)
              have hb2 : tb (c p) v = false := by simpa using hb
              rw [hb2] at h3
              have h4 := of_decide_eq_false h3.symm
              exact Classical.byContradiction (fun z => h4 ⟨hv, z⟩)
            have hmr := hm.2 _ hin
            rw [show 60 * ((64 * p + v) / 64) + (64 * p + v) % 64 = 60 * p + v by omega] at hmr
            rw [if_neg hb, if_pos rfl, Option.bind_some, if_pos rfl, hre _ hin, hmr]
            rcases hrs _ hin with hr1 | ⟨r, hr, hr1⟩
            · rw [hr1, hnone]
              refine ⟨-1, rfl, ?_⟩
              rw [if_pos (show ((-1 : Int32) + 1 - 1) < 0 by decide)]
              split <;> rfl
            · have hre2 : p_RK_ruleAt N (nI nR) nR (nI r) = some (some r) := by
                rcases rk_ruleAt N hR (nI r) with ⟨r', hr', e5, e6⟩ | ⟨hno, _⟩
                · rw [(nI_eq (by omega) (by omega)).mp e5]; rw [(nI_eq (by omega) (by omega)).mp e5] at e6; exact e6
                · exact absurd rfl (hno r hr)
              obtain ⟨-, -, g3, g4, -, -, -, -⟩ := hG.2 r hr
              obtain ⟨-, -, h3, -, h5, -, -⟩ := hC r hr
              obtain ⟨k1, k2, k3⟩ := hM r hr
              have jl : ∀ {α : Type} (k : Option α), jlt r nR k = k := fun k => if_pos hr
              rw [hr1, hre2, Option.bind_some]
              show ∃ o, jlt r nR _ = some o ∧ _
              rw [nI_1, nI_pred, if_neg (nI_pos (by omega)), jin_nI (n := 120) (by omega) (by decide), nI_clamp (n := r) (by omega), k1]
              simp only [jl]
              by_cases c1 : a3 < 0
              · refine ⟨-1, by rw [if_pos c1], ?_⟩
                rw [if_neg (Int32.not_le.mpr c1)]
              · rw [if_neg c1, if_pos (Int32.not_lt.mp c1), h3]
                rcases pk_ix a3 (n := sz r + 1) (by omega) with z | z | ⟨j, hj, rfl⟩
                · exact absurd z c1
                · have hlt : nI (sz r) < a3 := by
                    rw [Int32.lt_iff_toInt_lt, nI_toInt (by omega)]
                    have := Int32.le_iff_toInt_le.mp z
                    rw [nI_toInt (by omega)] at this
                    omega
                  have hnz : ¬ a3 = 0 := fun y => by
                    rw [y, Int32.lt_iff_toInt_lt, nI_toInt (by omega)] at hlt
                    have : (0 : Int32).toInt = 0 := by decide
                    omega
                  refine ⟨-1, by rw [if_neg (Int32.not_le.mpr hlt)], ?_⟩
                  rw [if_neg hnz, if_pos hlt]
                · rw [if_pos (nI_le (by omega) (by omega)), if_neg (nI_nlt (by omega) (by omega))]
                  by_cases hj0 : j = 0
                  · subst hj0
                    rw [if_pos (show nI 0 = (0 : Int32) from rfl)]
                    exact ⟨nI r, rfl, by rw [if_pos (show nI 0 = (0 : Int32) from rfl)]⟩
                  · obtain ⟨i, rfl⟩ : ∃ i, j = i + 1 := ⟨j - 1, by omega⟩
                    have hnz : ¬ nI (i + 1) = (0 : Int32) := fun z => by
                      have := (nI_eq (b := 0) (by omega) (by decide)).mp z
                      omega
                    rw [if_neg hnz, if_neg hnz, nI_pred, jin_nI (by omega) (by decide), nI_clamp (n := i) (by omega), (h5 i (by omega)).1]
                    refine ⟨nI (pl r i), rfl, ?_⟩
                    rw [show (16 : Int32) = nI 16 from rfl, pk_mul, nI_add, show 16 * r + (i + 1) = (16 * r + i) + 1 by omega, nI_pred, jin_nI (by omega) (by decide), nI_clamp (by omega), (k3 i (by omega)).1]
        · exact absurd rfl (hno v hv)
      · rcases mo_isSymbol N (P := S) (by omega) a2 with ⟨q2, hq2, hqe2, e4⟩ | ⟨_, e4⟩
        · exact absurd hqe2 (hno q2 hq2)
        · rw [e3, Option.bind_some, if_pos rfl, Option.bind_some, hnone, e4]
          exact ⟨-1, rfl, rfl⟩
    · exact absurd rfl (hno p hp)
  · rcases mo_isPlace N (P := P) (by omega) a1 with ⟨q, hq, hqe, e2⟩ | ⟨_, e2⟩
    · exact absurd hqe (hno q hq)
    · rw [e1, Option.bind_some, if_pos rfl, Option.bind_some, hnone, e2]
      exact ⟨-1, rfl, rfl⟩
/-- one more is told -/
def tfA (tf : Nat → Nat) (tn r : Nat) : Nat → Nat := va_up tf tn r
theorem told_add (N : Nat) {count : Int32} {numbers : Nat → Int32} {tn : Nat} {tf : Nat → Nat} (h : ToldOK count numbers tn tf) (ht : tn + 1 < 2 ^ 31) (r : Nat) : ∃ c' n', p_Told_add N count numbers (nI r) = some (c', n') ∧ ToldOK c' n' (tn + 1) (tfA tf tn r) := by
  obtain ⟨rfl, h1, h2⟩ := h
  unfold p_Told_add
  by_cases hc : 1000 ≤ tn
  · rw [if_pos (nI_le hc h1)]
    refine ⟨_, _, rfl, nI_1 tn, ht, fun k hk hk2 => ?_⟩
    unfold tfA
    rw [vu_n (by omega)]
    exact h2 k (by omega) hk2
  · rw [if_neg (nI_ge (by omega) (by decide)), jin_nI (by omega) (by decide), nI_clamp (by omega)]
    refine ⟨_, _, rfl, nI_1 tn, ht, fun k hk hk2 => ?_⟩
    unfold tfA
    by_cases hkt : k = tn
    · subst hkt
      rw [ud_s, vu_s]
    · rw [ud_n hkt, vu_n hkt]
      exact h2 k (by omega) hk2
theorem told_copy (N : Nat) {count : Int32} {numbers : Nat → Int32} {tn : Nat} {tf : Nat → Nat} (h : ToldOK count numbers tn tf) (old : Nat → Int32) : ∃ n', p_Told_copyFrom N old count numbers = some (count, n') ∧ ToldOK count n' tn tf := by
  obtain ⟨rfl, h1, h2⟩ := h
  unfold p_Told_copyFrom
  have key : ∀ m, m ≤ 1000 → m ≤ tn → (tn ≤ m ∨ m = 1000) → ∃ n', jcp (0 : Int32) (0 : Int32) (nI m) 1000 1000 (some (nI tn, va_cpy numbers old (0 : Int32).toNatClampNeg (0 : Int32).toNatClampNeg (nI m).toNatClampNeg)) = some (nI tn, n') ∧ ToldOK (nI tn) n' tn tf := by
    intro m hm hm2 hm3
    refine ⟨va_cpy numbers old 0 0 m, ?_, rfl, h1, fun k hk hk2 => ?_⟩
    · unfold jcp
      rw [nI_clamp (by omega), if_neg]
      · rfl
      · rintro (z | z | z | z | z)
        · exact absurd z (by decide)
        · exact absurd z (by decide)
        · exact nI_pos (by omega) z
        · have : (0 : Int32).toNatClampNeg = 0 := rfl
          omega
        · have : (0 : Int32).toNatClampNeg = 0 := rfl
          omega
    · unfold va_cpy
      rw [if_pos (by omega), show 0 + (k - 0) = k by omega]
      exact h2 k hk hk2
  by_cases hc : 1000 < tn
  · rw [if_pos (nI_lt hc h1)]
    exact key 1000 (by omega) (by omega) (Or.inr rfl)
  · rw [if_neg (nI_nlt (by omega) (by decide))]
    exact key tn (by omega) (by omega) (Or.inl (by omega))
theorem row_copy_loop (N : Nat) {ph ps : Int32} {pr pw : Nat → Int32} {h s : Int32} :
    ∀ n i ring waits, 120 - i < n → i ≤ 120 → (∀ k, k < i → ring k = pr k ∧ waits k = vp_nar .boolean (pw k)) → ∃ ring' waits', q_Row_copyFrom_2 N ph ps pr pw n (nI i) h s ring waits = some (ph, ps, ring', waits') ∧ ∀ k, k < 120 → ring' k = pr k ∧ waits' k = vp_nar .boolean (pw k) := by
  intro n
  induction n with
  | zero => intro i ring waits h; omega
  | succ n ih =>
    intro i ring waits hn hi hk
    rw [q_Row_copyFrom_2]
    show ∃ ring' waits', (if nI 120 ≤ nI i then _ else _) = _ ∧ _
    by_cases hc : 120 ≤ i
    · have : i = 120 := by omega
      subst this
      rw [if_pos (nI_le hc (by omega))]
      exact ⟨_, _, rfl, hk⟩
    · rw [if_neg (nI_ge (by omega) (by decide)), jin_nI (by omega) (by decide), jin_nI (by omega) (by decide), jin_nI (by omega) (by decide), jin_nI (by omega) (by decide), nI_clamp (by omega), nI_1]
      refine ih (i + 1) _ _ (by omega) (by omega) (fun k hk2 => ?_)
      by_cases hki : k = i
      · subst hki
        rw [ud_s, ud_s]
        exact ⟨rfl, rfl⟩
      · rw [ud_n hki, ud_n hki]
        exact hk k (by omega)
theorem row_copy {N : Nat} (hN : 121 ≤ N) {ph ps : Int32} {pr pw : Nat → Int32} {l : List Nat} (h : RowOK ph ps pr pw l) (th ts : Int32) (ring waits : Nat → Int32) : ∃ ring' waits', p_Row_copyFrom N th ts ring waits ph ps pr pw = some (ph, ps, ring', waits') ∧ RowOK ph ps ring' waits' l := by
  unfold p_Row_copyFrom
  obtain ⟨ring', waits', e, h1⟩ := row_copy_loop N (ph := ph) (ps := ps) (pr := pr) (pw := pw) (h := th) (s := ts) N 0 ring waits (by omega) (by omega) (fun k hk => absurd hk (Nat.not_lt_zero _))
  refine ⟨ring', waits', e, ?_⟩
  obtain ⟨hd, h2, h3, h4, h5, h6, h7, h8⟩ := h
  refine ⟨hd, h2, h3, h4, fun k hk => ?_, fun r hr => ?_, h7, h8⟩
  · rw [(h1 _ (Nat.mod_lt _ (by decide))).1]
    exact h5 k hk
  · rw [(h1 r hr).2, h6 r hr]
    by_cases hm : r ∈ l
    · rw [if_pos hm]; exact nar_1
    · rw [if_neg hm]; exact nar_0
/-- the least place with no candidate -/
theorem empty_loop {N P : Nat} (hP : P ≤ 128) {c d : Nat → Int64} (hcd : ∀ k, k < P → c k = d k) :
    ∀ n i, P - i < n → i ≤ P → (∀ k, k < i → c k ≠ 0) → ∃ o, q_Board_leastEmptyPlace_11 N P c n (nI i) = some o ∧ q_Mo_emptyPlace_2 N (nI P) d n (nI i) = some o ∧ ((o = -1 ∧ ∀ k, k < P → c k ≠ 0) ∨ ∃ k, k < P ∧ o = nI k ∧ c k = 0) := by
  intro n
  induction n with
  | zero => intro i h; omega
  | succ n ih =>
    intro i hn hi hk
    rw [q_Board_leastEmptyPlace_11, q_Mo_emptyPlace_2]
    show ∃ o, (if nI P ≤ nI i then _ else _) = some o ∧ (if nI P ≤ nI i then _ else _) = some o ∧ _
    by_cases hc : P ≤ i
    · rw [if_pos (nI_le hc (by omega)), if_pos (nI_le hc (by omega))]
      exact ⟨-1, rfl, rfl, Or.inl ⟨rfl, fun k hk2 => hk k (by omega)⟩⟩
    · rw [if_neg (nI_ge (by omega) (by omega)), if_neg (nI_ge (by omega) (by omega)), jin_nI (by omega) (by omega), jin_nI (by omega) (by omega), nI_clamp (by omega), ← hcd i (by omega)]
      by_cases hz : c i = 0
      · rw [if_pos ((lg_cmp_eq _ _).mpr hz), if_pos ((lg_cmp_eq _ _).mpr hz)]
        exact ⟨nI i, rfl, rfl, Or.inr ⟨i, by omega, rfl, hz⟩⟩
      · rw [if_neg (fun z => hz ((lg_cmp_eq _ _).mp z)), if_neg (fun z => hz ((lg_cmp_eq _ _).mp z)), nI_1]
        exact ih (i + 1) (by omega) (by omega) (fun k hk2 => by
          by_cases hki : k = i
          · rw [hki]; exact hz
          · exact hk k (by omega))
theorem empty_both {N P : Nat} (hN : 129 ≤ N) (hP : P ≤ 128) {c d : Nat → Int64} (hcd : ∀ k, k < P → c k = d k) : ∃ o, p_Board_leastEmptyPlace N P (nI (cntE c P)) c = some o ∧ p_Mo_emptyPlace N (nI P) d = some o ∧ ((o = -1 ∧ cntE c P = 0) ∨ ∃ k, k < P ∧ o = nI k ∧ cntE c P ≠ 0) := by
  unfold p_Board_leastEmptyPlace p_Mo_emptyPlace
  obtain ⟨o, e1, e2, h⟩ := empty_loop (N := N) hP hcd N 0 (by omega) (by omega) (fun k hk => absurd hk (Nat.not_lt_zero _))
  have hle := cntE_le c P
  have e1' : q_Board_leastEmptyPlace_11 N P c N (0 : Int32) = some o := e1
  have e2' : q_Mo_emptyPlace_2 N (nI P) d N (0 : Int32) = some o := e2
  by_cases hz : cntE c P = 0
  · rw [if_pos (show nI (cntE c P) = 0 by rw [hz]; rfl)]
    rcases h with ⟨rfl, _⟩ | ⟨k, hk, _, hk0⟩
    · exact ⟨-1, rfl, e2', Or.inl ⟨rfl, hz⟩⟩
    · exact absurd hk0 ((cntE_zero P).mp hz k hk)
  · rw [if_neg (show ¬ nI (cntE c P) = (0 : Int32) from fun z => hz ((nI_eq (b := 0) (by omega) (by decide)).mp z))]
    refine ⟨o, e1', e2', ?_⟩
    rcases h with ⟨_, h2⟩ | ⟨k, hk, hko, _⟩
    · exact absurd ((cntE_zero P).mpr h2) hz
    · exact Or.inr ⟨k, hk, hko, hz⟩

