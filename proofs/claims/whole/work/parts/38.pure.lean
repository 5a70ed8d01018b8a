/-! set, on both sides. -/
def setL (tr : List Nat) (p v0 : Nat) : Nat → List Nat
  | 0 => []
  | i + 1 => setL tr p v0 i ++ (if i ≠ v0 ∧ 64 * p + i ∉ tr then [64 * p + i] else [])
theorem lost_setL {tr : List Nat} {p v0 S : Nat} {X : Int64} (hX : ∀ v, v < S → (tb X v = true ↔ v ≠ v0 ∧ 64 * p + v ∉ tr)) : ∀ i, i ≤ S → lostL p X i = setL tr p v0 i := by
  intro i
  induction i with
  | zero => intro _; rfl
  | succ i ih =>
    intro hi
    show lostL p X i ++ (if tb X i = true then [64 * p + i] else []) = setL tr p v0 i ++ (if i ≠ v0 ∧ 64 * p + i ∉ tr then [64 * p + i] else [])
    rw [ih (by omega)]
    by_cases h : i ≠ v0 ∧ 64 * p + i ∉ tr
    · rw [if_pos h, if_pos ((hX i (by omega)).mpr h)]
    · rw [if_neg h, if_neg (fun z => h ((hX i (by omega)).mp z))]
theorem lost_nil {p S : Nat} {X : Int64} (hhi : ∀ v, S ≤ v → v < 64 → tb X v = false) (hS : S ≤ 64) : lostL p X S = [] ↔ X = 0 := by
  constructor
  · intro h
    rw [tb_zero]
    intro i hi
    by_cases hiS : i < S
    · cases hb : tb X i with
      | false => rfl
      | true =>
        have : 64 * p + i ∈ lostL p X S := (mem_lostL S).mpr ⟨i, hiS, hb, rfl⟩
        rw [h] at this
        exact absurd this List.not_mem_nil
    · exact hhi i (by omega) hi
  · intro h
    apply List.eq_nil_iff_forall_not_mem.mpr
    intro c hm
    obtain ⟨v, _, h2, _⟩ := (mem_lostL S).mp hm
    rw [h, tb_0] at h2; cases h2
theorem set_bits {P S p v0 : Nat} (hS : S ≤ 60) (hp : p < P) (hv0 : v0 < S) {cand : Nat → Int64} {tr : List Nat} (h : CandOK P S cand tr) : (∀ v, v < S → (tb (cand p &&& (j_lshl 1 (nI v0) ^^^ (-1))) v = true ↔ v ≠ v0 ∧ 64 * p + v ∉ tr)) ∧ (∀ v, S ≤ v → v < 64 → tb (cand p &&& (j_lshl 1 (nI v0) ^^^ (-1))) v = false) := by
  have hx : ∀ i, i < 64 → tb (cand p &&& (j_lshl 1 (nI v0) ^^^ (-1))) i = (decide (i < S ∧ 64 * p + i ∉ tr) && !decide (i = v0)) := by
    intro i hi
    rw [tb_and, tb_not hi, tb_bit (by omega) hi, h p hp i hi]
  constructor
  · intro v hv
    rw [hx v (by omega), Bool.and_eq_true, decide_eq_true_eq]
    constructor
    · rintro ⟨h1, h2⟩
      exact ⟨by simpa using h2, h1.2⟩
    · rintro ⟨h1, h2⟩
      exact ⟨⟨hv, h2⟩, by simpa using h1⟩
  · intro v h1 h2
    rw [hx v h2, decide_eq_false (fun z => by omega), Bool.false_and]
/-- the row behind a removal: as it was when nothing went -/
def wrow (sz : Nat → Nat) (pl : Nat → Nat → Nat) (p : Nat) (but : Option Nat) (nR : Nat) (gone l : List Nat) : List Nat := if gone = [] then l else gf (fun r => inR sz pl r p) but nR 0 l
theorem rk_set {N P S nR : Nat} (hN : 61 ≤ N) (hP : P ≤ 128) (hS : S ≤ 60) (hR : nR ≤ 120) {gone empty : Int32} {cand : Nat → Int64} {reasons trail : Nat → Int32} {tr : List Nat} {rs : Nat → Int32} (h : BoardOK P S gone empty cand reasons trail tr rs) {lower upper : Nat → Int64} {sz : Nat → Nat} {pl : Nat → Nat → Nat} (hW : LowUp P nR lower upper sz pl) {head size : Int32} {ring waits : Nat → Int32} {l : List Nat} (hl : RowOK head size ring waits l) (a b : Int32) :
    (∃ p v, p < P ∧ v < S ∧ a = nI p ∧ b = nI v ∧ 64 * p + v ∉ tr ∧ ∃ g e c re t s' g' w', p_RK_set N P (64 * P) (P * S) P P (nI S) gone empty cand reasons trail lower upper head size ring waits a b = some (1, g, e, c, re, t, s', g', w') ∧ BoardOK P S g e c re t (tr ++ setL tr p v S) (fun c => if c ∈ tr then rs c else -1) ∧ RowOK head s' g' w' (wrow sz pl p none nR (setL tr p v S) l)) ∨
    ((∀ p v, p < P → v < S → a = nI p → b = nI v → 64 * p + v ∈ tr) ∧ p_RK_set N P (64 * P) (P * S) P P (nI S) gone empty cand reasons trail lower upper head size ring waits a b = some (0, gone, empty, cand, reasons, trail, size, ring, waits)) := by
  unfold p_RK_set
  rcases bd_isCandidate N hP hS (cand := cand) a b with ⟨p, v, hp, hv, rfl, rfl, e1⟩ | ⟨hno, e1⟩
  · by_cases hb : tb (cand p) v = true
    · have hn : 64 * p + v ∉ tr := by
        have := h.2.2.2.1 p hp v (by omega)
        rw [hb] at this
        exact (of_decide_eq_true this.symm).2
      obtain ⟨hX, hhi⟩ := set_bits hS hp hv h.2.2.2.1
      obtain ⟨g, e, c, re, t, s', g', w', e2, h1, h2, -, -⟩ := rk_removeAndWake hN hP hS hp hR h hW hl (j_lshl 1 (nI v) ^^^ (-1)) (why := -1) (but := none) m1_none
      have hnil := lost_nil (p := p) (X := cand p &&& (j_lshl 1 (nI v) ^^^ (-1))) hhi (by omega)
      have hLS := lost_setL hX S (Nat.le_refl S)
      rw [hLS] at h1 hnil
      refine Or.inl ⟨p, v, hp, hv, rfl, rfl, hn, g, e, c, re, t, s', g', w', ?_, h1, ?_⟩
      · rw [e1, Option.bind_some, if_pos hb, if_neg (show ¬ (1 : Int32) = 0 by decide), e2]
        rfl
      · unfold wrow
        by_cases hz : setL tr p v S = []
        · rw [if_pos (hnil.mp hz)] at h2
          rw [if_pos hz]; exact h2
        · rw [if_neg (fun z => hz (hnil.mpr z))] at h2
          rw [if_neg hz]; exact h2
    · refine Or.inr ⟨fun p' v' hp' hv' ha hb' => ?_, ?_⟩
      · have e3 : p = p' := (nI_eq (by omega) (by omega)).mp ha
        have e4 : v = v' := (nI_eq (by omega) (by omega)).mp hb'
        subst e3; subst e4
        have h3 := h.2.2.2.1 p hp v (by omega)
        have hb2 : tb (cand p) v = false := by simpa using hb
        rw [hb2] at h3
        have h4 := of_decide_eq_false h3.symm
        exact Classical.byContradiction (fun z => h4 ⟨hv, z⟩)
      · rw [e1, Option.bind_some, if_neg hb, if_pos rfl]
  · refine Or.inr ⟨fun p v hp hv ha hb => ?_, ?_⟩
    · rcases hno with z | z
      · exact absurd ha (z p hp)
      · exact absurd hb (z v hv)
    · rw [e1, Option.bind_some, if_pos rfl]
theorem mo_set {N P S nR : Nat} (hN : 122 ≤ N) (hP : P ≤ 128) (hS : S ≤ 60) (hR : nR ≤ 120) {cand : Nat → Int64} {reasons : Nat → Int32} {tr : List Nat} {rs : Nat → Int32} (hT : TrOK P S tr) (h : MoBd P S cand reasons tr rs) {sizes members : Nat → Int32} {sz : Nat → Nat} {pl : Nat → Nat → Nat} (hM : MemM nR sizes members sz pl) {waits : Int32} {row : Nat → Int32} {l : List Nat} (hl : RowM waits row l) (a b : Int32) :
    (∃ p v, p < P ∧ v < S ∧ a = nI p ∧ b = nI v ∧ 64 * p + v ∉ tr ∧ ∃ w' c re row', p_Mo_set N (nI P) (nI S) (nI nR) waits cand reasons sizes members row a b = some (1, 0, w', c, re, row') ∧ MoBd P S c re (tr ++ setL tr p v S) (fun c => if c ∈ tr then rs c else -1) ∧ RowM w' row' (wrow sz pl p none nR (setL tr p v S) l)) ∨
    ((∀ p v, p < P → v < S → a = nI p → b = nI v → 64 * p + v ∈ tr) ∧ p_Mo_set N (nI P) (nI S) (nI nR) waits cand reasons sizes members row a b = some (0, 0, waits, cand, reasons, row)) := by
  unfold p_Mo_set
  rcases mo_isPlace N (P := P) (by omega) a with ⟨p, hp, rfl, e1⟩ | ⟨hno, e1⟩
  · rcases mo_isSymbol N (P := S) (by omega) b with ⟨v, hv, rfl, e2⟩ | ⟨hno, e2⟩
    · rw [e1, Option.bind_some, if_neg (show ¬ (1 : Int32) = 0 by decide), e2, Option.bind_some, if_neg (show ¬ (1 : Int32) = 0 by decide), Option.bind_some, if_neg (show ¬ (1 : Int32) = 0 by decide)]
      unfold q_Mo_set_38
      rw [jin_nI (by omega) (by decide), e2, Option.bind_some, if_neg (show ¬ (1 : Int32) = 0 by decide), nI_clamp (by omega)]
      unfold q_Mo_set_52
      rw [mo_has N _ (show v < 64 by omega), Option.bind_some]
      by_cases hb : tb (cand p) v = true
      · have hn : 64 * p + v ∉ tr := by
          have := h.1 p hp v (by omega)
          rw [hb] at this
          exact (of_decide_eq_true this.symm).2
        obtain ⟨hX, hhi⟩ := set_bits hS hp hv h.1
        obtain ⟨x3, c, re, e3, h1, h2, h3⟩ := mo_set_loop N (X := cand p &&& (j_lshl 1 (nI v) ^^^ (-1))) (rs := rs) (sizes := sizes) (members := members) (waits := waits) (row := row) (th := 0) (nR := nR) hP hS hp hv hX hT N 0 0 cand reasons (by omega) (by omega) (by show TrOK P S (tr ++ []); rw [List.append_nil]; exact hT) (by
          show MoBd P S cand reasons (tr ++ []) _
          rw [List.append_nil]
          exact ⟨h.1, fun c hc => by show reasons _ = (if c ∈ tr then rs c else -1) + 1; rw [if_pos hc]; exact h.2 c hc⟩) rfl
        have hLS := lost_setL hX S (Nat.le_refl S)
        rw [hLS] at h2 h3
        rw [if_pos hb, if_neg (show ¬ (1 : Int32) = 0 by decide), show ((0 : Int32)) = nI 0 from rfl]
        have e3' : q_Mo_set_65 N (nI S) (nI nR) sizes members (nI p) (nI v) N (nI 0) (nI 0) (nI 0) waits cand reasons row = q_Mo_set_113 N (nI nR) sizes members (nI p) x3 0 waits c re row := e3
        rw [e3']
        unfold q_Mo_set_113
        by_cases hz : setL tr p v S = []
        · rw [if_pos hz] at h3
          refine Or.inl ⟨p, v, hp, hv, rfl, rfl, hn, waits, c, re, row, ?_, h2, ?_⟩
          · rw [if_pos h3]; rfl
          · unfold wrow; rw [if_pos hz]; exact hl
        · rw [if_neg hz] at h3
          obtain ⟨w', row', e4, h5⟩ := mo_wakeAll hN hR hM (show p < 128 by omega) (but := none) (b := -1) m1_none hl
          refine Or.inl ⟨p, v, hp, hv, rfl, rfl, hn, w', c, re, row', ?_, h2, ?_⟩
          · rw [if_neg (show ¬ x3 = 0 by rw [h3]; decide), e4]; rfl
          · unfold wrow; rw [if_neg hz]; exact h5
      · refine Or.inr ⟨fun p' v' hp' hv' ha hb' => ?_, ?_⟩
        · have e3 : p = p' := (nI_eq (by omega) (by omega)).mp ha
          have e4 : v = v' := (nI_eq (by omega) (by omega)).mp hb'
          subst e3; subst e4
          have h3 := h.1 p hp v (by omega)
          have hb2 : tb (cand p) v = false := by simpa using hb
          rw [hb2] at h3
          have h4 := of_decide_eq_false h3.symm
          exact Classical.byContradiction (fun z => h4 ⟨hv, z⟩)
        · rw [if_neg hb, if_pos rfl]
    · refine Or.inr ⟨fun p' v' _ hv' _ hb' => absurd hb' (hno v' hv'), ?_⟩
      rw [e1, Option.bind_some, if_neg (show ¬ (1 : Int32) = 0 by decide), e2, Option.bind_some, if_pos rfl]
  · refine Or.inr ⟨fun p' v' hp' _ ha _ => absurd ha (hno p' hp'), ?_⟩
    rw [e1, Option.bind_some, if_pos rfl]

