/-! take, on both sides: the same list of what went, the same row. -/
def CandOK (P S : Nat) (cand : Nat → Int64) (tr : List Nat) : Prop := ∀ p, p < P → ∀ v, v < 64 → tb (cand p) v = decide (v < S ∧ 64 * p + v ∉ tr)
/-- the reference's board -/
def MoBd (P S : Nat) (cand : Nat → Int64) (reasons : Nat → Int32) (tr : List Nat) (rs : Nat → Int32) : Prop := CandOK P S cand tr ∧ ∀ c ∈ tr, reasons (60 * (c / 64) + c % 64) = rs c + 1
theorem CandOK.eq {P S : Nat} {c d : Nat → Int64} {tr : List Nat} (h1 : CandOK P S c tr) (h2 : CandOK P S d tr) {p : Nat} (hp : p < P) : c p = d p := tb_ext (fun i hi => by rw [h1 p hp i hi, h2 p hp i hi])
theorem mo_remove1 (N : Nat) {P S p v : Nat} (hP : P ≤ 128) (hS : S ≤ 60) (hp : p < P) (hv : v < S) {cand : Nat → Int64} {reasons : Nat → Int32} {tr : List Nat} {rs : Nat → Int32} (hT : TrOK P S tr) (h : MoBd P S cand reasons tr rs) (hn : 64 * p + v ∉ tr) {why w : Int32} (hw : w = why + 1) :
    ∃ c re, p_Mo_remove N cand reasons (nI p) (nI v) w = some (c, re) ∧ MoBd P S c re (tr ++ [64 * p + v]) (fun c => if c ∈ tr then rs c else why) ∧ (∀ q, q ≠ p → c q = cand q) := by
  unfold p_Mo_remove
  rw [jin_nI (by omega) (by decide), jin_nI (by omega) (by decide), show (60 : Int32) = nI 60 from rfl, pk_mul, nI_add, jin_nI (by omega) (by decide), nI_clamp (by omega), nI_clamp (by omega)]
  refine ⟨_, _, rfl, ⟨?_, ?_⟩, fun q hq => pk_uLn hq⟩
  · intro q hq i hi
    by_cases hqp : q = p
    · subst hqp
      rw [pk_uLs, tb_and, tb_not hi, tb_bit (by omega) hi, h.1 q hq i hi]
      by_cases hiv : i = v
      · subst hiv
        rw [decide_eq_true rfl, Bool.not_true, Bool.and_false, decide_eq_false]
        intro z
        exact z.2 (List.mem_append.mpr (Or.inr (List.mem_singleton.mpr rfl)))
      · rw [decide_eq_false hiv, Bool.not_false, Bool.and_true]
        apply decide_eq_decide.mpr
        constructor
        · rintro ⟨h4, h5⟩
          refine ⟨h4, fun z => ?_⟩
          rcases List.mem_append.mp z with z | z
          · exact h5 z
          · rw [List.mem_singleton] at z; omega
        · rintro ⟨h4, h5⟩
          exact ⟨h4, fun z => h5 (List.mem_append.mpr (Or.inl z))⟩
    · rw [pk_uLn hqp, h.1 q hq i hi]
      apply decide_eq_decide.mpr
      constructor
      · rintro ⟨h4, h5⟩
        refine ⟨h4, fun z => ?_⟩
        rcases List.mem_append.mp z with z | z
        · exact h5 z
        · rw [List.mem_singleton] at z; omega
      · rintro ⟨h4, h5⟩
        exact ⟨h4, fun z => h5 (List.mem_append.mpr (Or.inl z))⟩
  · intro c hc
    show upd reasons (60 * p + v) w (60 * (c / 64) + c % 64) = (if c ∈ tr then rs c else why) + 1
    rcases List.mem_append.mp hc with z | z
    · have h2 := hT.2 c z
      have hne : 60 * (c / 64) + c % 64 ≠ 60 * p + v := fun e => hn (by
        have : c = 64 * p + v := by omega
        rw [← this]; exact z)
      rw [show upd reasons (60 * p + v) w (60 * (c / 64) + c % 64) = reasons (60 * (c / 64) + c % 64) from if_neg hne, if_pos z]
      exact h.2 c z
    · rw [List.mem_singleton] at z
      subst z
      rw [show 60 * ((64 * p + v) / 64) + (64 * p + v) % 64 = 60 * p + v by omega, show upd reasons (60 * p + v) w (60 * p + v) = w from if_pos rfl, if_neg hn]
      exact hw
theorem lost_bit {P S p v : Nat} (hS : S ≤ 60) (hp : p < P) (hv : v < S) {cand : Nat → Int64} {tr : List Nat} (h : CandOK P S cand tr) (hb : tb (cand p) v = true) : cand p &&& j_lshl 1 (nI v) ≠ 0 ∧ lostL p (cand p &&& j_lshl 1 (nI v)) S = [64 * p + v] := by
  have hx : ∀ i, i < 64 → tb (cand p &&& j_lshl 1 (nI v)) i = decide (i = v) := by
    intro i hi
    rw [tb_and, tb_bit (by omega) hi]
    by_cases hiv : i = v
    · subst hiv; rw [hb]; simp
    · simp [hiv]
  constructor
  · intro z
    have := tb_zero.mp z v (by omega)
    rw [hx v (by omega)] at this
    simp at this
  · have key : ∀ i, i ≤ S → lostL p (cand p &&& j_lshl 1 (nI v)) i = if v < i then [64 * p + v] else [] := by
      intro i
      induction i with
      | zero => intro _; rfl
      | succ i ih =>
        intro hi
        show lostL p _ i ++ (if tb _ i = true then [64 * p + i] else []) = _
        rw [ih (by omega), hx i (by omega)]
        by_cases h1 : v < i
        · rw [if_pos h1, if_pos (show v < i + 1 by omega), if_neg (by simp; omega)]
          rfl
        · by_cases h2 : i = v
          · subst h2
            rw [if_neg h1, if_pos (show i < i + 1 by omega), if_pos (by simp)]
            rfl
          · rw [if_neg h1, if_neg (show ¬ v < i + 1 by omega), if_neg (by simp; exact h2)]
            rfl
    rw [key S (by omega), if_pos hv]
theorem m1_none : ∀ i, i < 120 → (nI i = (-1 : Int32) ↔ some i = (none : Option Nat)) := by
  intro i hi
  constructor
  · intro h
    have h2 : (nI i).toInt = (-1 : Int32).toInt := by rw [h]
    rw [nI_toInt (by omega)] at h2
    have : (-1 : Int32).toInt = -1 := by decide
    omega
  · intro h; cases h
/-- take: the class -/
theorem rk_take {N P S nR : Nat} (hN : 61 ≤ N) (hP : P ≤ 128) (hS : S ≤ 60) (hR : nR ≤ 120) {gone empty : Int32} {cand : Nat → Int64} {reasons trail : Nat → Int32} {tr : List Nat} {rs : Nat → Int32} (h : BoardOK P S gone empty cand reasons trail tr rs) {lower upper : Nat → Int64} {sz : Nat → Nat} {pl : Nat → Nat → Nat} (hW : LowUp P nR lower upper sz pl) {head size : Int32} {ring waits : Nat → Int32} {l : List Nat} (hl : RowOK head size ring waits l) (a b : Int32) :
    (∃ p v, p < P ∧ v < S ∧ a = nI p ∧ b = nI v ∧ 64 * p + v ∉ tr ∧ ∃ g e c re t s' g' w', p_RK_take N P (64 * P) (P * S) P P (nI S) gone empty cand reasons trail lower upper head size ring waits a b = some (1, g, e, c, re, t, s', g', w') ∧ BoardOK P S g e c re t (tr ++ [64 * p + v]) (fun c => if c ∈ tr then rs c else -1) ∧ RowOK head s' g' w' (gf (fun r => inR sz pl r p) none nR 0 l)) ∨
    ((∀ p v, p < P → v < S → a = nI p → b = nI v → 64 * p + v ∈ tr) ∧ p_RK_take N P (64 * P) (P * S) P P (nI S) gone empty cand reasons trail lower upper head size ring waits a b = some (0, gone, empty, cand, reasons, trail, size, ring, waits)) := by
  unfold p_RK_take
  rcases bd_isCandidate N hP hS (cand := cand) a b with ⟨p, v, hp, hv, rfl, rfl, e1⟩ | ⟨hno, e1⟩
  · by_cases hb : tb (cand p) v = true
    · have hn : 64 * p + v ∉ tr := by
        have := h.2.2.2.1 p hp v (by omega)
        rw [hb] at this
        exact (of_decide_eq_true this.symm).2
      obtain ⟨hz, hL⟩ := lost_bit hS hp hv h.2.2.2.1 hb
      obtain ⟨g, e, c, re, t, s', g', w', e2, h1, h2, -, -⟩ := rk_removeAndWake hN hP hS hp hR h hW hl (j_lshl 1 (nI v)) (why := -1) (but := none) m1_none
      rw [if_neg hz] at h2
      rw [hL] at h1
      refine Or.inl ⟨p, v, hp, hv, rfl, rfl, hn, g, e, c, re, t, s', g', w', ?_, h1, h2⟩
      rw [e1, Option.bind_some, if_pos hb, if_neg (show ¬ (1 : Int32) = 0 by decide), e2]
      rfl
    · refine Or.inr ⟨fun p' v' hp' hv' ha hb' => ?_, ?_⟩
      · have e3 : p = p' := (nI_eq (by omega) (by omega)).mp ha
        have e4 : v = v' := (nI_eq (by omega) (by omega)).mp hb'
        subst e3; subst e4
        have h3 := h.2.2.2.1 p hp v (by omega)
        have hb2 : tb (cand p) v = false := by simpa using hb
        rw [hb2] at h3
        have h4 := of_decide_eq_false h3.symm
        exact Classical.byContradiction (fun z => h4 ⟨hv, z⟩)
      · rw [e1, Option.bind_some, if_neg hb, if_pos rfl]
  · refine Or.inr ⟨fun p v hp hv ha hb => ?_, ?_⟩
    · rcases hno with z | z
      · exact absurd ha (z p hp)
      · exact absurd hb (z v hv)
    · rw [e1, Option.bind_some, if_pos rfl]
/-- take: the reference -/
theorem mo_take {N P S nR : Nat} (hN : 122 ≤ N) (hP : P ≤ 128) (hS : S ≤ 60) (hR : nR ≤ 120) {cand : Nat → Int64} {reasons : Nat → Int32} {tr : List Nat} {rs : Nat → Int32} (hT : TrOK P S tr) (h : MoBd P S cand reasons tr rs) {sizes members : Nat → Int32} {sz : Nat → Nat} {pl : Nat → Nat → Nat} (hM : MemM nR sizes members sz pl) {waits : Int32} {row : Nat → Int32} {l : List Nat} (hl : RowM waits row l) (a b : Int32) :
    (∃ p v, p < P ∧ v < S ∧ a = nI p ∧ b = nI v ∧ 64 * p + v ∉ tr ∧ ∃ w' c re row', p_Mo_take N (nI P) (nI S) (nI nR) waits cand reasons sizes members row a b = some (1, 0, w', c, re, row') ∧ MoBd P S c re (tr ++ [64 * p + v]) (fun c => if c ∈ tr then rs c else -1) ∧ RowM w' row' (gf (fun r => inR sz pl r p) none nR 0 l)) ∨
    ((∀ p v, p < P → v < S → a = nI p → b = nI v → 64 * p + v ∈ tr) ∧ p_Mo_take N (nI P) (nI S) (nI nR) waits cand reasons sizes members row a b = some (0, 0, waits, cand, reasons, row)) := by
  unfold p_Mo_take
  rcases mo_isPlace N (P := P) (by omega) a with ⟨p, hp, rfl, e1⟩ | ⟨hno, e1⟩
  · rcases mo_isSymbol N (P := S) (by omega) b with ⟨v, hv, rfl, e2⟩ | ⟨hno, e2⟩
    · rw [e1, Option.bind_some, if_neg (show ¬ (1 : Int32) = 0 by decide), e2, Option.bind_some, if_neg (show ¬ (1 : Int32) = 0 by decide), Option.bind_some, if_neg (show ¬ (1 : Int32) = 0 by decide)]
      unfold q_Mo_take_38
      rw [jin_nI (by omega) (by decide), e2, Option.bind_some, if_neg (show ¬ (1 : Int32) = 0 by decide), nI_clamp (by omega)]
      unfold q_Mo_take_52
      rw [mo_has N _ (show v < 64 by omega), Option.bind_some]
      by_cases hb : tb (cand p) v = true
      · have hn : 64 * p + v ∉ tr := by
          have := h.1 p hp v (by omega)
          rw [hb] at this
          exact (of_decide_eq_true this.symm).2
        obtain ⟨c, re, e3, h1, -⟩ := mo_remove1 N hP hS hp hv hT h hn (why := -1) (w := 0) (by decide)
        obtain ⟨w', row', e4, h2⟩ := mo_wakeAll hN hR hM (show p < 128 by omega) (but := none) (b := -1) m1_none hl
        refine Or.inl ⟨p, v, hp, hv, rfl, rfl, hn, w', c, re, row', ?_, h1, h2⟩
        rw [if_pos hb, if_neg (show ¬ (1 : Int32) = 0 by decide), e3, Option.bind_some]
        show (Option.bind (p_Mo_wakeAll N (nI nR) waits sizes members row (nI p) (-1)) _) = _
        rw [e4]
        rfl
      · refine Or.inr ⟨fun p' v' hp' hv' ha hb' => ?_, ?_⟩
        · have e3 : p = p' := (nI_eq (by omega) (by omega)).mp ha
          have e4 : v = v' := (nI_eq (by omega) (by omega)).mp hb'
          subst e3; subst e4
          have h3 := h.1 p hp v (by omega)
          have hb2 : tb (cand p) v = false := by simpa using hb
          rw [hb2] at h3
          have h4 := of_decide_eq_false h3.symm
          exact Classical.byContradiction (fun z => h4 ⟨hv, z⟩)
        · rw [if_neg hb, if_pos rfl]
    · refine Or.inr ⟨fun p' v' _ hv' _ hb' => absurd hb' (hno v' hv'), ?_⟩
      rw [e1, Option.bind_some, if_neg (show ¬ (1 : Int32) = 0 by decide), e2, Option.bind_some, if_pos rfl]
  · refine Or.inr ⟨fun p' v' hp' _ ha _ => absurd ha (hno p' hp'), ?_⟩
    rw [e1, Option.bind_some, if_pos rfl]

