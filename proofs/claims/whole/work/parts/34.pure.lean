/-! The board: candidates, the trail of what went, reasons. -/
theorem nI_or (a b : Nat) : nI a ||| nI b = nI (a ||| b) := by
  apply Int32.toBitVec_inj.mp
  rw [Int32.toBitVec_or]
  show BitVec.ofNat 32 a ||| BitVec.ofNat 32 b = BitVec.ofNat 32 (a ||| b)
  rw [BitVec.ofNat_or]
theorem spot {p v : Nat} (hp : p < 128) (hv : v < 64) : (nI p <<< ((6 : Int32) &&& 31)) ||| nI v = nI (64 * p + v) := by
  rw [pk_shlN (n := p) ((6 : Int32) &&& 31) 6 (by decide) (by omega), nI_or]
  congr 1
  have := Nat.two_pow_add_eq_or_of_lt (i := 6) (b := v) (by omega) p
  rw [show 2 ^ 6 = 64 from rfl] at this
  rw [show p * 2 ^ 6 = 64 * p by omega, ← this]
def cntE (c : Nat → Int64) : Nat → Nat
  | 0 => 0
  | n + 1 => cntE c n + (if c n = 0 then 1 else 0)
theorem cntE_le (c : Nat → Int64) : ∀ n, cntE c n ≤ n := by
  intro n
  induction n with
  | zero => exact Nat.le_refl 0
  | succ n ih =>
    unfold cntE
    split <;> omega
theorem cntE_congr {c d : Nat → Int64} : ∀ n, (∀ k, k < n → c k = d k) → cntE c n = cntE d n := by
  intro n
  induction n with
  | zero => intro _; rfl
  | succ n ih =>
    intro h
    unfold cntE
    rw [ih (fun k hk => h k (by omega)), h n (by omega)]
theorem cntE_upd {c : Nat → Int64} {p : Nat} {x : Int64} : ∀ n, p < n → c p ≠ 0 → cntE (vp_updL c p x) n = cntE c n + (if x = 0 then 1 else 0) := by
  intro n
  induction n with
  | zero => intro h; omega
  | succ n ih =>
    intro h hc
    unfold cntE
    by_cases hp : p = n
    · subst hp
      rw [cntE_congr (c := vp_updL c p x) (d := c) p (fun k hk => pk_uLn (by omega)), pk_uLs, if_neg hc]
      omega
    · rw [ih (by omega) hc, pk_uLn (fun z => hp z.symm)]
      omega
theorem cntE_zero {c : Nat → Int64} : ∀ n, cntE c n = 0 ↔ ∀ k, k < n → c k ≠ 0 := by
  intro n
  induction n with
  | zero => exact ⟨fun _ k hk => absurd hk (Nat.not_lt_zero _), fun _ => rfl⟩
  | succ n ih =>
    unfold cntE
    constructor
    · intro h k hk
      by_cases hkn : k = n
      · subst hkn
        intro z
        rw [if_pos z] at h
        omega
      · exact ih.mp (by omega) k (by omega)
    · intro h
      rw [ih.mpr (fun k hk => h k (by omega)), if_neg (h n (by omega))]
/-- codes: 64 p + v -/
def TrOK (P S : Nat) (tr : List Nat) : Prop := tr.Nodup ∧ ∀ c ∈ tr, c / 64 < P ∧ c % 64 < S
theorem TrOK.len {P S : Nat} (hS : S ≤ 64) {tr : List Nat} (h : TrOK P S tr) : tr.length ≤ P * S := by
  have h1 : (tr.map (fun c => (c / 64) * S + c % 64)).Nodup := by
    have := h.1
    rw [List.Nodup, List.pairwise_map]
    refine List.Pairwise.imp_of_mem (fun {a b} ha hb hab e => ?_) this
    have h2 := h.2 a ha
    have h3 := h.2 b hb
    apply hab
    have hS0 : 0 < S := by omega
    have e1 : a / 64 = b / 64 := by
      have : ((a / 64) * S + a % 64) / S = ((b / 64) * S + b % 64) / S := congrArg (fun z => z / S) e
      rw [Nat.mul_comm (a / 64), Nat.mul_comm (b / 64), Nat.mul_add_div hS0, Nat.mul_add_div hS0, Nat.div_eq_of_lt h2.2, Nat.div_eq_of_lt h3.2] at this
      omega
    rw [e1] at e
    omega
  have h4 := nodup_lt_len (P * S) _ h1 (fun x hx => by
    obtain ⟨c, hc, rfl⟩ := List.mem_map.mp hx
    have h2 := h.2 c hc
    have : (c / 64 + 1) * S ≤ P * S := Nat.mul_le_mul_right S h2.1
    rw [Nat.add_mul, Nat.one_mul] at this
    omega)
  rw [List.length_map] at h4
  exact h4
theorem TrOK.add {P S : Nat} {tr : List Nat} (h : TrOK P S tr) {p v : Nat} (hp : p < P) (hv : v < S) (hS : S ≤ 64) (hn : 64 * p + v ∉ tr) : TrOK P S (tr ++ [64 * p + v]) := by
  refine ⟨?_, ?_⟩
  · rw [List.nodup_append]
    refine ⟨h.1, by simp, ?_⟩
    intro a ha b hb e
    rw [List.mem_singleton] at hb
    exact hn (by rw [← hb, ← e]; exact ha)
  · intro c hc
    rcases List.mem_append.mp hc with z | z
    · exact h.2 c z
    · rw [List.mem_singleton] at z
      subst z
      constructor <;> omega
/-- the codes of a place's lost symbols below i, in order -/
def lostL (p : Nat) (x : Int64) : Nat → List Nat
  | 0 => []
  | i + 1 => lostL p x i ++ (if tb x i = true then [64 * p + i] else [])
theorem mem_lostL {p : Nat} {x : Int64} {c : Nat} : ∀ i, c ∈ lostL p x i ↔ ∃ v, v < i ∧ tb x v = true ∧ c = 64 * p + v := by
  intro i
  induction i with
  | zero => exact ⟨fun h => absurd h List.not_mem_nil, fun ⟨v, h, _⟩ => absurd h (Nat.not_lt_zero _)⟩
  | succ i ih =>
    unfold lostL
    rw [List.mem_append, ih]
    constructor
    · rintro (⟨v, h1, h2, h3⟩ | h)
      · exact ⟨v, by omega, h2, h3⟩
      · by_cases hb : tb x i = true
        · rw [if_pos hb, List.mem_singleton] at h
          exact ⟨i, by omega, hb, h⟩
        · rw [if_neg hb] at h; exact absurd h List.not_mem_nil
    · rintro ⟨v, h1, h2, h3⟩
      by_cases hv : v = i
      · subst hv
        exact Or.inr (by rw [if_pos h2, List.mem_singleton]; exact h3)
      · exact Or.inl ⟨v, by omega, h2, h3⟩
def Trail (trail : Nat → Int32) (tr : List Nat) : Prop := ∀ k, k < tr.length → trail k = nI (tr.getD k 0)
theorem Trail.add {trail : Nat → Int32} {tr : List Nat} (h : Trail trail tr) (c : Nat) : Trail (upd trail tr.length (nI c)) (tr ++ [c]) := by
  intro k hk
  rw [List.length_append, List.length_singleton] at hk
  by_cases hkl : k = tr.length
  · subst hkl
    rw [show upd trail tr.length (nI c) tr.length = nI c from if_pos rfl]
    simp
  · rw [show upd trail tr.length (nI c) k = trail k from if_neg hkl, h k (by omega), getD_app (by omega)]
theorem remove_loop (N : Nat) {P S p : Nat} (hP : P ≤ 128) (hS : S ≤ 60) (hp : p < P) {why : Int32} {lost : Int64} {empty : Int32} {cand : Nat → Int64} {tr : List Nat} (hfresh : ∀ v, v < S → tb lost v = true → 64 * p + v ∉ tr) (h0 : TrOK P S tr) {rs : Nat → Int32} :
    ∀ n i reasons trail, S - i < n → i ≤ S → TrOK P S (tr ++ lostL p lost i) → Trail trail (tr ++ lostL p lost i) → (∀ c ∈ tr ++ lostL p lost i, reasons c = if c ∈ tr then rs c else why) →
      ∃ reasons' trail', q_Board_remove_22 N P (64 * P) (P * S) (nI S) (nI p) why n lost (nI i) (nI (tr ++ lostL p lost i).length) empty cand reasons trail = q_Board_remove_98 N P (nI p) lost (nI (tr ++ lostL p lost S).length) empty cand reasons' trail' ∧ TrOK P S (tr ++ lostL p lost S) ∧ Trail trail' (tr ++ lostL p lost S) ∧ (∀ c ∈ tr ++ lostL p lost S, reasons' c = if c ∈ tr then rs c else why) := by
  intro n
  induction n with
  | zero => intro i reasons trail h; omega
  | succ n ih =>
    intro i reasons trail hn hi hT hTr hR
    rw [q_Board_remove_22]
    show ∃ reasons' trail', (if nI S ≤ nI i then _ else _) = _ ∧ _
    by_cases hc : S ≤ i
    · have : i = S := by omega
      subst this
      rw [if_pos (nI_le hc (by omega))]
      exact ⟨reasons, trail, rfl, hT, hTr, hR⟩
    · have hi2 : i < S := by omega
      rw [if_neg (nI_ge hi2 (by omega)), has_tb N lost (show i < 64 by omega)]
      show ∃ reasons' trail', (if (if tb lost i = true then (1 : Int32) else 0) = 0 then _ else _) = _ ∧ _
      by_cases hb : tb lost i = true
      · have hl : lostL p lost (i + 1) = lostL p lost i ++ [64 * p + i] := by
          show lostL p lost i ++ (if tb lost i = true then [64 * p + i] else []) = _
          rw [if_pos hb]
        have hnew : 64 * p + i ∉ tr ++ lostL p lost i := fun h => by
          rcases List.mem_append.mp h with z | z
          · exact hfresh i hi2 hb z
          · obtain ⟨v, h1, _, h3⟩ := (mem_lostL i).mp z
            omega
        have hT2 := hT.add hp hi2 (by omega) hnew
        have hlen := hT2.len (by omega)
        have hPS : P * S ≤ 128 * 60 := Nat.mul_le_mul hP hS
        rw [List.length_append, List.length_singleton] at hlen
        rw [if_pos hb, if_neg (show ¬ (1 : Int32) = 0 by decide), if_neg (nI_ge (by omega) (by omega)), spot (by omega) (by omega), jin_nI (by omega) (by omega), jin_nI (by omega) (by omega), nI_clamp (by omega), nI_clamp (by omega)]
        unfold q_Board_remove_92
        rw [nI_1, show ((1 : Int32)) = nI 1 from rfl, nI_add]
        have e : (tr ++ lostL p lost i).length + 1 = (tr ++ lostL p lost (i + 1)).length := by
          rw [hl, ← List.append_assoc]
          simp only [List.length_append, List.length_singleton]
        rw [e]
        refine ih (i + 1) _ _ (by omega) (by omega) ?_ ?_ ?_
        · rw [hl, ← List.append_assoc]; exact hT2
        · rw [hl, ← List.append_assoc]; exact hTr.add _
        · intro c hcm
          rw [hl, ← List.append_assoc] at hcm
          by_cases hcc : c = 64 * p + i
          · subst hcc
            rw [show upd reasons (64 * p + i) why (64 * p + i) = why from if_pos rfl, if_neg (hfresh i hi2 hb)]
          · rw [show upd reasons (64 * p + i) why c = reasons c from if_neg hcc]
            rcases List.mem_append.mp hcm with z | z
            · exact hR c z
            · rw [List.mem_singleton] at z; exact absurd z hcc
      · have hl : lostL p lost (i + 1) = lostL p lost i := by
          show lostL p lost i ++ (if tb lost i = true then [64 * p + i] else []) = _
          rw [if_neg hb, List.append_nil]
        rw [if_neg hb, if_pos rfl]
        unfold q_Board_remove_92
        rw [nI_1]
        have := ih (i + 1) reasons trail (by omega) (by omega) (by rw [hl]; exact hT) (by rw [hl]; exact hTr) (by rw [hl]; exact hR)
        rw [hl] at this
        exact this
/-- what the board is: its numbers, the trail as a list, a reason for each code in it -/
def BoardOK (P S : Nat) (gone empty : Int32) (cand : Nat → Int64) (reasons trail : Nat → Int32) (tr : List Nat) (rs : Nat → Int32) : Prop :=
  gone = nI tr.length ∧ Trail trail tr ∧ TrOK P S tr ∧ (∀ p, p < P → ∀ v, v < 64 → tb (cand p) v = decide (v < S ∧ 64 * p + v ∉ tr)) ∧ (∀ c ∈ tr, reasons c = rs c) ∧ empty = nI (cntE cand P)
theorem board_remove {N P S p : Nat} (hN : 61 ≤ N) (hP : P ≤ 128) (hS : S ≤ 60) (hp : p < P) {gone empty : Int32} {cand : Nat → Int64} {reasons trail : Nat → Int32} {tr : List Nat} {rs : Nat → Int32} (h : BoardOK P S gone empty cand reasons trail tr rs) (sy : Int64) (why : Int32) :
    ∃ r g e c re t, p_Board_remove N P (64 * P) (P * S) (nI S) gone empty cand reasons trail (nI p) sy why = some (r, g, e, c, re, t) ∧ r = (if cand p &&& sy = 0 then 0 else 1) ∧ BoardOK P S g e c re t (tr ++ lostL p (cand p &&& sy) S) (fun c => if c ∈ tr then rs c else why) ∧ (∀ q, q ≠ p → c q = cand q) ∧ c p = cand p &&& ((cand p &&& sy) ^^^ (-1)) := by
  obtain ⟨rfl, hTr, hT, hc, hR, rfl⟩ := h
  unfold p_Board_remove
  rw [jin_nI hp (by omega), nI_clamp (by omega)]
  have hbit : ∀ v, v < 64 → tb (cand p &&& sy) v = true → v < S ∧ 64 * p + v ∉ tr := fun v hv hb => by
    rw [tb_and, hc p hp v hv, Bool.and_eq_true, decide_eq_true_eq] at hb
    exact hb.1
  by_cases hz : cand p &&& sy = 0
  · rw [if_pos ((lg_cmp_eq _ _).mpr hz), if_pos hz, hz]
    have hl : lostL p 0 S = [] := by
      apply List.eq_nil_iff_forall_not_mem.mpr
      intro c hm
      obtain ⟨v, _, h2, _⟩ := (mem_lostL S).mp hm
      rw [tb_0] at h2; cases h2
    rw [hl, List.append_nil]
    refine ⟨_, _, _, _, _, _, rfl, rfl, ⟨rfl, hTr, hT, hc, fun c hm => by show reasons c = if c ∈ tr then rs c else why; rw [if_pos hm]; exact hR c hm, rfl⟩, fun _ _ => rfl, ?_⟩
    apply tb_ext
    intro i hi
    rw [tb_and, tb_not hi, tb_0]
    simp
  · rw [if_neg (fun z => hz ((lg_cmp_eq _ _).mp z)), if_neg hz]
    obtain ⟨re, t, e1, h1, h2, h3⟩ := remove_loop N (P := P) (S := S) (p := p) hP hS hp (why := why) (lost := cand p &&& sy) (empty := nI (cntE cand P)) (cand := cand) (tr := tr) (fun v hv hb => (hbit v (by omega) hb).2) hT (rs := rs) N 0 reasons trail (by omega) (by omega) (by show TrOK P S (tr ++ []); rw [List.append_nil]; exact hT) (by show Trail trail (tr ++ []); rw [List.append_nil]; exact hTr) (by
      intro c hm
      have hm : c ∈ tr ++ [] := hm
      rw [List.append_nil] at hm
      rw [if_pos hm]; exact hR c hm)
    have e0 : (tr ++ lostL p (cand p &&& sy) 0).length = tr.length := by
      show (tr ++ []).length = _
      rw [List.append_nil]
    rw [e0] at e1
    rw [show ((0 : Int32)) = nI 0 from rfl, e1]
    unfold q_Board_remove_98
    rw [jin_nI hp (by omega), jin_nI hp (by omega), jin_nI hp (by omega), nI_clamp (by omega), pk_uLs]
    have hcp : cand p ≠ 0 := fun z => hz (by rw [z]; apply tb_ext; intro i _; rw [tb_and, tb_0]; rfl)
    have hcand : ∀ q, q < P → ∀ v, v < 64 → tb (vp_updL cand p (cand p &&& ((cand p &&& sy) ^^^ (-1))) q) v = decide (v < S ∧ 64 * q + v ∉ tr ++ lostL p (cand p &&& sy) S) := by
      intro q hq v hv
      by_cases hqp : q = p
      · subst hqp
        rw [pk_uLs, tb_and, tb_not hv, hc q hq v hv]
        by_cases hb : tb (cand q &&& sy) v = true
        · rw [hb]
          have := hbit v hv hb
          have hin : 64 * q + v ∈ tr ++ lostL q (cand q &&& sy) S := List.mem_append.mpr (Or.inr ((mem_lostL S).mpr ⟨v, this.1, hb, rfl⟩))
          rw [decide_eq_false (show ¬ (v < S ∧ 64 * q + v ∉ tr ++ lostL q (cand q &&& sy) S) from fun z => z.2 hin), Bool.not_true, Bool.and_false]
        · have hb' : tb (cand q &&& sy) v = false := by simpa using hb
          rw [hb', Bool.not_false, Bool.and_true]
          apply decide_eq_decide.mpr
          constructor
          · rintro ⟨h4, h5⟩
            refine ⟨h4, fun z => ?_⟩
            rcases List.mem_append.mp z with z | z
            · exact h5 z
            · obtain ⟨w, _, h6, h7⟩ := (mem_lostL S).mp z
              have : w = v := by omega
              rw [this] at h6
              exact hb h6
          · rintro ⟨h4, h5⟩
            exact ⟨h4, fun z => h5 (List.mem_append.mpr (Or.inl z))⟩
      · rw [pk_uLn hqp, hc q hq v hv]
        apply decide_eq_decide.mpr
        constructor
        · rintro ⟨h4, h5⟩
          refine ⟨h4, fun z => ?_⟩
          rcases List.mem_append.mp z with z | z
          · exact h5 z
          · obtain ⟨w, hw, _, h7⟩ := (mem_lostL S).mp z
            omega
        · rintro ⟨h4, h5⟩
          exact ⟨h4, fun z => h5 (List.mem_append.mpr (Or.inl z))⟩
    have hle := cntE_le cand P
    by_cases hz2 : cand p &&& ((cand p &&& sy) ^^^ (-1)) = 0
    · rw [if_pos ((lg_cmp_eq _ _).mpr hz2)]
      refine ⟨_, _, _, _, _, _, rfl, rfl, ⟨rfl, h2, h1, hcand, h3, ?_⟩, fun q hq => pk_uLn hq, pk_uLs⟩
      rw [cntE_upd P hp hcp, if_pos hz2]
      exact nI_1 _
    · rw [if_neg (fun z => hz2 ((lg_cmp_eq _ _).mp z))]
      refine ⟨_, _, _, _, _, _, rfl, rfl, ⟨rfl, h2, h1, hcand, h3, ?_⟩, fun q hq => pk_uLn hq, pk_uLs⟩
      rw [cntE_upd P hp hcp, if_neg hz2]
      rfl

