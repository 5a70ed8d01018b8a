/-! Giving: one newcomer, then all. -/
theorem few_line {h : Nat → Int64} {gv : Nat → Nat} {n w e : Nat} {li : Nat → Nat} {asked : Int32} {ab line : Nat → Int32} (hwn : w < n) (hb : ∀ i, i < n → ∀ v, tb (h i) v = true → v < 60) {used : Int64} {given : Nat → Int32} (hM : Mat h w used given gv) (hL : LineOK h gv w e li asked ab line) (hp : ∀ k, k < e → (∀ v, v < 64 → tb (h (li k)) v = true → tb used v = true) ∧ ∀ q, q < w → tb (h (li k)) (gv q) = true → ∃ k', k' < e ∧ li k' = q) : Few h n := by
  obtain ⟨l1, l2, l3, l4, l5, l6, l7, l8⟩ := hL
  have hlw : ∀ k, k < e → li k ≤ w := fun k hk => by
    by_cases hk0 : k = 0
    · rw [hk0, l3]; omega
    · have := l4 k (by omega) hk; omega
  have hAdec : ∀ i, (List.range e).any (fun k => li k == i) = true ↔ ∃ k, k < e ∧ li k = i := by
    intro i
    rw [List.any_eq_true]
    constructor
    · rintro ⟨k, hk, z⟩
      exact ⟨k, List.mem_range.mp hk, by simpa using z⟩
    · rintro ⟨k, hk, z⟩
      exact ⟨k, List.mem_range.mpr hk, by simpa using z⟩
  refine ⟨fun i => (List.range e).any (fun k => li k == i), ?_⟩
  have hAw : (fun i => (List.range e).any (fun k => li k == i)) w = true := (hAdec w).mpr ⟨0, l1, l3⟩
  rw [cnt_rem (f := fun i => (List.range e).any (fun k => li k == i)) hAw n hwn]
  have key : ∀ v, ∃ o, un h (fun i => (List.range e).any (fun k => li k == i)) n v = true → o < w ∧ gv o = v ∧ ∃ k, k < e ∧ li k = o := by
    intro v
    by_cases hv : un h (fun i => (List.range e).any (fun k => li k == i)) n v = true
    · obtain ⟨i, hi, h1, h2⟩ := un_iff.mp hv
      obtain ⟨k, hk, rfl⟩ := (hAdec i).mp h1
      have hv60 := hb _ hi v h2
      have hu := (hp k hk).1 v (by omega) h2
      obtain ⟨o, ho, e1⟩ := (hM.2.2 v (by omega)).mp hu
      refine ⟨o, fun _ => ⟨ho, e1, (hp k hk).2 o ho (by rw [e1]; exact h2)⟩⟩
    · exact ⟨0, fun z => absurd z hv⟩
  obtain ⟨g, hg⟩ := Classical.axiomOfChoice key
  have := cnt_inj 60 (un h (fun i => (List.range e).any (fun k => li k == i)) n) (fun x => (List.range e).any (fun k => li k == x) && !decide (x = w)) n g (fun v _ hv => by
    obtain ⟨z1, z2, z3⟩ := hg v hv
    refine ⟨by omega, ?_⟩
    show ((List.range e).any (fun k => li k == g v) && !decide (g v = w)) = true
    rw [(hAdec (g v)).mpr z3, decide_eq_false (by omega)]
    rfl) (fun v v' _ _ hv hv' e1 => by
    have z1 := (hg v hv).2.1
    have z2 := (hg v' hv').2.1
    rw [← z1, ← z2, e1])
  omega
theorem give_outer (N : Nat) {h : Nat → Int64} {gv : Nat → Nat} {n w : Nat} (hN : 17 ≤ N) (hn16 : n ≤ 16) (hwn : w < n) (hb : ∀ i, i < n → ∀ v, tb (h i) v = true → v < 60) {used : Int64} {given : Nat → Int32} (hM : Mat h w used given gv) :
    ∀ f a e li asked ab line, 16 - a < f → a ≤ e → LineOK h gv w e li asked ab line → (∀ k, k < a → (∀ v, v < 64 → tb (h (li k)) v = true → tb used v = true) ∧ ∀ q, q < w → tb (h (li k)) (gv q) = true → ∃ k', k' < e ∧ li k' = q) →
      (∃ u' g' ab' line' gv', q_Giving_give_17 N h (nI w) f (nI e) asked (nI a) used given ab line = some (1, u', g', ab', line') ∧ Mat h (w + 1) u' g' gv') ∨ (Few h n ∧ ∃ ab' line', q_Giving_give_17 N h (nI w) f (nI e) asked (nI a) used given ab line = some (0, used, given, ab', line')) := by
  intro f
  induction f with
  | zero => intro a e li asked ab line hf; omega
  | succ f ih =>
    intro a e li asked ab line hf hae hL hp
    have hL0 := hL
    obtain ⟨l1, l2, l3, l4, l5, l6, l7, l8⟩ := hL
    have hlw : ∀ k, k < e → li k ≤ w := fun k hk => by
      by_cases hk0 : k = 0
      · rw [hk0, l3]; omega
      · have := l4 k (by omega) hk; omega
    rw [q_Giving_give_17]
    show (∃ u' g' ab' line' gv', (if nI e ≤ nI a then _ else _) = _ ∧ _) ∨ (_ ∧ ∃ ab' line', (if nI e ≤ nI a then _ else _) = _)
    by_cases hc : e ≤ a
    · rw [if_pos (nI_le hc (by omega))]
      exact Or.inr ⟨few_line hwn hb hM hL0 (fun k hk => by
        have := hp k (by omega)
        exact this), _, _, rfl⟩
    · rw [if_neg (nI_ge (by omega) (by omega)), if_neg (nI_ge (by omega) (by decide)), jin_nI (by omega) (by decide), nI_clamp (by omega), l6 a (by omega)]
      have hla := hlw a (by omega)
      rw [jin_nI (by omega) (by decide), nI_clamp (by omega)]
      by_cases hz : h (li a) &&& (used ^^^ (-1)) = 0
      · rw [if_pos ((lg_cmp_eq _ _).mpr hz)]
        obtain ⟨e', li', asked', ab', line', z1, z2, z3, z4, z5⟩ := give_inner N (h := h) (gv := gv) (w := w) (a := a) (pl := li a) (by omega) (by omega) (used := used) (given := given) (fun i hi => ⟨(hM.1 i hi).1, (hM.1 i hi).2.1⟩) (q_Giving_give_17 N h (nI w) f) N 0 e li asked ab line (by omega) (by omega) hL0 (by omega) rfl (fun q hq => absurd hq (Nat.not_lt_zero _))
        rw [show (0 : Int32) = nI 0 from rfl, z1]
        refine ih (a + 1) e' li' asked' ab' line' (by omega) (by omega) z4 (fun k hk => ?_)
        rw [z3 k (by omega)]
        by_cases hka : k = a
        · subst hka
          refine ⟨fun v hv ht => ?_, z5⟩
          have := tb_zero.mp hz v hv
          rw [tb_and, tb_not hv, ht, Bool.true_and] at this
          simpa using this
        · obtain ⟨y1, y2⟩ := hp k (by omega)
          refine ⟨y1, fun q hq ht => ?_⟩
          obtain ⟨k', hk', y3⟩ := y2 q hq ht
          exact ⟨k', by omega, by rw [z3 k' hk']; exact y3⟩
      · rw [if_neg (fun z => hz ((lg_cmp_eq _ _).mp z))]
        obtain ⟨i, hi, hti⟩ : ∃ i, i < 64 ∧ tb (h (li a) &&& (used ^^^ (-1))) i = true := by
          apply Classical.byContradiction
          intro hno
          apply hz
          rw [tb_zero]
          intro i hi
          cases hh : tb (h (li a) &&& (used ^^^ (-1))) i with
          | false => rfl
          | true => exact absurd ⟨i, hi, hh⟩ hno
        obtain ⟨s, hs, hs1, hs2⟩ := least_bit (tb (h (li a) &&& (used ^^^ (-1)))) 64 ⟨i, hi, hti⟩
        have hs3 := hs1
        rw [tb_and, tb_not hs, Bool.and_eq_true] at hs3
        have hs60 := hb (li a) (by omega) s hs3.1
        have hnu : ¬ tb used s = true := by
          have := hs3.2
          simpa using this
        unfold q_Giving_give_64
        rw [ntz64 N hs hs1 hs2, Option.bind_some]
        unfold p_Giving_moveOn
        obtain ⟨t', g', y1, y2⟩ := moveOn_loop N (h := h) (gv := gv) (w := w) (by omega) hL0 (used := used ||| j_lshl 1 (nI s)) N a 0 given gv s (by omega) (by omega) (by omega) hM.1 hM.2.1 (fun i hi e1 => hnu ((hM.2.2 s hs).mpr ⟨i, hi, e1⟩)) hs60 hs3.1 (fun _ _ _ => rfl) (fun v hv => by
          rw [note_bits hs hv, Bool.or_eq_true, decide_eq_true_eq, hM.2.2 v hv]
          constructor
          · rintro (z | z)
            · exact Or.inr z
            · exact Or.inl z
          · rintro (z | z)
            · exact Or.inr z
            · exact Or.inl z)
        refine Or.inl ⟨used ||| j_lshl 1 (nI s), t', ab, line, g', ?_, y2⟩
        rw [show (0 : Int32) = nI 0 from rfl, y1]
        rfl
theorem give_one {N : Nat} {h : Nat → Int64} {gv : Nat → Nat} {n w : Nat} (hN : 18 ≤ N) (hn16 : n ≤ 16) (hwn : w < n) (hb : ∀ i, i < n → ∀ v, tb (h i) v = true → v < 60) {used : Int64} {given : Nat → Int32} (hM : Mat h w used given gv) (ab line : Nat → Int32) :
    (∃ u' g' ab' line' gv', p_Giving_give N used given ab line h (nI w) = some (1, u', g', ab', line') ∧ Mat h (w + 1) u' g' gv') ∨ (Few h n ∧ ∃ ab' line', p_Giving_give N used given ab line h (nI w) = some (0, used, given, ab', line')) := by
  unfold p_Giving_give
  rw [show (0 : Int32) = nI 0 from rfl, jin_nI (by decide) (by decide), nI_clamp (by decide)]
  have hL : LineOK h gv w 1 (fun _ => w) ((1 : Int32) <<< (nI w &&& 31)) ab (upd line 0 (nI w)) := by
    refine ⟨by omega, by omega, rfl, fun k h1 h2 => by omega, fun i j hi hj _ => by omega, fun k hk => ?_, fun o ho => ?_, fun k h1 h2 => by omega⟩
    · rw [show k = 0 by omega, ud_s]
    · rw [bt_bit (by omega) (by omega), decide_eq_true_eq]
      constructor
      · intro z; omega
      · rintro ⟨k, _, z⟩; have z : w = o := z; omega
  exact give_outer N (by omega) hn16 hwn hb hM N 0 1 _ _ _ _ (by omega) (by omega) hL (fun k hk => absurd hk (Nat.not_lt_zero _))
theorem giveAll_loop {N : Nat} {h : Nat → Int64} {n : Nat} (hN : 18 ≤ N) (hn16 : n ≤ 16) (hb : ∀ i, i < n → ∀ v, tb (h i) v = true → v < 60) :
    ∀ f w used given ab line gv, n - w < f → w ≤ n → Mat h w used given gv →
      (∃ u' g' ab' line' gv', q_Giving_giveAll_7 N h (nI n) f (nI w) used given ab line = some (1, u', g', ab', line') ∧ Mat h n u' g' gv') ∨ (Few h n ∧ ∃ u' g' ab' line', q_Giving_giveAll_7 N h (nI n) f (nI w) used given ab line = some (0, u', g', ab', line')) := by
  intro f
  induction f with
  | zero => intro w used given ab line gv hf; omega
  | succ f ih =>
    intro w used given ab line gv hf hw hM
    rw [q_Giving_giveAll_7]
    show (∃ u' g' ab' line' gv', (if nI n ≤ nI w then _ else _) = _ ∧ _) ∨ (_ ∧ ∃ u' g' ab' line', (if nI n ≤ nI w then _ else _) = _)
    by_cases hc : n ≤ w
    · have : w = n := by omega
      subst this
      rw [if_pos (nI_le hc (by omega))]
      exact Or.inl ⟨_, _, _, _, gv, rfl, hM⟩
    · rw [if_neg (nI_ge (by omega) (by omega))]
      rcases give_one hN hn16 (show w < n by omega) hb hM ab line with ⟨u', g', ab', line', gv', e1, h1⟩ | ⟨hF, ab', line', e1⟩
      · rw [e1, Option.bind_some]
        show (∃ u' g' ab' line' gv', (if (1 : Int32) = 0 then _ else _) = _ ∧ _) ∨ (_ ∧ ∃ u' g' ab' line', (if (1 : Int32) = 0 then _ else _) = _)
        rw [if_neg (show ¬ (1 : Int32) = 0 by decide), nI_1]
        exact ih (w + 1) u' g' ab' line' gv' (by omega) (by omega) h1
      · rw [e1, Option.bind_some]
        refine Or.inr ⟨hF, used, given, ab', line', ?_⟩
        show (if (0 : Int32) = 0 then _ else _) = _
        rw [if_pos rfl]
theorem giveAll {N : Nat} {h : Nat → Int64} {n : Nat} (hN : 18 ≤ N) (hn16 : n ≤ 16) (hb : ∀ i, i < n → ∀ v, tb (h i) v = true → v < 60) (given ab line : Nat → Int32) :
    (∃ u' g' ab' line' gv', p_Giving_giveAll N given ab line h (nI n) = some (1, u', g', ab', line') ∧ Mat h n u' g' gv') ∨ (Few h n ∧ ∃ u' g' ab' line', p_Giving_giveAll N given ab line h (nI n) = some (0, u', g', ab', line')) := by
  unfold p_Giving_giveAll
  exact giveAll_loop hN hn16 hb N 0 0 given ab line (fun _ => 0) (by omega) (by omega) ⟨fun i hi => absurd hi (Nat.not_lt_zero _), fun i j hi => absurd hi (Nat.not_lt_zero _), fun v _ => ⟨fun z => (by rw [tb_0] at z; cases z), fun ⟨i, hi, _⟩ => absurd hi (Nat.not_lt_zero _)⟩⟩
/-- no Few where all are given -/
theorem mat_not_few {h : Nat → Int64} {n : Nat} {used : Int64} {given : Nat → Int32} {gv : Nat → Nat} (hM : Mat h n used given gv) (A : Nat → Bool) : cnt A n ≤ cnt (un h A n) 60 :=
  cnt_inj n A (un h A n) 60 gv (fun i hi hA => ⟨(hM.1 i hi).2.1, un_iff.mpr ⟨i, hi, hA, (hM.1 i hi).2.2⟩⟩) (fun i j hi hj _ _ e => hM.2.1 i j hi hj e)
/-- where as many symbols as places are, each is given to one of them -/
theorem mat_tight {h : Nat → Int64} {n : Nat} {used : Int64} {given : Nat → Int32} {gv : Nat → Nat} (hM : Mat h n used given gv) {A : Nat → Bool} (ht : cnt (un h A n) 60 = cnt A n) {v : Nat} (hv : v < 60) (hu : un h A n v = true) : ∃ i, i < n ∧ A i = true ∧ gv i = v :=
  cnt_surj (S := A) (V := un h A n) (g := gv) (fun i hi hA => ⟨(hM.1 i hi).2.1, un_iff.mpr ⟨i, hi, hA, (hM.1 i hi).2.2⟩⟩) (fun i j hi hj _ _ e => hM.2.1 i j hi hj e) (by omega) hv hu

