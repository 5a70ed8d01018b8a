/-! unlike: the class and the reference take the same away. -/
def Same (h keep goes : Nat → Int64) (n : Nat) : Prop := ∀ k, k < n → goes k = h k &&& (keep k ^^^ (-1 : Int64))
theorem same_of {h keep goes : Nat → Int64} {n : Nat} (H : ∀ k, k < n → ∀ v, v < 64 → (tb (goes k) v = true ↔ tb (h k) v = true ∧ ¬ tb (keep k) v = true)) : Same h keep goes n := by
  intro k hk
  apply tb_ext
  intro v hv
  rw [tb_and, tb_not hv, Bool.eq_iff_iff, H k hk v hv, Bool.and_eq_true, Bool.not_eq_true']
  simp
theorem fill_loop (N : Nat) {m : Nat} (hm : m < 2 ^ 31) (a : Int64) : ∀ f x g, x ≤ m → m - x < f → ∃ g', q_Arr_fill_6 N m a f (nI x) (nI m) g = some g' ∧ (∀ k, x ≤ k → k < m → g' k = a) ∧ (∀ k, k < x → g' k = g k) := by
  intro f
  induction f with
  | zero => intro x g _ hf; omega
  | succ f ih =>
    intro x g hx hf
    rw [q_Arr_fill_6]
    show ∃ g', (if nI m ≤ nI x then _ else _) = _ ∧ _
    by_cases hc : m ≤ x
    · rw [if_pos (nI_le hc (by omega))]
      exact ⟨g, rfl, fun k h1 h2 => by omega, fun k _ => rfl⟩
    · rw [if_neg (nI_ge (by omega) (by omega)), jin_nI (by omega) (by omega), nI_clamp (by omega), nI_1]
      obtain ⟨g', e1, h1, h2⟩ := ih (x + 1) (vp_updL g x a) (by omega) (by omega)
      refine ⟨g', e1, fun k a1 a2 => ?_, fun k a1 => ?_⟩
      · by_cases he : k = x
        · subst he; rw [h2 k (by omega), pk_uLs]
        · exact h1 k (by omega) a2
      · rw [h2 k (by omega), pk_uLn (by omega)]
theorem arr_fill {N m : Nat} (hN : m < N) (hm : m < 2 ^ 31) (a : Int64) (g : Nat → Int64) : ∃ g', p_Arr_fill N m g a = some g' ∧ ∀ k, k < m → g' k = a := by
  obtain ⟨g', e1, h1, _⟩ := fill_loop N hm a N 0 g (by omega) (by omega)
  exact ⟨g', e1, fun k hk => h1 k (by omega) hk⟩
theorem keepNothing {N : Nat} (hN : 17 ≤ N) (keep : Nat → Int64) : ∃ k', p_Kernel_keepNothing N keep = some k' ∧ ∀ i, i < 16 → k' i = 0 := by
  unfold p_Kernel_keepNothing
  obtain ⟨g', e1, h1⟩ := arr_fill (N := N) (m := 16) (by omega) (by decide) 0 keep
  exact ⟨g', by rw [e1]; rfl, h1⟩
theorem same_nothing {h keep goes : Nat → Int64} {n : Nat} (hn : n ≤ 16) (hk : ∀ i, i < 16 → keep i = 0) (hg : ∀ o, o < n → goes o = h o) : Same h keep goes n := by
  apply same_of
  intro k hkn v hv
  rw [hg k hkn, hk k (by omega), tb_0]
  simp
theorem keep_loop (N : Nat) {n : Nat} (hN : 17 ≤ N) (hn : n ≤ 16) {h : Nat → Int64} {gv : Nat → Nat} {given R ab line : Nat → Int32} {mv : Int32} {used : Int64} (hg : ∀ i, i < n → given i = nI (gv i) ∧ gv i < 60) :
    ∀ f x keep, x ≤ n → n - x < f → ∃ keep', q_Kernel_keepUnlike_34 N h (nI n) f (nI x) keep used mv given ab line R = some (keep', used, mv, given, ab, line, R) ∧ (∀ k, k < x → keep' k = keep k) ∧
      ∀ k, x ≤ k → k < n → ∀ v, v < 64 → (tb (keep' k) v = true ↔ (tb (h k) v = true ∧ ¬ tb used v = true) ∨ (tb (h k) v = true ∧ ∃ q, q < n ∧ gv q = v ∧ ∃ t, t < 32 ∧ bt (R q) t = true ∧ (bt mv t = true ∨ t = k))) := by
  intro f
  induction f with
  | zero => intro x keep _ hf; omega
  | succ f ih =>
    intro x keep hx hf
    rw [q_Kernel_keepUnlike_34]
    show ∃ keep', (if nI n ≤ nI x then _ else _) = _ ∧ _
    by_cases hc : n ≤ x
    · rw [if_pos (nI_le hc (by omega))]
      exact ⟨keep, rfl, fun k _ => rfl, fun k h1 h2 => by omega⟩
    · rw [if_neg (nI_ge (by omega) (by omega)), jin_nI (by omega) (by omega), nI_clamp (by omega)]
      unfold p_Giving_possible
      obtain ⟨y', e1, h1⟩ := poss_loop N hn (show x < n by omega) (x := h x) (R := R) (mv := mv) hg N 0 (h x &&& (used ^^^ (-1 : Int64))) (by omega) (by omega)
      rw [show (0 : Int32) = nI 0 from rfl, e1, Option.bind_some, jin_nI (by omega) (by omega), nI_1]
      obtain ⟨keep', e2, h2, h3⟩ := ih (x + 1) (vp_updL keep x y') (by omega) (by omega)
      refine ⟨keep', e2, fun k hk => ?_, fun k hk1 hk2 v hv => ?_⟩
      · rw [h2 k (by omega), pk_uLn (by omega)]
      · by_cases he : k = x
        · subst he
          rw [h2 k (by omega), pk_uLs, h1 v hv, tb_and, tb_not hv, Bool.and_eq_true, Bool.not_eq_true', Bool.not_eq_true]
          constructor
          · rintro (a | ⟨a, q, _, b⟩)
            · exact Or.inl a
            · exact Or.inr ⟨a, q, b⟩
          · rintro (a | ⟨a, q, b⟩)
            · exact Or.inl a
            · exact Or.inr ⟨a, q, Nat.zero_le _, b⟩
        · exact h3 k (by omega) hk2 v hv
/-- a set of places as a number -/
theorem set_num (A : Nat → Bool) : ∀ n, ∃ s, s < 2 ^ n ∧ ∀ i, i < n → SB s i = A i := by
  intro n
  induction n with
  | zero => exact ⟨0, by decide, fun i hi => absurd hi (Nat.not_lt_zero _)⟩
  | succ n ih =>
    obtain ⟨s, h1, h2⟩ := ih
    refine ⟨2 ^ n * (if A n = true then 1 else 0) + s, ?_, fun i hi => ?_⟩
    · rw [Nat.pow_succ]
      split <;> omega
    · unfold SB
      rw [Nat.testBit_two_pow_mul_add _ h1]
      by_cases hin : i < n
      · rw [if_pos hin]; exact h2 i hin
      · rw [if_neg hin, show i - n = 0 by omega, show i = n by omega]
        cases A n <;> rfl
theorem un_congr {h : Nat → Int64} {A B : Nat → Bool} {n : Nat} (H : ∀ i, i < n → A i = B i) (v : Nat) : un h A n v = un h B n v := by
  rw [Bool.eq_iff_iff, un_iff, un_iff]
  constructor
  · rintro ⟨i, hi, a, b⟩; exact ⟨i, hi, by rw [← H i hi]; exact a, b⟩
  · rintro ⟨i, hi, a, b⟩; exact ⟨i, hi, by rw [H i hi]; exact a, b⟩
theorem few_num {h : Nat → Int64} {n : Nat} (hF : Few h n) : ∃ t, 0 < t ∧ t < 2 ^ n ∧ FewS h n t := by
  obtain ⟨A, hA⟩ := hF
  obtain ⟨s, h1, h2⟩ := set_num A n
  have e : cnt (SB s) n = cnt A n := cnt_congr n h2
  have e2 : cnt (un h (SB s) n) 60 = cnt (un h A n) 60 := cnt_congr 60 (fun v _ => un_congr h2 v)
  refine ⟨s, ?_, h1, by unfold FewS; omega⟩
  apply Classical.byContradiction
  intro h0
  have : s = 0 := by omega
  subst this
  have e3 : ∀ m, cnt (SB 0) m = 0 := by
    intro m
    induction m with
    | zero => rfl
    | succ m ih => rw [cnt_s, ih, show SB 0 m = false from Nat.zero_testBit m]; rfl
  rw [e3] at e
  omega
theorem unlike_both {N : Nat} (hN : 65538 ≤ N) {h : Nat → Int64} {n : Nat} (hn : n ≤ 16) (hb : ∀ i, i < n → ∀ v, tb (h i) v = true → v < 60) (keep : Nat → Int64) (mv : Int32) (given ab line R : Nat → Int32) (g U : Nat → Int64) (hg0 : ∀ o, o < n → g o = 0) :
    ∃ keep' u' mv' given' ab' line' R' g' U', p_Kernel_keepUnlike N h keep mv given ab line R (nI n) = some (keep', u', mv', given', ab', line', R') ∧ p_Mo_unlike N h g U (nI n) = some (g', U') ∧ Same h keep' g' n := by
  obtain ⟨g', U', eM, hM⟩ := mo_unlike hN hn hb g U
  unfold p_Kernel_keepUnlike
  rcases giveAll (show 18 ≤ N by omega) hn hb given ab line with ⟨u', gi', ab', line', gv, e1, hMat⟩ | ⟨hF, u', gi', ab', line', e1⟩
  · rw [e1, Option.bind_some]
    show ∃ keep' u' mv' given' ab' line' R' g' U', (if (1 : Int32) = 0 then _ else _) = _ ∧ _
    rw [if_neg (show ¬ (1 : Int32) = 0 by decide)]
    have hg : ∀ i, i < n → gi' i = nI (gv i) ∧ gv i < 60 := fun i hi => ⟨(hMat.1 i hi).1, (hMat.1 i hi).2.1⟩
    obtain ⟨mv', R', e2, hR, hmv⟩ := find_all N (by omega) hn (h := h) u' hg R
    rw [e2, Option.bind_some]
    obtain ⟨keep', e3, _, h3⟩ := keep_loop N (by omega) hn (h := h) (R := R') (ab := ab') (line := line') (mv := mv') (used := u') hg N 0 keep (by omega) (by omega)
    refine ⟨_, _, _, _, _, _, _, g', U', e3, eM, ?_⟩
    apply same_of
    intro k hk v hv
    rw [h3 k (by omega) hk v hv]
    rcases hM with ⟨⟨t, _, _, hFt⟩, _⟩ | ⟨_, hM⟩
    · unfold FewS at hFt
      have := mat_not_few hMat (SB t)
      omega
    rw [hM k hk v hv, hg0 k hk, tb_0]
    obtain ⟨r1, r2, r3, r4⟩ := hR
    constructor
    · rintro (a | ⟨t, t0, t1, tT, tk, hkv, hu⟩)
      · cases a
      refine ⟨hkv, ?_⟩
      have hv60 := hb k hk v hkv
      obtain ⟨i, hi, iT, igv⟩ := mat_tight hMat tT hv60 hu
      rintro (⟨_, a⟩ | ⟨_, q, hq, qgv, w, hw, wR, wm⟩)
      · exact a ((hMat.2.2 v hv).mpr ⟨i, hi, igv⟩)
      · have hqi : q = i := hMat.2.1 q i hq hi (by rw [qgv, igv])
        subst hqi
        have hwn := r1 q w hq hw wR
        have hwT : SB t w = true := r4 (fun a => SB t a = true) (fun a b ha hb' sa ea => by
          obtain ⟨j, hj, jT, jgv⟩ := mat_tight hMat tT (hg b hb').2 (un_iff.mpr ⟨a, ha, sa, ea⟩)
          have : j = b := hMat.2.1 j b hj hb' jgv
          subst this
          exact jT) q w hq hwn iT wR
        rcases wm with wm | wm
        · rw [hmv w hw, decide_eq_true_eq] at wm
          apply wm.2
          rw [tb_zero]
          intro y hy
          rw [tb_and, tb_not hy]
          cases hwy : tb (h w) y with
          | false => rfl
          | true =>
            obtain ⟨j, hj, jT, jgv⟩ := mat_tight hMat tT (hb w hwn y hwy) (un_iff.mpr ⟨w, hwn, hwT, hwy⟩)
            rw [(hMat.2.2 y hy).mpr ⟨j, hj, jgv⟩]
            rfl
        · subst wm
          rw [hwT] at tk
          cases tk
    · rintro ⟨hkv, hno⟩
      refine Or.inr ?_
      have hused : tb u' v = true := Classical.byContradiction (fun z => hno (Or.inl ⟨hkv, z⟩))
      obtain ⟨q, hq, qgv⟩ := (hMat.2.2 v hv).mp hused
      have hnt : ∀ w, w < 32 → bt (R' q) w = true → ¬ (bt mv' w = true ∨ w = k) := fun w hw wR wm => hno (Or.inr ⟨hkv, q, hq, qgv, w, hw, wR, wm⟩)
      obtain ⟨s, s1, s2⟩ := set_num (fun i => bt (R' q) i) n
      have hqq : bt (R' q) q = true := r2 q q hq hq (hMat.1 q hq).2.2
      have hle : cnt (un h (SB s) n) 60 ≤ cnt (SB s) n := by
        have hch : ∀ y, ∃ j, y < 60 → un h (SB s) n y = true → j < n ∧ SB s j = true ∧ gv j = y := by
          intro y
          by_cases hy : y < 60 ∧ un h (SB s) n y = true
          · obtain ⟨i, hi, iS, iy⟩ := un_iff.mp hy.2
            rw [s2 i hi] at iS
            have hmi : ¬ bt mv' i = true := fun z => hnt i (by omega) iS (Or.inl z)
            have hz : h i &&& (u' ^^^ (-1 : Int64)) = 0 := by
              apply Classical.byContradiction
              intro z
              apply hmi
              rw [hmv i (by omega), decide_eq_true_eq]
              exact ⟨hi, z⟩
            have := (tb_zero.mp hz) y (by omega)
            rw [tb_and, tb_not (by omega), iy, Bool.true_and, Bool.not_eq_false'] at this
            obtain ⟨j, hj, jgv⟩ := (hMat.2.2 y (by omega)).mp this
            refine ⟨j, fun _ _ => ⟨hj, ?_, jgv⟩⟩
            rw [s2 j hj]
            exact r3 q i j hq hi hi hj iS (r2 i j hi hj (by show tb (h i) (gv j) = true; rw [jgv]; exact iy))
          · exact ⟨0, fun a b => absurd ⟨a, b⟩ hy⟩
        obtain ⟨jf, hjf⟩ := Classical.axiomOfChoice hch
        exact cnt_inj 60 (un h (SB s) n) (SB s) n jf (fun y hy uy => ⟨(hjf y hy uy).1, (hjf y hy uy).2.1⟩) (fun a b ha hb' ua ub e => by
          rw [← (hjf a ha ua).2.2, ← (hjf b hb' ub).2.2, e])
      have hge := mat_not_few hMat (SB s)
      refine ⟨s, ?_, s1, by unfold TightS; omega, ?_, hkv, un_iff.mpr ⟨q, hq, by rw [s2 q hq]; exact hqq, by rw [← qgv]; exact (hMat.1 q hq).2.2⟩⟩
      · apply Classical.byContradiction
        intro h0
        have : s = 0 := by omega
        subst this
        have := s2 q hq
        rw [hqq] at this
        have h3 : SB 0 q = false := Nat.zero_testBit q
        rw [h3] at this
        cases this
      · rw [s2 k hk]
        cases hkb : bt (R' q) k with
        | false => rfl
        | true => exact absurd (Or.inr rfl) (hnt k (by omega) hkb)
  · rw [e1, Option.bind_some]
    show ∃ keep' u' mv' given' ab' line' R' g' U', (if (0 : Int32) = 0 then _ else _) = _ ∧ _
    rw [if_pos rfl]
    obtain ⟨k', e2, h2⟩ := keepNothing (show 17 ≤ N by omega) keep
    rw [e2, Option.bind_some]
    refine ⟨_, _, _, _, _, _, _, g', U', rfl, eM, ?_⟩
    rcases hM with ⟨_, hM⟩ | ⟨hM, _⟩
    · exact same_nothing hn h2 hM
    · obtain ⟨t, t0, t1, t2⟩ := few_num hF
      exact absurd t2 (hM t t0 t1)

