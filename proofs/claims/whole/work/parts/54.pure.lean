/-! unlike, in the reference: every set of places in turn. -/
def SB (s : Nat) : Nat → Bool := fun i => s.testBit i
theorem sl5 : ∀ n, n < 32 → ((nI n &&& 31).toBitVec.smod 32).toNat = n := by decide +kernel
theorem sbit {s k : Nat} (hs : s < 2 ^ 31) (hk : k < 32) : (nI s >>> (nI k &&& 31)) &&& (1 : Int32) = nI (if SB s k = true then 1 else 0) := by
  rw [pk_shrN hs _ k (sl5 k hk), pk_andN (k := 1) (by have := Nat.div_le_self s (2 ^ k); omega) (by decide)]
  unfold SB
  rw [Nat.testBit_eq_decide_div_mod_eq]
  have := Nat.mod_two_eq_zero_or_one (s / 2 ^ k)
  rcases this with h | h
  · simp [h]
  · simp [h]
theorem pow2s : ∀ n, n < 17 → (1 : Int32) <<< (nI n &&& 31) = nI (2 ^ n) := by decide +kernel
theorem bt_nI {s i : Nat} (hs : s < 2 ^ 32) : bt (nI s) i = s.testBit i := by rw [bt_toNat, pk_tn hs]
theorem nI_and {a b : Nat} (ha : a < 2 ^ 32) (hb : b < 2 ^ 32) : nI a &&& nI b = nI (a &&& b) := by
  apply bt_ext
  intro i hi
  have : a &&& b < 2 ^ 32 := Nat.and_lt_two_pow _ hb
  rw [bt_and, bt_nI ha, bt_nI hb, bt_nI this, Nat.testBit_and]
theorem nat_low2 (v k : Nat) (h1 : v.testBit k = true) (h2 : ∀ j, j < k → v.testBit j = false) (i : Nat) : (v &&& (v - 1)).testBit i = (v.testBit i && !decide (i = k)) := by
  have hm : v % 2 ^ k = 0 := by
    apply Nat.eq_of_testBit_eq
    intro j
    rw [Nat.testBit_mod_two_pow, Nat.zero_testBit]
    by_cases hj : j < k
    · simp [h2 j hj]
    · simp [hj]
  have hv : v = 2 ^ k * (v / 2 ^ k) := by
    have := Nat.div_add_mod v (2 ^ k)
    omega
  have ho : (v / 2 ^ k) % 2 = 1 := by
    have h := h1
    rw [Nat.testBit_eq_decide_div_mod_eq] at h
    simpa using h
  obtain ⟨b, hb⟩ : ∃ b, v / 2 ^ k = 2 * b + 1 := ⟨v / 2 ^ k / 2, by omega⟩
  rw [hb] at hv
  have hp : 0 < 2 ^ k := Nat.two_pow_pos k
  have hv1 : v - 1 = 2 ^ k * (2 * b) + (2 ^ k - 1) := by
    rw [hv, Nat.mul_add]
    omega
  have hv0 : v = 2 ^ k * (2 * b + 1) + 0 := by omega
  rw [Nat.testBit_and]
  by_cases hi : i < k
  · rw [h2 i hi]; rfl
  · rw [hv1, Nat.testBit_two_pow_mul_add _ (by omega), hv0, Nat.testBit_two_pow_mul_add _ (by omega)]
    simp only [hi, if_false]
    obtain ⟨d, hd⟩ : ∃ d, i = k + d := ⟨i - k, by omega⟩
    subst hd
    rw [show k + d - k = d by omega]
    cases d with
    | zero => simp
    | succ d =>
      rw [Nat.testBit_succ, Nat.testBit_succ, show (2 * b + 1) / 2 = b by omega, show 2 * b / 2 = b by omega]
      simp
theorem count_loop (N : Nat) (x : Int64) : ∀ f k c, 60 - k < f → k ≤ 60 → c = cnt (tb x) k → q_Mo_countOf_4 N x f (nI c) (nI k) = some (nI (cnt (tb x) 60)) := by
  intro f
  induction f with
  | zero => intro k c hf; omega
  | succ f ih =>
    intro k c hf hk hc
    rw [q_Mo_countOf_4]
    show (if nI 60 ≤ nI k then _ else _) = _
    by_cases h : 60 ≤ k
    · rw [if_pos (nI_le h (by omega)), hc, show k = 60 by omega]
    · rw [if_neg (nI_ge (by omega) (by omega)), mo_has N x (show k < 64 by omega), Option.bind_some]
      unfold q_Mo_countOf_24
      by_cases hb : tb x k = true
      · rw [if_pos hb, if_neg (show ¬ (1 : Int32) = 0 by decide), nI_1, nI_1]
        exact ih (k + 1) (c + 1) (by omega) (by omega) (by rw [cnt_s, if_pos hb, hc])
      · rw [if_neg hb, if_pos rfl, nI_1, show nI c + 0 = nI c from nI_add c 0]
        exact ih (k + 1) c (by omega) (by omega) (by rw [cnt_s, if_neg hb, hc, Nat.add_zero])
theorem mo_countOf {N : Nat} (hN : 61 ≤ N) (x : Int64) : p_Mo_countOf N x = some (nI (cnt (tb x) 60)) := count_loop N x N 0 0 (by omega) (by omega) rfl
abbrev UK : Type := Int32 → Int32 → (Nat → Int64) → (Nat → Int64) → Option ((Nat → Int64) × (Nat → Int64))
theorem ul_21 (N : Nat) {h : Nat → Int64} {a1 : Int32} (K : UK) {s l : Nat} (hs : s < 2 ^ 31) (hl : l < 32) (h1 : SB s l = true) (h2 : ∀ j, j < l → SB s j = false) (x2 : Int32) (g U : Nat → Int64) :
    ∀ f x, x ≤ l → l - x < f → q_Mo_unlike_21 N h a1 K f x2 (nI s) (nI x) g U = q_Mo_unlike_36 N h a1 K x2 (nI s) (nI l) g U := by
  intro f
  induction f with
  | zero => intro x _ hf; omega
  | succ f ih =>
    intro x hx hf
    rw [q_Mo_unlike_21]
    show (if (nI s >>> (nI x &&& 31)) &&& (1 : Int32) = 0 then _ else _) = _
    rw [sbit hs (by omega)]
    by_cases he : x = l
    · subst he
      rw [if_pos h1, if_neg (show ¬ nI 1 = 0 by decide)]
    · rw [h2 x (by omega), if_neg (show ¬ false = true by decide), if_pos (show nI 0 = 0 by decide), nI_1]
      exact ih (x + 1) (by omega) (by omega)
theorem ul_67 (N : Nat) {h : Nat → Int64} {n : Nat} (hn : n ≤ 16) (K : UK) {s : Nat} (hs : s < 2 ^ 31) (x2 : Int32) (g U : Nat → Int64) :
    ∀ f x c, x ≤ n → n - x < f → c = cnt (SB s) x → q_Mo_unlike_67 N h (nI n) K f x2 (nI s) (nI c) (nI x) g U = q_Mo_unlike_90 N h (nI n) K x2 (nI s) (nI (cnt (SB s) n)) g U := by
  intro f
  induction f with
  | zero => intro x c _ hf; omega
  | succ f ih =>
    intro x c hx hf hc
    rw [q_Mo_unlike_67]
    show (if nI n ≤ nI x then _ else _) = _
    by_cases hcc : n ≤ x
    · rw [if_pos (nI_le hcc (by omega)), hc, show x = n by omega]
    · rw [if_neg (nI_ge (by omega) (by omega)), sbit hs (by omega), nI_add, nI_1]
      exact ih (x + 1) _ (by omega) (by omega) (by rw [cnt_s, hc])
theorem ul_121 (N : Nat) {h : Nat → Int64} {n : Nat} (hn : n ≤ 16) (K : UK) {s m c : Nat} (hs : s < 65536) (hm : m < 2 ^ 31) (hc : c < 2 ^ 31) (x2 : Int32) (U : Nat → Int64) :
    ∀ f x g, x ≤ n → n - x < f → ∃ g', q_Mo_unlike_121 N h (nI n) K f x2 (nI s) (nI m) (nI c) (nI x) g U = K x2 (nI (s + 1)) g' U ∧ ∀ o, o < n → g' o = if x ≤ o ∧ c = m ∧ SB s o = false then g o ||| (h o &&& U s) else g o := by
  intro f
  induction f with
  | zero => intro x g _ hf; omega
  | succ f ih =>
    intro x g hx hf
    rw [q_Mo_unlike_121]
    show ∃ g', (if nI n ≤ nI x then _ else _) = _ ∧ _
    by_cases hcc : n ≤ x
    · rw [if_pos (nI_le hcc (by omega))]
      unfold q_Mo_unlike_178
      rw [nI_1]
      exact ⟨g, rfl, fun o ho => by rw [if_neg (by omega)]⟩
    · rw [if_neg (nI_ge (by omega) (by omega))]
      by_cases he : c = m
      · subst he
        rw [if_pos rfl, sbit (by omega) (by omega)]
        by_cases hb : SB s x = true
        · rw [if_pos hb, if_neg (show ¬ nI 1 = 0 by decide)]
          unfold q_Mo_unlike_172
          rw [nI_1]
          obtain ⟨g', e1, h1⟩ := ih (x + 1) g (by omega) (by omega)
          refine ⟨g', e1, fun o ho => ?_⟩
          rw [h1 o ho]
          by_cases hox : o = x
          · subst hox
            rw [if_neg (by omega), if_neg (by rw [hb]; intro z; cases z.2.2)]
          · by_cases h3 : x ≤ o
            · by_cases h4 : SB s o = false
              · rw [if_pos ⟨by omega, rfl, h4⟩, if_pos ⟨h3, rfl, h4⟩]
              · rw [if_neg (fun z => h4 z.2.2), if_neg (fun z => h4 z.2.2)]
            · rw [if_neg (by omega), if_neg (by omega)]
        · have hb : SB s x = false := by simpa using hb
          rw [hb, if_neg (show ¬ false = true by decide), if_pos (show nI 0 = 0 by decide), jin_nI (by omega) (by decide), jin_nI (by omega) (by decide), jin_nI (by omega) (by decide), jin_nI (by omega) (by decide), nI_clamp (by omega), nI_clamp (by omega)]
          unfold q_Mo_unlike_172
          rw [nI_1]
          obtain ⟨g', e1, h1⟩ := ih (x + 1) (vp_updL g x (g x ||| (h x &&& U s))) (by omega) (by omega)
          refine ⟨g', e1, fun o ho => ?_⟩
          rw [h1 o ho]
          by_cases hox : o = x
          · subst hox
            rw [if_neg (by omega), if_pos ⟨Nat.le_refl _, rfl, hb⟩, pk_uLs]
          · rw [pk_uLn hox]
            by_cases h3 : x ≤ o
            · by_cases h4 : SB s o = false
              · rw [if_pos ⟨by omega, rfl, h4⟩, if_pos ⟨h3, rfl, h4⟩]
              · rw [if_neg (fun z => h4 z.2.2), if_neg (fun z => h4 z.2.2)]
            · rw [if_neg (by omega), if_neg (by omega)]
      · rw [if_neg (fun z => he ((nI_eq hc hm).mp z))]
        unfold q_Mo_unlike_178
        rw [nI_1]
        exact ⟨g, rfl, fun o ho => by rw [if_neg (fun z => he z.2.1)]⟩
theorem ul_186 (N : Nat) {h : Nat → Int64} {n : Nat} (hn : n ≤ 16) (U : Nat → Int64) :
    ∀ f x g, x ≤ n → n - x < f → ∃ g', q_Mo_unlike_186 N h (nI n) f 1 (nI x) g U = some (g', U) ∧ ∀ o, o < n → g' o = if x ≤ o then h o else g o := by
  intro f
  induction f with
  | zero => intro x g _ hf; omega
  | succ f ih =>
    intro x g hx hf
    rw [q_Mo_unlike_186]
    show ∃ g', (if nI n ≤ nI x then _ else _) = _ ∧ _
    by_cases hcc : n ≤ x
    · rw [if_pos (nI_le hcc (by omega))]
      exact ⟨g, rfl, fun o ho => by rw [if_neg (by omega)]⟩
    · rw [if_neg (nI_ge (by omega) (by omega)), if_neg (show ¬ (1 : Int32) = 0 by decide), jin_nI (by omega) (by decide), jin_nI (by omega) (by decide), nI_clamp (by omega), nI_1]
      obtain ⟨g', e1, h1⟩ := ih (x + 1) (vp_updL g x (h x)) (by omega) (by omega)
      refine ⟨g', e1, fun o ho => ?_⟩
      rw [h1 o ho]
      by_cases hox : o = x
      · subst hox
        rw [if_neg (by omega), if_pos (Nat.le_refl _), pk_uLs]
      · rw [pk_uLn hox]
        by_cases h3 : x ≤ o
        · rw [if_pos (by omega), if_pos h3]
        · rw [if_neg (by omega), if_neg h3]
/-- the set has fewer symbols than places; as many -/
def FewS (h : Nat → Int64) (n s : Nat) : Prop := cnt (un h (SB s) n) 60 < cnt (SB s) n
def TightS (h : Nat → Int64) (n s : Nat) : Prop := cnt (un h (SB s) n) 60 = cnt (SB s) n
theorem low_of {s n : Nat} (h0 : 0 < s) (hs : s < 2 ^ n) : ∃ l, l < n ∧ SB s l = true ∧ ∀ j, j < l → SB s j = false := by
  apply least_bit (SB s) n
  obtain ⟨i, hi⟩ := Nat.exists_testBit_of_ne_zero (show s ≠ 0 by omega)
  refine ⟨i, ?_, hi⟩
  apply Classical.byContradiction
  intro hc
  have := Nat.testBit_lt_two_pow (Nat.lt_of_lt_of_le hs (Nat.pow_le_pow_right (by decide) (show n ≤ i by omega)))
  rw [this] at hi
  cases hi
theorem un_low {h : Nat → Int64} {n s l v : Nat} (hl : l < n) (h1 : SB s l = true) (h2 : ∀ j, j < l → SB s j = false) : un h (SB s) n v = (un h (SB (s &&& (s - 1))) n v || tb (h l) v) := by
  rw [Bool.eq_iff_iff, Bool.or_eq_true, un_iff, un_iff]
  have hb := fun i => nat_low2 s l h1 h2 i
  constructor
  · rintro ⟨i, hi, a, b⟩
    by_cases he : i = l
    · subst he; exact Or.inr b
    · refine Or.inl ⟨i, hi, ?_, b⟩
      show (s &&& (s - 1)).testBit i = true
      rw [hb i, show s.testBit i = true from a, decide_eq_false he]; rfl
  · rintro (⟨i, hi, a, b⟩ | b)
    · refine ⟨i, hi, ?_, b⟩
      have a : (s &&& (s - 1)).testBit i = true := a
      rw [hb i, Bool.and_eq_true] at a
      exact a.1
    · exact ⟨l, hl, h1, b⟩
theorem ul_11 {N : Nat} (hN : 62 ≤ N) {h : Nat → Int64} {n : Nat} (hn : n ≤ 16) (hb : ∀ i, i < n → ∀ v, tb (h i) v = true → v < 60) (g0 : Nat → Int64) :
    ∀ f s x2 g U, 1 ≤ s → s ≤ 2 ^ n → 2 ^ n - s < f → (∀ t, t < s → ∀ v, v < 64 → tb (U t) v = un h (SB t) n v) → ((x2 = 0 ∧ ∀ t, 0 < t → t < s → ¬ FewS h n t) ∨ (x2 = 1 ∧ ∃ t, 0 < t ∧ t < s ∧ FewS h n t)) →
      (∀ o, o < n → ∀ v, v < 64 → (tb (g o) v = true ↔ tb (g0 o) v = true ∨ ∃ t, 0 < t ∧ t < s ∧ TightS h n t ∧ SB t o = false ∧ tb (h o) v = true ∧ un h (SB t) n v = true)) →
      ∃ g' U', q_Mo_unlike_11 N h (nI n) f x2 (nI s) g U = some (g', U') ∧ (((∃ t, 0 < t ∧ t < 2 ^ n ∧ FewS h n t) ∧ ∀ o, o < n → g' o = h o) ∨ ((∀ t, 0 < t → t < 2 ^ n → ¬ FewS h n t) ∧ ∀ o, o < n → ∀ v, v < 64 → (tb (g' o) v = true ↔ tb (g0 o) v = true ∨ ∃ t, 0 < t ∧ t < 2 ^ n ∧ TightS h n t ∧ SB t o = false ∧ tb (h o) v = true ∧ un h (SB t) n v = true))) := by
  have hp : 2 ^ n ≤ 65536 := Nat.pow_le_pow_right (n := 2) (by decide) hn
  intro f
  induction f with
  | zero => intro s x2 g U _ _ hf; omega
  | succ f ih =>
    intro s x2 g U h1 hs hf hU hx2 hg
    rw [q_Mo_unlike_11]
    show ∃ g' U', (if (1 : Int32) <<< (nI n &&& 31) ≤ nI s then _ else _) = _ ∧ _
    rw [pow2s n (by omega)]
    by_cases hc : 2 ^ n ≤ s
    · rw [if_pos (nI_le hc (by omega))]
      have : s = 2 ^ n := by omega
      subst this
      unfold q_Mo_unlike_184
      rcases hx2 with ⟨rfl, hx⟩ | ⟨rfl, hx⟩
      · refine ⟨g, U, ?_, Or.inr ⟨hx, hg⟩⟩
        obtain ⟨N, rfl⟩ : ∃ M, N = M + 1 := ⟨N - 1, by omega⟩
        rw [q_Mo_unlike_186]
        show (if nI n ≤ (0 : Int32) then _ else (if (0 : Int32) = 0 then _ else _)) = _
        rw [if_pos (show (0 : Int32) = 0 from rfl), ite_self]
      · obtain ⟨g', e1, h2⟩ := ul_186 N hn U N 0 g (by omega) (by omega)
        exact ⟨g', U, e1, Or.inl ⟨hx, fun o ho => by rw [h2 o ho, if_pos (by omega)]⟩⟩
    · rw [if_neg (nI_ge (by omega) (by omega))]
      obtain ⟨l, hl, l1, l2⟩ := low_of (show 0 < s by omega) (show s < 2 ^ n by omega)
      rw [show (0 : Int32) = nI 0 from rfl, ul_21 N _ (by omega) (by omega) l1 l2 x2 g U N 0 (by omega) (by omega)]
      unfold q_Mo_unlike_36
      have hlt : s &&& (s - 1) < s := by
        have := Nat.and_le_right (n := s) (m := s - 1)
        omega
      rw [show nI s - 1 = nI (s - 1) from pk_sub (a := s) (b := 1) h1, nI_and (by omega) (by omega), jin_nI (by omega) (by decide), jin_nI (by omega) (by decide), jin_nI (by omega) (by decide), nI_clamp (by omega), nI_clamp (by omega), nI_clamp (by omega)]
      have hc0 : ∀ x, x ≤ l → cnt (SB s) x = 0 := by
        intro x
        induction x with
        | zero => intro _; rfl
        | succ x ihx => intro hx; rw [cnt_s, ihx (by omega), l2 x (by omega)]; rfl
      rw [show (0 : Int32) = nI 0 from rfl, ul_67 N hn _ (show s < 2 ^ 31 by omega) x2 g _ N l 0 (by omega) (by omega) (hc0 l (Nat.le_refl _)).symm]
      unfold q_Mo_unlike_90
      rw [jin_nI (by omega) (by decide), nI_clamp (by omega), mo_countOf (by omega), Option.bind_some]
      have hU' : ∀ t, t < s + 1 → ∀ v, v < 64 → tb (vp_updL U s (U (s &&& (s - 1)) ||| h l) t) v = un h (SB t) n v := by
        intro t ht v hv
        by_cases he : t = s
        · subst he
          rw [pk_uLs, tb_or, hU _ hlt v hv, un_low hl l1 l2]
        · rw [pk_uLn he, hU t (by omega) v hv]
      have hcn : cnt (tb (vp_updL U s (U (s &&& (s - 1)) ||| h l) s)) 60 = cnt (un h (SB s) n) 60 := cnt_congr 60 (fun v hv => hU' s (by omega) v (by omega))
      rw [hcn]
      have b1 := cnt_le_n (un h (SB s) n) 60
      have b2 := cnt_le_n (SB s) n
      have go : ∀ z : Int32, ((z = 0 ∧ ∀ t, 0 < t → t < s + 1 → ¬ FewS h n t) ∨ (z = 1 ∧ ∃ t, 0 < t ∧ t < s + 1 ∧ FewS h n t)) → ∃ g' U', q_Mo_unlike_117 N h (nI n) (q_Mo_unlike_11 N h (nI n) f) (nI s) (nI (cnt (SB s) n)) (nI (cnt (un h (SB s) n) 60)) z g (vp_updL U s (U (s &&& (s - 1)) ||| h l)) = some (g', U') ∧ (((∃ t, 0 < t ∧ t < 2 ^ n ∧ FewS h n t) ∧ ∀ o, o < n → g' o = h o) ∨ ((∀ t, 0 < t → t < 2 ^ n → ¬ FewS h n t) ∧ ∀ o, o < n → ∀ v, v < 64 → (tb (g' o) v = true ↔ tb (g0 o) v = true ∨ ∃ t, 0 < t ∧ t < 2 ^ n ∧ TightS h n t ∧ SB t o = false ∧ tb (h o) v = true ∧ un h (SB t) n v = true))) := by
        intro z hz
        unfold q_Mo_unlike_117
        obtain ⟨g', e1, h2⟩ := ul_121 N (h := h) hn (q_Mo_unlike_11 N h (nI n) f) (s := s) (m := cnt (SB s) n) (c := cnt (un h (SB s) n) 60) (by omega) (by omega) (by omega) z (vp_updL U s (U (s &&& (s - 1)) ||| h l)) N 0 g (by omega) (by omega)
        rw [show (0 : Int32) = nI 0 from rfl, e1]
        refine ih (s + 1) z g' _ (by omega) (by omega) (by omega) hU' hz (fun o ho v hv => ?_)
        rw [h2 o ho]
        have key : (∃ t, 0 < t ∧ t < s + 1 ∧ TightS h n t ∧ SB t o = false ∧ tb (h o) v = true ∧ un h (SB t) n v = true) ↔ (∃ t, 0 < t ∧ t < s ∧ TightS h n t ∧ SB t o = false ∧ tb (h o) v = true ∧ un h (SB t) n v = true) ∨ (TightS h n s ∧ SB s o = false ∧ tb (h o) v = true ∧ un h (SB s) n v = true) := by
          constructor
          · rintro ⟨t, a, b, c⟩
            by_cases he : t = s
            · subst he; exact Or.inr c
            · exact Or.inl ⟨t, a, by omega, c⟩
          · rintro (⟨t, a, b, c⟩ | c)
            · exact ⟨t, a, by omega, c⟩
            · exact ⟨s, by omega, by omega, c⟩
        rw [key]
        by_cases hq : 0 ≤ o ∧ cnt (un h (SB s) n) 60 = cnt (SB s) n ∧ SB s o = false
        · rw [if_pos hq, tb_or, tb_and, hU' s (by omega) v hv, Bool.or_eq_true, Bool.and_eq_true, hg o ho v hv, or_assoc]
          constructor
          · rintro (a | a | a)
            · exact Or.inl a
            · exact Or.inr (Or.inl a)
            · exact Or.inr (Or.inr ⟨hq.2.1, hq.2.2, a.1, a.2⟩)
          · rintro (a | a | a)
            · exact Or.inl a
            · exact Or.inr (Or.inl a)
            · exact Or.inr (Or.inr ⟨a.2.2.1, a.2.2.2⟩)
        · rw [if_neg hq, hg o ho v hv]
          constructor
          · rintro (a | a)
            · exact Or.inl a
            · exact Or.inr (Or.inl a)
          · rintro (a | a | a)
            · exact Or.inl a
            · exact Or.inr a
            · exact absurd ⟨Nat.zero_le _, a.1, a.2.1⟩ hq
      unfold q_Mo_unlike_112
      rcases hx2 with ⟨rfl, hx⟩ | ⟨rfl, t, ht0, ht, hx⟩
      · rw [if_pos rfl]
        by_cases hq : cnt (SB s) n ≤ cnt (un h (SB s) n) 60
        · rw [if_pos (nI_le hq (by omega))]
          refine go _ (Or.inl ⟨rfl, fun t ht0 ht hF => ?_⟩)
          by_cases he : t = s
          · subst he; unfold FewS at hF; omega
          · exact hx t ht0 (by omega) hF
        · rw [if_neg (nI_ge (by omega) (by omega))]
          exact go _ (Or.inr ⟨rfl, s, by omega, by omega, by unfold FewS; omega⟩)
      · rw [if_neg (show ¬ (1 : Int32) = 0 by decide)]
        exact go _ (Or.inr ⟨rfl, t, ht0, by omega, hx⟩)
theorem mo_unlike {N : Nat} (hN : 65538 ≤ N) {h : Nat → Int64} {n : Nat} (hn : n ≤ 16) (hb : ∀ i, i < n → ∀ v, tb (h i) v = true → v < 60) (g U : Nat → Int64) :
    ∃ g' U', p_Mo_unlike N h g U (nI n) = some (g', U') ∧ (((∃ t, 0 < t ∧ t < 2 ^ n ∧ FewS h n t) ∧ ∀ o, o < n → g' o = h o) ∨ ((∀ t, 0 < t → t < 2 ^ n → ¬ FewS h n t) ∧ ∀ o, o < n → ∀ v, v < 64 → (tb (g' o) v = true ↔ tb (g o) v = true ∨ ∃ t, 0 < t ∧ t < 2 ^ n ∧ TightS h n t ∧ SB t o = false ∧ tb (h o) v = true ∧ un h (SB t) n v = true))) := by
  have hp : 2 ^ n ≤ 65536 := Nat.pow_le_pow_right (n := 2) (by decide) hn
  unfold p_Mo_unlike
  rw [show (0 : Int32) = nI 0 from rfl, jin_nI (by decide) (by decide), nI_clamp (by decide)]
  have hp1 := Nat.two_pow_pos n
  refine ul_11 (by omega) hn hb g N 1 0 g _ (by omega) (by omega) (by omega) (fun t ht v hv => ?_) (Or.inl ⟨rfl, fun t h1 h2 => by omega⟩) (fun o ho v hv => ⟨Or.inl, ?_⟩)
  · rw [show t = 0 by omega, pk_uLs, tb_0]
    symm
    rw [Bool.eq_false_iff]
    intro z
    obtain ⟨i, _, a, _⟩ := un_iff.mp z
    have a : (0 : Nat).testBit i = true := a
    rw [Nat.zero_testBit] at a
    cases a
  · rintro (z | ⟨t, h1, h2, _⟩)
    · exact z
    · omega

