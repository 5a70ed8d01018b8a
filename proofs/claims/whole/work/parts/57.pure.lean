/-! apart: the class and the reference take the same away. -/
theorem lN_m1e6 : (-1000000 : Int64) = -lN 1000000 := by decide
theorem abs_cases {a : Int64} (h1 : ¬ a < (-1000000 : Int64)) (h2 : a ≤ (1000000 : Int64)) : ∃ D, D ≤ 1000000 ∧ (if 0 < a then a else -a) = lN D ∧ (a = lN D ∨ a = -lN D) := by
  by_cases h : a < 0
  · have h3 : ¬ -a < 0 := by
      intro z
      rw [Int64.lt_iff_toInt_lt] at h1 h z
      rw [Int64.toInt_neg, Int.bmod_def] at z
      have e0 : (0 : Int64).toInt = 0 := by decide
      have e1 : (-1000000 : Int64).toInt = -1000000 := by decide
      rw [e0] at z h
      rw [e1] at h1
      omega
    obtain ⟨D, hD, e⟩ := pk_lOf h3
    have e2 : a = -lN D := by rw [← e, Int64.neg_neg]
    refine ⟨D, ?_, ?_, Or.inr e2⟩
    · apply Classical.byContradiction
      intro hc
      apply h1
      rw [Int64.lt_iff_toInt_lt] at h ⊢
      have e3 : (-1000000 : Int64).toInt = -1000000 := by decide
      have e4 : (0 : Int64).toInt = 0 := by decide
      have e5 : (-a).toInt = D := by rw [e, pk_lT hD]
      rw [Int64.toInt_neg, Int.bmod_def] at e5
      have := Int64.toInt_lt a
      have := Int64.le_toInt a
      rw [e3]
      rw [e4] at h
      omega
    · rw [if_neg ?_, e]
      intro z
      rw [Int64.lt_iff_toInt_lt] at h z
      omega
  · obtain ⟨D, hD, e⟩ := pk_lOf h
    refine ⟨D, ?_, ?_, Or.inl e⟩
    · rw [e, show (1000000 : Int64) = lN 1000000 from rfl, pk_lLE hD (by decide)] at h2
      exact h2
    · by_cases h0 : 0 < a
      · rw [if_pos h0, e]
      · rw [if_neg h0]
        have : D = 0 := by
          rw [e, show (0 : Int64) = lN 0 from rfl, pk_lLT (by decide) hD] at h0
          omega
        rw [e, this]
        decide
theorem isc_plus (N : Nat) {S k v D : Nat} (hS : S ≤ 60) (hk : k < 16) (hv : v < S) (hD : D ≤ 1000000) (h : Nat → Int64) : p_Mo_isCandidate N (nI S) h (nI k) (lN v + lN D) = some (if v + D < S ∧ tb (h k) (v + D) = true then 1 else 0) := by
  unfold p_Mo_isCandidate
  rw [lN_add, nI_l (by omega), if_neg (fun z => by rw [lg_cmp_lt, show (0 : Int64) = lN 0 from rfl, pk_lLT (by omega) (by decide)] at z; omega)]
  by_cases hc : v + D < S
  · rw [if_neg (fun z => by rw [lg_cmp_ge, pk_lLE (by omega) (by omega)] at z; omega), jin_nI hk (by decide), nI_clamp (by omega), lN_i, mo_has N _ (by omega), Option.bind_some]
    by_cases hb : tb (h k) (v + D) = true
    · rw [if_pos hb, if_neg (show ¬ (1 : Int32) = 0 by decide), if_pos ⟨hc, hb⟩]
    · rw [if_neg hb, if_pos rfl, if_neg (fun z => hb z.2)]
  · rw [if_pos ((lg_cmp_ge _ _).mpr ((pk_lLE (by omega) (by omega)).mpr (by omega))), if_neg (fun z => hc z.1)]
theorem isc_minus (N : Nat) {S k v D : Nat} (hS : S ≤ 60) (hk : k < 16) (hv : v < S) (hD : D ≤ 1000000) (h : Nat → Int64) : p_Mo_isCandidate N (nI S) h (nI k) (lN v - lN D) = some (if D ≤ v ∧ tb (h k) (v - D) = true then 1 else 0) := by
  unfold p_Mo_isCandidate
  by_cases hc : D ≤ v
  · rw [lN_sub hc, nI_l (by omega), if_neg (fun z => by rw [lg_cmp_lt, show (0 : Int64) = lN 0 from rfl, pk_lLT (by omega) (by decide)] at z; omega)]
    rw [if_neg (fun z => by rw [lg_cmp_ge, pk_lLE (by omega) (by omega)] at z; omega), jin_nI hk (by decide), nI_clamp (by omega), lN_i, mo_has N _ (by omega), Option.bind_some]
    by_cases hb : tb (h k) (v - D) = true
    · rw [if_pos hb, if_neg (show ¬ (1 : Int32) = 0 by decide), if_pos ⟨hc, hb⟩]
    · rw [if_neg hb, if_pos rfl, if_neg (fun z => hb z.2)]
  · rw [if_pos, if_neg (fun z => hc z.1)]
    rw [lg_cmp_lt, Int64.lt_iff_toInt_lt, Int64.toInt_sub, pk_lT (by omega), pk_lT (by omega), Int.bmod_def]
    have e4 : (0 : Int64).toInt = 0 := by decide
    rw [e4]
    omega
theorem isc_two (N : Nat) {S k v D : Nat} (hS : S ≤ 60) (hk : k < 16) (hv : v < S) (hD : D ≤ 1000000) (h : Nat → Int64) {a : Int64} (ha : a = lN D ∨ a = -lN D) :
    ∃ p q : Bool, p_Mo_isCandidate N (nI S) h (nI k) (lN v + a) = some (if p = true then 1 else 0) ∧ p_Mo_isCandidate N (nI S) h (nI k) (lN v - a) = some (if q = true then 1 else 0) ∧ ((p = true ∨ q = true) ↔ (v + D < S ∧ tb (h k) (v + D) = true) ∨ (D ≤ v ∧ tb (h k) (v - D) = true)) := by
  have e1 := isc_plus N hS hk hv hD h
  have e2 := isc_minus N hS hk hv hD h
  rcases ha with rfl | rfl
  · refine ⟨decide (v + D < S ∧ tb (h k) (v + D) = true), decide (D ≤ v ∧ tb (h k) (v - D) = true), ?_, ?_, ?_⟩
    · rw [e1]; simp
    · rw [e2]; simp
    · rw [decide_eq_true_eq, decide_eq_true_eq]
  · refine ⟨decide (D ≤ v ∧ tb (h k) (v - D) = true), decide (v + D < S ∧ tb (h k) (v + D) = true), ?_, ?_, ?_⟩
    · rw [← Int64.sub_eq_add_neg, e2]; simp
    · rw [Int64.sub_neg, e1]; simp
    · rw [decide_eq_true_eq, decide_eq_true_eq]
      exact ⟨Or.symm, Or.symm⟩
def Far (S D : Nat) (x : Int64) (v : Nat) : Prop := ¬ ((v + D < S ∧ tb x (v + D) = true) ∨ (D ≤ v ∧ tb x (v - D) = true))
theorem apart_in (N : Nat) {S k r D : Nat} (hS : S ≤ 60) (hk : k < 2) (hr : r < 120) (hD : D ≤ 1000000) {h rights : Nat → Int64} (ha : rights r = lN D ∨ rights r = -lN D) (K : Int32 → (Nat → Int64) → Option (Nat → Int64)) :
    ∀ f v g, v ≤ S → S - v < f → ∃ g', q_Mo_apart_9 N (nI S) rights h (nI r) K f (nI k) (nI v) g = K (nI (k + 1)) g' ∧ (∀ i, i ≠ k → g' i = g i) ∧ ∀ w, w < 64 → (tb (g' k) w = true ↔ tb (g k) w = true ∨ (v ≤ w ∧ w < S ∧ tb (h k) w = true ∧ Far S D (h (1 - k)) w)) := by
  intro f
  induction f with
  | zero => intro v g _ hf; omega
  | succ f ih =>
    intro v g hv hf
    rw [q_Mo_apart_9]
    show ∃ g', (if nI S ≤ nI v then _ else _) = _ ∧ _
    by_cases hc : S ≤ v
    · rw [if_pos (nI_le hc (by omega))]
      unfold q_Mo_apart_90
      rw [nI_1]
      refine ⟨g, rfl, fun _ _ => rfl, fun w hw => ⟨Or.inl, ?_⟩⟩
      rintro (z | ⟨z, z2, _⟩)
      · exact z
      · omega
    · rw [if_neg (nI_ge (by omega) (by omega)), jin_nI (by omega) (by decide), nI_clamp (by omega), mo_has N _ (show v < 64 by omega), Option.bind_some]
      have skip : ∀ g1 : Nat → Int64, (∀ i, i ≠ k → g1 i = g i) → (∀ w, w < 64 → (tb (g1 k) w = true ↔ tb (g k) w = true ∨ (w = v ∧ tb (h k) v = true ∧ Far S D (h (1 - k)) v))) → ∃ g', q_Mo_apart_84 N (q_Mo_apart_9 N (nI S) rights h (nI r) K f) (nI k) (nI v) g1 = K (nI (k + 1)) g' ∧ (∀ i, i ≠ k → g' i = g i) ∧ ∀ w, w < 64 → (tb (g' k) w = true ↔ tb (g k) w = true ∨ (v ≤ w ∧ w < S ∧ tb (h k) w = true ∧ Far S D (h (1 - k)) w)) := by
        intro g1 q1 q2
        unfold q_Mo_apart_84
        rw [nI_1]
        obtain ⟨g', e1, h1, h2⟩ := ih (v + 1) g1 (by omega) (by omega)
        refine ⟨g', e1, fun i hi => by rw [h1 i hi, q1 i hi], fun w hw => ?_⟩
        rw [h2 w hw, q2 w hw]
        constructor
        · rintro ((z | ⟨z, z1⟩) | ⟨z, z1⟩)
          · exact Or.inl z
          · subst z; exact Or.inr ⟨Nat.le_refl _, by omega, z1⟩
          · exact Or.inr ⟨by omega, z1⟩
        · rintro (z | ⟨z, z1, z2⟩)
          · exact Or.inl (Or.inl z)
          · by_cases he : w = v
            · subst he; exact Or.inl (Or.inr ⟨rfl, z2⟩)
            · exact Or.inr ⟨by omega, z1, z2⟩
      by_cases hb : tb (h k) v = true
      · obtain ⟨p, q, e1, e2, e3⟩ := isc_two N hS (show 1 - k < 16 by omega) (show v < S by omega) hD h ha
        rw [if_pos hb, if_neg (show ¬ (1 : Int32) = 0 by decide), jin_nI hr (by decide), nI_clamp (by omega), nI_l (by omega), show (1 : Int32) - nI k = nI (1 - k) from pk_sub (a := 1) (by omega), e1, Option.bind_some]
        have hfar : Far S D (h (1 - k)) v ↔ ¬ (p = true ∨ q = true) := by rw [e3]; exact Iff.rfl
        cases p with
        | true =>
          rw [if_pos rfl, if_neg (show ¬ (1 : Int32) = 0 by decide)]
          exact skip g (fun _ _ => rfl) (fun w hw => ⟨Or.inl, fun z => z.elim id (fun z => absurd (Or.inl rfl) (hfar.mp z.2.2))⟩)
        | false =>
          rw [if_neg (show ¬ false = true by decide), if_pos rfl, jin_nI hr (by decide), e2, Option.bind_some]
          cases q with
          | true =>
            rw [if_pos rfl, if_neg (show ¬ (1 : Int32) = 0 by decide)]
            exact skip g (fun _ _ => rfl) (fun w hw => ⟨Or.inl, fun z => z.elim id (fun z => absurd (Or.inr rfl) (hfar.mp z.2.2))⟩)
          | false =>
            rw [if_neg (show ¬ false = true by decide), if_pos rfl, jin_nI (by omega) (by decide), jin_nI (by omega) (by decide)]
            refine skip _ (fun i hi => pk_uLn hi) (fun w hw => ?_)
            rw [pk_uLs, tb_or, tb_bit (by omega) hw, Bool.or_eq_true, decide_eq_true_eq]
            constructor
            · rintro (z | z)
              · exact Or.inl z
              · exact Or.inr ⟨z, hb, hfar.mpr (by simp)⟩
            · rintro (z | z)
              · exact Or.inl z
              · exact Or.inr z.1
      · rw [if_neg hb, if_pos rfl]
        exact skip g (fun _ _ => rfl) (fun w hw => ⟨Or.inl, fun z => z.elim id (fun z => absurd z.2.1 hb)⟩)
theorem mo_apart {N : Nat} (hN : 62 ≤ N) {S r D : Nat} (hS : S ≤ 60) (hr : r < 120) (hD : D ≤ 1000000) {h rights : Nat → Int64} (ha : rights r = lN D ∨ rights r = -lN D) (g : Nat → Int64) :
    ∃ g', p_Mo_apart N (nI S) rights h g (nI r) = some g' ∧ ∀ k, k < 2 → ∀ w, w < 64 → (tb (g' k) w = true ↔ tb (g k) w = true ∨ (w < S ∧ tb (h k) w = true ∧ Far S D (h (1 - k)) w)) := by
  unfold p_Mo_apart
  obtain ⟨N', rfl⟩ : ∃ M, N = M + 3 := ⟨N - 3, by omega⟩
  rw [q_Mo_apart_2]
  show ∃ g', (if (2 : Int32) ≤ 0 then _ else _) = _ ∧ _
  rw [if_neg (show ¬ (2 : Int32) ≤ 0 by decide)]
  obtain ⟨g1, e1, h1, h2⟩ := apart_in (N' + 3) hS (show 0 < 2 by decide) hr hD (h := h) ha (q_Mo_apart_2 (N' + 3) (nI S) rights h (nI r) (N' + 2)) (N' + 3) 0 g (by omega) (by omega)
  rw [show (0 : Int32) = nI 0 from rfl, e1, q_Mo_apart_2]
  show ∃ g', (if (2 : Int32) ≤ nI 1 then _ else _) = _ ∧ _
  rw [if_neg (show ¬ (2 : Int32) ≤ nI 1 by decide)]
  obtain ⟨g2, e2, h3, h4⟩ := apart_in (N' + 3) hS (show 1 < 2 by decide) hr hD (h := h) ha (q_Mo_apart_2 (N' + 3) (nI S) rights h (nI r) (N' + 1)) (N' + 3) 0 g1 (by omega) (by omega)
  rw [show (0 : Int32) = nI 0 from rfl, show nI (0 + 1) = nI 1 from rfl, e2, q_Mo_apart_2]
  show ∃ g', (if (2 : Int32) ≤ nI 2 then _ else _) = _ ∧ _
  rw [if_pos (show (2 : Int32) ≤ nI 2 by decide)]
  refine ⟨g2, rfl, fun k hk w hw => ?_⟩
  have hk2 : k = 0 ∨ k = 1 := by omega
  rcases hk2 with rfl | rfl
  · rw [h3 0 (by decide), h2 w hw]
    simp
  · rw [h4 w hw, h1 1 (by decide)]
    simp
theorem far_tb {S D : Nat} (hS : S ≤ 60) (hD : D < S) {x : Int64} (hx : ∀ v, tb x v = true → v < S) {v : Nat} (hv : v < 64) : tb (j_lshl x (nI D) ||| j_lushr x (nI D)) v = true ↔ ¬ Far S D x v := by
  unfold Far
  rw [tb_or, tb_shl D (by omega) x hv, tb_ushr D (by omega), Bool.or_eq_true, Bool.and_eq_true, decide_eq_true_eq, Classical.not_not]
  constructor
  · rintro (z | z)
    · exact Or.inr z
    · have := hx _ z
      rw [Nat.add_comm] at z
      exact Or.inl ⟨by omega, z⟩
  · rintro (z | z)
    · refine Or.inr ?_
      rw [Nat.add_comm]
      exact z.2
    · exact Or.inl z
theorem apart_both {N : Nat} (hN : 62 ≤ N) {S r : Nat} (hS : S ≤ 60) (hr : r < 120) {a : Int64} (ha1 : ¬ a < (-1000000 : Int64)) (ha2 : a ≤ (1000000 : Int64)) {h rights : Nat → Int64} (ha : rights r = a) (hb : ∀ k, k < 2 → ∀ v, tb (h k) v = true → v < S) (keep g : Nat → Int64) (hkeep : ∀ k, k < 2 → keep k = h k) (hg : ∀ k, k < 2 → g k = 0) :
    ∃ keep' g', p_Kernel_keepApart N (nI S) h keep a (nI 2) = some keep' ∧ p_Mo_apart N (nI S) rights h g (nI r) = some g' ∧ Same h keep' g' 2 := by
  obtain ⟨D, hD, e0, hs⟩ := abs_cases ha1 ha2
  obtain ⟨g', e1, h1⟩ := mo_apart hN hS hr hD (h := h) (rights := rights) (by rw [ha]; exact hs) g
  unfold p_Kernel_keepApart
  rw [if_pos (show nI 2 = (2 : Int32) from rfl), e0, nI_l (by omega)]
  by_cases hc : D < S
  · rw [if_pos ((lg_cmp_lt _ _).mpr ((pk_lLT (by omega) (by omega)).mpr hc)), lN_i]
    simp only [j0, j1, cl0, cl1]
    refine ⟨_, g', rfl, e1, ?_⟩
    apply same_of
    intro k hk v hv
    rw [h1 k hk v hv, hg k hk, tb_0]
    have hk2 : k = 0 ∨ k = 1 := by omega
    rcases hk2 with rfl | rfl
    · rw [pk_uLn (show 0 ≠ 1 by decide), pk_uLs, tb_and, hkeep 0 hk, Bool.and_eq_true, far_tb hS hc (hb 1 (by decide)) hv]
      constructor
      · rintro (z | ⟨z1, z2, z3⟩)
        · cases z
        · exact ⟨z2, fun q => q.2 z3⟩
      · rintro ⟨z1, z2⟩
        exact Or.inr ⟨hb 0 hk v z1, z1, Classical.byContradiction (fun q => z2 ⟨z1, q⟩)⟩
    · rw [pk_uLs, pk_uLn (show 1 ≠ 0 by decide), tb_and, hkeep 1 hk, Bool.and_eq_true, far_tb hS hc (hb 0 (by decide)) hv]
      constructor
      · rintro (z | ⟨z1, z2, z3⟩)
        · cases z
        · exact ⟨z2, fun q => q.2 z3⟩
      · rintro ⟨z1, z2⟩
        exact Or.inr ⟨hb 1 hk v z1, z1, Classical.byContradiction (fun q => z2 ⟨z1, q⟩)⟩
  · rw [if_neg (fun z => by rw [lg_cmp_lt, pk_lLT (by omega) (by omega)] at z; omega)]
    obtain ⟨k', e2, h2⟩ := keepNothing (N := N) (by omega) keep
    refine ⟨k', g', by rw [e2]; rfl, e1, ?_⟩
    apply same_of
    intro k hk v hv
    rw [h1 k hk v hv, hg k hk, tb_0, h2 k (by omega), tb_0]
    constructor
    · rintro (z | ⟨z1, z2, z3⟩)
      · cases z
      · exact ⟨z2, by simp⟩
    · rintro ⟨z1, _⟩
      refine Or.inr ⟨hb k hk v z1, z1, ?_⟩
      have := hb k hk v z1
      rintro (q | q)
      · omega
      · omega

