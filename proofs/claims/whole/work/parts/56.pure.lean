/-! equal, table: the class and the reference take the same away. -/
theorem j0 {α : Type} {k : Option α} : jin (0 : Int32) 16 k = k := jin_nI (i := 0) (by decide) (by decide)
theorem j1 {α : Type} {k : Option α} : jin (1 : Int32) 16 k = k := jin_nI (i := 1) (by decide) (by decide)
theorem cl0 : (0 : Int32).toNatClampNeg = 0 := by decide
theorem cl1 : (1 : Int32).toNatClampNeg = 1 := by decide
def andS (h : Nat → Int64) : Nat → Int64
  | 0 => -1
  | k + 1 => andS h k &&& h k
theorem eq_c (N : Nat) {h : Nat → Int64} {n : Nat} (hn : n ≤ 16) (keep : Nat → Int64) : ∀ f k, k ≤ n → n - k < f → q_Kernel_keepEqual_7 N h (nI n) f (andS h k) (nI k) keep = q_Kernel_keepEqual_29 N (andS h n) keep := by
  intro f
  induction f with
  | zero => intro k _ hf; omega
  | succ f ih =>
    intro k hk hf
    rw [q_Kernel_keepEqual_7]
    show (if nI n ≤ nI k then _ else _) = _
    by_cases hc : n ≤ k
    · rw [if_pos (nI_le hc (by omega)), show k = n by omega]
    · rw [if_neg (nI_ge (by omega) (by omega)), jin_nI (by omega) (by decide), nI_clamp (by omega), nI_1]
      exact ih (k + 1) (by omega) (by omega)
theorem eq_m (N : Nat) {h : Nat → Int64} {n : Nat} (hn : n ≤ 16) (g : Nat → Int64) : ∀ f k, k ≤ n → n - k < f → q_Mo_equal_7 N h (nI n) f (andS h k) (nI k) g = q_Mo_equal_29 N h (nI n) (andS h n) g := by
  intro f
  induction f with
  | zero => intro k _ hf; omega
  | succ f ih =>
    intro k hk hf
    rw [q_Mo_equal_7]
    show (if nI n ≤ nI k then _ else _) = _
    by_cases hc : n ≤ k
    · rw [if_pos (nI_le hc (by omega)), show k = n by omega]
    · rw [if_neg (nI_ge (by omega) (by omega)), jin_nI (by omega) (by decide), nI_clamp (by omega), nI_1]
      exact ih (k + 1) (by omega) (by omega)
theorem eq_m2 (N : Nat) {h : Nat → Int64} {n : Nat} (hn : n ≤ 16) (x : Int64) : ∀ f k g, k ≤ n → n - k < f → ∃ g', q_Mo_equal_32 N h (nI n) f x (nI k) g = some g' ∧ (∀ i, i < k → g' i = g i) ∧ ∀ i, k ≤ i → i < n → g' i = h i &&& (x ^^^ (-1 : Int64)) := by
  intro f
  induction f with
  | zero => intro k g _ hf; omega
  | succ f ih =>
    intro k g hk hf
    rw [q_Mo_equal_32]
    show ∃ g', (if nI n ≤ nI k then _ else _) = _ ∧ _
    by_cases hc : n ≤ k
    · rw [if_pos (nI_le hc (by omega))]
      exact ⟨g, rfl, fun _ _ => rfl, fun i h1 h2 => by omega⟩
    · rw [if_neg (nI_ge (by omega) (by omega)), jin_nI (by omega) (by decide), jin_nI (by omega) (by decide), nI_clamp (by omega), nI_1]
      obtain ⟨g', e1, h1, h2⟩ := ih (k + 1) (vp_updL g k (h k &&& (x ^^^ (-1 : Int64)))) (by omega) (by omega)
      refine ⟨g', e1, fun i hi => by rw [h1 i (by omega), pk_uLn (by omega)], fun i a b => ?_⟩
      by_cases he : i = k
      · subst he; rw [h1 i (by omega), pk_uLs]
      · exact h2 i (by omega) b
theorem equal_both {N : Nat} (hN : 18 ≤ N) {h : Nat → Int64} {n : Nat} (hn : n ≤ 16) (keep g : Nat → Int64) : ∃ keep' g', p_Kernel_keepEqual N h keep (nI n) = some keep' ∧ p_Mo_equal N h g (nI n) = some g' ∧ Same h keep' g' n := by
  unfold p_Kernel_keepEqual p_Mo_equal
  rw [show (0 : Int32) = nI 0 from rfl, show (-1 : Int64) = andS h 0 from rfl, eq_c N hn keep N 0 (by omega) (by omega), eq_m N hn g N 0 (by omega) (by omega)]
  unfold q_Kernel_keepEqual_29 q_Mo_equal_29
  obtain ⟨k', e1, h1⟩ := arr_fill (N := N) (m := 16) (by omega) (by decide) (andS h n) keep
  obtain ⟨g', e2, _, h2⟩ := eq_m2 N (h := h) hn (andS h n) N 0 g (by omega) (by omega)
  refine ⟨k', g', by rw [e1]; rfl, by rw [show (0 : Int32) = nI 0 from rfl]; exact e2, fun k hk => ?_⟩
  rw [h2 k (by omega) hk, h1 k (by omega)]
/-- table in the class -/
theorem tab_c (N : Nat) {S : Nat} (hS : S ≤ 60) {h part : Nat → Int64} {prs : List (Nat × Nat)} (hp : ∀ a, a < S → ∀ b, b < 64 → tb (part a) b = decide ((a, b) ∈ prs)) (keep : Nat → Int64) :
    ∀ f a x2 x4, a ≤ S → S - a < f → (∀ v, v < 64 → (tb x2 v = true ↔ v < a ∧ tb (h 0) v = true ∧ ∃ b, b < 64 ∧ (v, b) ∈ prs ∧ tb (h 1) b = true)) → (∀ v, v < 64 → (tb x4 v = true ↔ tb (h 1) v = true ∧ ∃ c, c < a ∧ tb (h 0) c = true ∧ (c, v) ∈ prs)) →
      ∃ y2 y4, q_Kernel_keepTable_17 N S h part f x2 x4 (nI a) keep = some (vp_updL (vp_updL keep 0 y2) 1 y4) ∧ (∀ v, v < 64 → (tb y2 v = true ↔ v < S ∧ tb (h 0) v = true ∧ ∃ b, b < 64 ∧ (v, b) ∈ prs ∧ tb (h 1) b = true)) ∧ (∀ v, v < 64 → (tb y4 v = true ↔ tb (h 1) v = true ∧ ∃ c, c < S ∧ tb (h 0) c = true ∧ (c, v) ∈ prs)) := by
  intro f
  induction f with
  | zero => intro a x2 x4 _ hf; omega
  | succ f ih =>
    intro a x2 x4 ha hf h2 h4
    rw [q_Kernel_keepTable_17]
    show ∃ y2 y4, (if nI S ≤ nI a then _ else _) = _ ∧ _
    by_cases hc : S ≤ a
    · rw [if_pos (nI_le hc (by omega))]
      have : a = S := by omega
      subst this
      unfold q_Kernel_keepTable_84
      exact ⟨x2, x4, rfl, h2, h4⟩
    · rw [if_neg (nI_ge (by omega) (by omega)), jin_nI (by omega) (by omega), j1, j0, cl0, cl1, nI_clamp (by omega), has_tb N _ (show a < 64 by omega), Option.bind_some]
      have key : part a &&& h 1 = 0 ↔ ¬ ∃ b, b < 64 ∧ (a, b) ∈ prs ∧ tb (h 1) b = true := by
        rw [tb_zero]
        constructor
        · rintro H ⟨b, hb, h1, h2⟩
          have := H b hb
          rw [tb_and, hp a (by omega) b hb, h2, decide_eq_true h1] at this
          cases this
        · intro H b hb
          rw [tb_and, hp a (by omega) b hb]
          cases hq : (decide ((a, b) ∈ prs) && tb (h 1) b) with
          | false => rfl
          | true =>
            rw [Bool.and_eq_true, decide_eq_true_eq] at hq
            exact absurd ⟨b, hb, hq.1, hq.2⟩ H
      have stay : ¬ (tb (h 0) a = true ∧ ∃ b, b < 64 ∧ (a, b) ∈ prs ∧ tb (h 1) b = true) → ∃ y2 y4, q_Kernel_keepTable_78 N (q_Kernel_keepTable_17 N S h part f) x2 x4 (nI a) keep = some (vp_updL (vp_updL keep 0 y2) 1 y4) ∧ (∀ v, v < 64 → (tb y2 v = true ↔ v < S ∧ tb (h 0) v = true ∧ ∃ b, b < 64 ∧ (v, b) ∈ prs ∧ tb (h 1) b = true)) ∧ (∀ v, v < 64 → (tb y4 v = true ↔ tb (h 1) v = true ∧ ∃ c, c < S ∧ tb (h 0) c = true ∧ (c, v) ∈ prs)) := by
        intro hno
        unfold q_Kernel_keepTable_78
        rw [nI_1]
        refine ih (a + 1) x2 x4 (by omega) (by omega) (fun v hv => ?_) (fun v hv => ?_)
        · rw [h2 v hv]
          constructor
          · rintro ⟨p, q⟩; exact ⟨by omega, q⟩
          · rintro ⟨p, q⟩
            by_cases he : v = a
            · subst he; exact absurd q hno
            · exact ⟨by omega, q⟩
        · rw [h4 v hv]
          constructor
          · rintro ⟨p, c, q, r⟩; exact ⟨p, c, by omega, r⟩
          · rintro ⟨p, c, q, r, s⟩
            refine ⟨p, c, ?_, r, s⟩
            by_cases he : c = a
            · subst he; exact absurd ⟨r, v, hv, s, p⟩ hno
            · omega
      by_cases hb : tb (h 0) a = true
      · rw [if_pos hb, if_neg (show ¬ (1 : Int32) = 0 by decide)]
        by_cases hz : part a &&& h 1 = 0
        · rw [if_pos ((lg_cmp_eq _ _).mpr hz)]
          exact stay (fun q => (key.mp hz) q.2)
        · rw [if_neg (fun q => hz ((lg_cmp_eq _ _).mp q))]
          have he := Classical.byContradiction (fun q => hz (key.mpr q))
          unfold q_Kernel_keepTable_78
          rw [nI_1]
          refine ih (a + 1) _ _ (by omega) (by omega) (fun v hv => ?_) (fun v hv => ?_)
          · rw [tb_or, tb_bit (by omega) hv, Bool.or_eq_true, decide_eq_true_eq, h2 v hv]
            constructor
            · rintro (⟨p, q⟩ | p)
              · exact ⟨by omega, q⟩
              · subst p; exact ⟨by omega, hb, he⟩
            · rintro ⟨p, q⟩
              by_cases hva : v = a
              · exact Or.inr hva
              · exact Or.inl ⟨by omega, q⟩
          · rw [tb_or, tb_and, hp a (by omega) v hv, Bool.or_eq_true, Bool.and_eq_true, decide_eq_true_eq, h4 v hv]
            constructor
            · rintro (⟨p, c, q, r⟩ | ⟨p, q⟩)
              · exact ⟨p, c, by omega, r⟩
              · exact ⟨q, a, by omega, hb, p⟩
            · rintro ⟨p, c, q, r, s⟩
              by_cases hca : c = a
              · subst hca; exact Or.inr ⟨s, p⟩
              · exact Or.inl ⟨p, c, by omega, r, s⟩
      · rw [if_neg hb, if_pos rfl]
        exact stay (fun q => hb q.1)
theorem tab_m (N : Nat) {r : Nat} (hr : r < 120) {h : Nat → Int64} {prs : List (Nat × Nat)} {pairs firsts seconds : Nat → Int32} (hl : prs.length ≤ 400) (hlt : ∀ q ∈ prs, q.1 < 64 ∧ q.2 < 64) (h0 : pairs r = nI prs.length) (hf : ∀ k, k < prs.length → firsts (400 * r + k) = nI (prs.getD k (0, 0)).1 ∧ seconds (400 * r + k) = nI (prs.getD k (0, 0)).2) :
    ∀ f k g, k ≤ prs.length → prs.length - k < f → ∃ g', q_Mo_byTable_30 N pairs firsts seconds h (nI r) f (nI (400 * r + k)) g = some g' ∧
      (∀ v, v < 64 → (tb (g' 0) v = true ↔ tb (g 0) v = true ∧ ¬ ∃ j, k ≤ j ∧ j < prs.length ∧ (prs.getD j (0, 0)).1 = v ∧ tb (h 0) v = true ∧ tb (h 1) (prs.getD j (0, 0)).2 = true)) ∧
      (∀ v, v < 64 → (tb (g' 1) v = true ↔ tb (g 1) v = true ∧ ¬ ∃ j, k ≤ j ∧ j < prs.length ∧ (prs.getD j (0, 0)).2 = v ∧ tb (h 0) (prs.getD j (0, 0)).1 = true ∧ tb (h 1) v = true)) := by
  intro f
  induction f with
  | zero => intro k g _ hf; omega
  | succ f ih =>
    intro k g hk hff
    rw [q_Mo_byTable_30]
    show ∃ g', jin (nI r) 120 (if nI 400 * nI r + pairs (nI r).toNatClampNeg ≤ nI (400 * r + k) then _ else _) = _ ∧ _
    rw [jin_nI hr (by decide), nI_clamp (by omega), h0, pk_mul, nI_add]
    by_cases hc : prs.length ≤ k
    · rw [if_pos (nI_le (by omega) (by omega))]
      exact ⟨g, rfl, fun v hv => ⟨fun z => ⟨z, fun ⟨j, a, b, _⟩ => by omega⟩, fun z => z.1⟩, fun v hv => ⟨fun z => ⟨z, fun ⟨j, a, b, _⟩ => by omega⟩, fun z => z.1⟩⟩
    · obtain ⟨f1, f2⟩ := hf k (by omega)
      have hmem : prs.getD k (0, 0) ∈ prs := by
        rw [List.getD_eq_getElem?_getD, List.getElem?_eq_getElem (by omega)]
        exact List.getElem_mem _
      obtain ⟨b1, b2⟩ := hlt _ hmem
      rw [if_neg (nI_ge (by omega) (by omega)), j0, jin_nI (by omega) (by decide), nI_clamp (by omega), cl0, cl1, f1, mo_has N _ b1, Option.bind_some]
      have next : ∀ g1 : Nat → Int64, (∀ v, v < 64 → (tb (g1 0) v = true ↔ tb (g 0) v = true ∧ ¬ ((prs.getD k (0, 0)).1 = v ∧ tb (h 0) v = true ∧ tb (h 1) (prs.getD k (0, 0)).2 = true))) → (∀ v, v < 64 → (tb (g1 1) v = true ↔ tb (g 1) v = true ∧ ¬ ((prs.getD k (0, 0)).2 = v ∧ tb (h 0) (prs.getD k (0, 0)).1 = true ∧ tb (h 1) v = true))) →
          ∃ g', q_Mo_byTable_135 N (q_Mo_byTable_30 N pairs firsts seconds h (nI r) f) (nI (400 * r + k)) g1 = some g' ∧
      (∀ v, v < 64 → (tb (g' 0) v = true ↔ tb (g 0) v = true ∧ ¬ ∃ j, k ≤ j ∧ j < prs.length ∧ (prs.getD j (0, 0)).1 = v ∧ tb (h 0) v = true ∧ tb (h 1) (prs.getD j (0, 0)).2 = true)) ∧
      (∀ v, v < 64 → (tb (g' 1) v = true ↔ tb (g 1) v = true ∧ ¬ ∃ j, k ≤ j ∧ j < prs.length ∧ (prs.getD j (0, 0)).2 = v ∧ tb (h 0) (prs.getD j (0, 0)).1 = true ∧ tb (h 1) v = true)) := by
        intro g1 q1 q2
        unfold q_Mo_byTable_135
        rw [nI_1]
        obtain ⟨g', e1, r1, r2⟩ := ih (k + 1) g1 (by omega) (by omega)
        refine ⟨g', e1, fun v hv => ?_, fun v hv => ?_⟩
        · rw [r1 v hv, q1 v hv]
          constructor
          · rintro ⟨⟨a, b⟩, c⟩
            refine ⟨a, fun ⟨j, j1, j2⟩ => ?_⟩
            by_cases he : j = k
            · subst he; exact b j2.2
            · exact c ⟨j, by omega, j2⟩
          · rintro ⟨a, b⟩
            exact ⟨⟨a, fun z => b ⟨k, Nat.le_refl _, by omega, z⟩⟩, fun ⟨j, j1, j2⟩ => b ⟨j, by omega, j2⟩⟩
        · rw [r2 v hv, q2 v hv]
          constructor
          · rintro ⟨⟨a, b⟩, c⟩
            refine ⟨a, fun ⟨j, j1, j2⟩ => ?_⟩
            by_cases he : j = k
            · subst he; exact b j2.2
            · exact c ⟨j, by omega, j2⟩
          · rintro ⟨a, b⟩
            exact ⟨⟨a, fun z => b ⟨k, Nat.le_refl _, by omega, z⟩⟩, fun ⟨j, j1, j2⟩ => b ⟨j, by omega, j2⟩⟩
      by_cases hb : tb (h 0) (prs.getD k (0, 0)).1 = true
      · rw [if_pos hb, if_neg (show ¬ (1 : Int32) = 0 by decide), j1, jin_nI (by omega) (by decide), f2, mo_has N _ b2, Option.bind_some]
        by_cases hb2 : tb (h 1) (prs.getD k (0, 0)).2 = true
        · rw [if_pos hb2, if_neg (show ¬ (1 : Int32) = 0 by decide)]
          simp only [j0, j1, jin_nI (show 400 * r + k < 48000 by omega) (show 48000 < 2 ^ 31 by decide)]
          refine next _ (fun v hv => ?_) (fun v hv => ?_)
          · rw [pk_uLn (show 0 ≠ 1 by decide), pk_uLs, tb_and, tb_not hv, tb_bit b1 hv, Bool.and_eq_true, Bool.not_eq_true', decide_eq_false_iff_not]
            constructor
            · rintro ⟨a, b⟩; exact ⟨a, fun z => b z.1.symm⟩
            · rintro ⟨a, b⟩; exact ⟨a, fun z => b ⟨z.symm, by rw [z]; exact hb, hb2⟩⟩
          · rw [pk_uLs, pk_uLn (show 1 ≠ 0 by decide), tb_and, tb_not hv, tb_bit b2 hv, Bool.and_eq_true, Bool.not_eq_true', decide_eq_false_iff_not]
            constructor
            · rintro ⟨a, b⟩; exact ⟨a, fun z => b z.1.symm⟩
            · rintro ⟨a, b⟩; exact ⟨a, fun z => b ⟨z.symm, hb, by rw [z]; exact hb2⟩⟩
        · rw [if_neg hb2, if_pos rfl]
          refine next _ (fun v hv => ⟨fun z => ⟨z, fun w => hb2 w.2.2⟩, fun z => z.1⟩) (fun v hv => ⟨fun z => ⟨z, fun w => hb2 (by rw [w.1]; exact w.2.2)⟩, fun z => z.1⟩)
      · rw [if_neg hb, if_pos rfl]
        refine next _ (fun v hv => ⟨fun z => ⟨z, fun w => hb (by rw [w.1]; exact w.2.1)⟩, fun z => z.1⟩) (fun v hv => ⟨fun z => ⟨z, fun w => hb w.2.1⟩, fun z => z.1⟩)
theorem table_both {N S r : Nat} (hN : 402 ≤ N) (hS : S ≤ 60) (hr : r < 120) {h part : Nat → Int64} {prs : List (Nat × Nat)} {pairs firsts seconds : Nat → Int32} (hp : ∀ a, a < S → ∀ b, b < 64 → tb (part a) b = decide ((a, b) ∈ prs)) (hl : prs.length ≤ 400) (hlt : ∀ q ∈ prs, q.1 < S ∧ q.2 < S) (h0 : pairs r = nI prs.length) (hf : ∀ k, k < prs.length → firsts (400 * r + k) = nI (prs.getD k (0, 0)).1 ∧ seconds (400 * r + k) = nI (prs.getD k (0, 0)).2) (keep g : Nat → Int64) :
    ∃ keep' g', p_Kernel_keepTable N S h keep (nI 2) part = some keep' ∧ p_Mo_byTable N pairs firsts seconds h g (nI r) = some g' ∧ Same h keep' g' 2 := by
  obtain ⟨y2, y4, e1, h2, h4⟩ := tab_c N hS (h := h) hp keep N 0 0 0 (by omega) (by omega) (fun v hv => ⟨fun z => (by rw [tb_0] at z; cases z), fun z => absurd z.1 (Nat.not_lt_zero _)⟩) (fun v hv => ⟨fun z => (by rw [tb_0] at z; cases z), fun ⟨_, c, z, _⟩ => absurd z (Nat.not_lt_zero _)⟩)
  obtain ⟨g', e2, m0, m1⟩ := tab_m N hr (h := h) hl (fun q hq => by have := hlt q hq; omega) h0 hf N 0 (vp_updL (vp_updL g 0 (h 0)) 1 (h 1)) (by omega) (by omega)
  refine ⟨vp_updL (vp_updL keep 0 y2) 1 y4, g', ?_, ?_, ?_⟩
  · unfold p_Kernel_keepTable
    rw [if_pos (show nI 2 = (2 : Int32) from rfl)]
    exact e1
  · unfold p_Mo_byTable
    rw [j0, j0, j1, j1, cl0, cl1, show (400 : Int32) = nI 400 from rfl, pk_mul]
    exact e2
  · have gd : ∀ q ∈ prs, ∃ j, j < prs.length ∧ prs.getD j (0, 0) = q := by
      intro q hq
      obtain ⟨j, hj, e⟩ := List.getElem_of_mem hq
      exact ⟨j, hj, by rw [List.getD_eq_getElem?_getD, List.getElem?_eq_getElem hj, e]; rfl⟩
    have gm : ∀ j, j < prs.length → prs.getD j (0, 0) ∈ prs := by
      intro j hj
      rw [List.getD_eq_getElem?_getD, List.getElem?_eq_getElem hj]
      exact List.getElem_mem _
    apply same_of
    intro k hk v hv
    have hk2 : k = 0 ∨ k = 1 := by omega
    rcases hk2 with rfl | rfl
    · rw [m0 v hv, pk_uLn (show 0 ≠ 1 by decide), pk_uLs, pk_uLn (show 0 ≠ 1 by decide), pk_uLs, h2 v hv]
      constructor
      · rintro ⟨a, b⟩
        refine ⟨a, fun ⟨c, d, e, e1, e2, e3⟩ => ?_⟩
        obtain ⟨j, hj, ej⟩ := gd _ e2
        exact b ⟨j, Nat.zero_le _, hj, by rw [ej], a, by rw [ej]; exact e3⟩
      · rintro ⟨a, b⟩
        refine ⟨a, fun ⟨j, _, hj, e1, e2, e3⟩ => b ?_⟩
        have hm := gm j hj
        have hbd := hlt _ hm
        exact ⟨by omega, a, (prs.getD j (0, 0)).2, by omega, by rw [← e1]; exact hm, e3⟩
    · rw [m1 v hv, pk_uLs, pk_uLs, h4 v hv]
      constructor
      · rintro ⟨a, b⟩
        refine ⟨a, fun ⟨c, d, e1, e2, e3⟩ => ?_⟩
        obtain ⟨j, hj, ej⟩ := gd _ e3
        exact b ⟨j, Nat.zero_le _, hj, by rw [ej], by rw [ej]; exact e2, a⟩
      · rintro ⟨a, b⟩
        refine ⟨a, fun ⟨j, _, hj, e1, e2, e3⟩ => b ?_⟩
        have hm := gm j hj
        have hbd := hlt _ hm
        exact ⟨a, (prs.getD j (0, 0)).1, hbd.1, e2, by rw [← e1]; exact hm⟩

