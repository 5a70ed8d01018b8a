/-! Giving: moving on, and one newcomer. -/
def LineOK (h : Nat → Int64) (gv : Nat → Nat) (w e : Nat) (li : Nat → Nat) (asked : Int32) (ab line : Nat → Int32) : Prop :=
  0 < e ∧ e ≤ 16 ∧ li 0 = w ∧ (∀ k, 0 < k → k < e → li k < w) ∧ (∀ i j, i < e → j < e → li i = li j → i = j) ∧ (∀ k, k < e → line k = nI (li k)) ∧ (∀ o, o < w → (bt asked o = true ↔ ∃ k, k < e ∧ li k = o)) ∧ (∀ k, 0 < k → k < e → ∃ k', k' < k ∧ ab (li k) = nI (li k') ∧ tb (h (li k')) (gv (li k)) = true)
theorem moveOn_loop (N : Nat) {h : Nat → Int64} {gv : Nat → Nat} {w e : Nat} {li : Nat → Nat} {asked : Int32} {ab line : Nat → Int32} (hw : w < 16) (hL : LineOK h gv w e li asked ab line) {used : Int64} :
    ∀ n k st (t : Nat → Int32) (g : Nat → Nat) s, k < n → k + st ≤ 15 → k < e → (∀ i, i < w → t i = nI (g i) ∧ g i < 60 ∧ tb (h i) (g i) = true) → (∀ i j, i < w → j < w → g i = g j → i = j) → (∀ i, i < w → g i ≠ s) → s < 60 → tb (h (li k)) s = true → (∀ j, j ≤ k → 0 < j → g (li j) = gv (li j)) → (∀ v, v < 64 → (tb used v = true ↔ v = s ∨ ∃ i, i < w ∧ g i = v)) →
      ∃ t' g', q_Giving_moveOn_21 N ab (nI w) n (nI (li k)) (nI s) (nI st) used t = some (used, t') ∧ Mat h (w + 1) used t' g' := by
  obtain ⟨l1, l2, l3, l4, l5, l6, l7, l8⟩ := hL
  intro n
  induction n with
  | zero => intro k st t g s hk; omega
  | succ n ih =>
    intro k st t g s hk hst hke ht hinj hs hs64 hks hold hused
    rw [q_Giving_moveOn_21]
    show ∃ t' g', (if nI 16 ≤ nI st then _ else _) = _ ∧ _
    rw [if_neg (nI_ge (by omega) (by decide))]
    by_cases hk0 : k = 0
    · subst hk0
      rw [l3] at hks ⊢
      rw [if_pos rfl]
      unfold q_Giving_moveOn_74
      rw [jin_nI hw (by decide), nI_clamp (by omega)]
      refine ⟨_, va_up g w s, rfl, ?_, ?_, ?_⟩
      · intro i hi
        by_cases hiw : i = w
        · subst hiw
          rw [ud_s, vu_s]
          exact ⟨rfl, hs64, hks⟩
        · rw [ud_n hiw, vu_n hiw]
          exact ht i (by omega)
      · intro i j hi hj
        by_cases hiw : i = w
        · subst hiw
          by_cases hjw : j = i
          · intro _; exact hjw.symm
          · rw [vu_s, vu_n hjw]
            intro e
            exact absurd e.symm (hs j (by omega))
        · by_cases hjw : j = w
          · subst hjw
            rw [vu_s, vu_n hiw]
            intro e
            exact absurd e (hs i (by omega))
          · rw [vu_n hiw, vu_n hjw]
            exact hinj i j (by omega) (by omega)
      · intro v hv
        rw [hused v hv]
        constructor
        · rintro (e | ⟨i, hi, e⟩)
          · exact ⟨w, by omega, by rw [vu_s]; exact e.symm⟩
          · exact ⟨i, by omega, by rw [vu_n (by omega)]; exact e⟩
        · rintro ⟨i, hi, e⟩
          by_cases hiw : i = w
          · subst hiw
            rw [vu_s] at e
            exact Or.inl e.symm
          · rw [vu_n hiw] at e
            exact Or.inr ⟨i, by omega, e⟩
    · have hlk := l4 k (by omega) hke
      obtain ⟨k', hk', hab, htb⟩ := l8 k (by omega) hke
      obtain ⟨t1, t2, t3⟩ := ht (li k) hlk
      rw [if_neg (fun z => by have := (nI_eq (by omega) (by omega)).mp z; omega), jin_nI (by omega) (by decide), jin_nI (by omega) (by decide), jin_nI (by omega) (by decide), nI_clamp (by omega), hab, t1, nI_1]
      have hgk := hold k (Nat.le_refl k) (by omega)
      refine ih k' (st + 1) _ (va_up g (li k) s) (g (li k)) (by omega) (by omega) (by omega) ?_ ?_ ?_ t2 ?_ ?_ ?_
      · intro i hi
        by_cases hix : i = li k
        · subst hix
          rw [ud_s, vu_s]
          exact ⟨rfl, hs64, hks⟩
        · rw [ud_n hix, vu_n hix]
          exact ht i hi
      · intro i j hi hj
        by_cases hix : i = li k
        · by_cases hjx : j = li k
          · intro _; omega
          · rw [hix, vu_s, vu_n hjx]
            intro e
            exact absurd e.symm (hs j hj)
        · by_cases hjx : j = li k
          · rw [hjx, vu_s, vu_n hix]
            intro e
            exact absurd e (hs i hi)
          · rw [vu_n hix, vu_n hjx]
            exact hinj i j hi hj
      · intro i hi
        by_cases hix : i = li k
        · rw [hix, vu_s]
          intro e
          exact hs (li k) hlk e.symm
        · rw [vu_n hix]
          intro e
          exact hix (hinj i (li k) hi hlk e)
      · rw [hgk]; exact htb
      · intro j hj hj0
        have : li j ≠ li k := fun e => by
          have := l5 j k (by omega) hke e
          omega
        rw [vu_n this]
        exact hold j (by omega) hj0
      · intro v hv
        rw [hused v hv]
        constructor
        · rintro (e | ⟨i, hi, e⟩)
          · exact Or.inr ⟨li k, hlk, by rw [vu_s]; exact e.symm⟩
          · by_cases hix : i = li k
            · rw [hix] at e; exact Or.inl e.symm
            · exact Or.inr ⟨i, hi, by rw [vu_n hix]; exact e⟩
        · rintro (e | ⟨i, hi, e⟩)
          · exact Or.inr ⟨li k, hlk, e.symm⟩
          · by_cases hix : i = li k
            · rw [hix, vu_s] at e; exact Or.inl e.symm
            · rw [vu_n hix] at e; exact Or.inr ⟨i, hi, e⟩
theorem line_full {h : Nat → Int64} {gv : Nat → Nat} {w : Nat} {li : Nat → Nat} {asked : Int32} {ab line : Nat → Int32} (hw : w < 16) (hL : LineOK h gv w 16 li asked ab line) {o : Nat} (ho : o < 16) : ∃ k, k < 16 ∧ li k = o := by
  obtain ⟨l1, l2, l3, l4, l5, l6, l7, l8⟩ := hL
  obtain ⟨k, hk, _, e⟩ := cnt_surj (n := 16) (m := 16) (S := fun _ => true) (V := fun _ => true) (g := li) (fun i hi _ => by
    refine ⟨?_, rfl⟩
    by_cases hi0 : i = 0
    · rw [hi0, l3]; exact hw
    · have := l4 i (by omega) hi; omega) (fun i j hi hj _ _ e => l5 i j hi hj e) (Nat.le_refl _) ho rfl
  exact ⟨k, hk, e⟩
theorem give_inner (N : Nat) {h : Nat → Int64} {gv : Nat → Nat} {w a : Nat} {pl : Nat} (hw : w < 16) (hpl : pl < 16) {used : Int64} {given : Nat → Int32} (hg : ∀ i, i < w → given i = nI (gv i) ∧ gv i < 60) (K : Int32 → Int32 → Int32 → Int64 → (Nat → Int32) → (Nat → Int32) → (Nat → Int32) → Option (Int32 × Int64 × (Nat → Int32) × (Nat → Int32) × (Nat → Int32))) :
    ∀ n o e li asked ab line, w - o < n → o ≤ w → LineOK h gv w e li asked ab line → a < e → li a = pl → (∀ q, q < o → tb (h pl) (gv q) = true → ∃ k, k < e ∧ li k = q) →
      ∃ e' li' asked' ab' line', q_Giving_give_81 N h (nI w) K n (nI e) asked (nI a) (nI pl) (nI o) used given ab line = K (nI e') asked' (nI (a + 1)) used given ab' line' ∧ e ≤ e' ∧ (∀ k, k < e → li' k = li k) ∧ LineOK h gv w e' li' asked' ab' line' ∧ (∀ q, q < w → tb (h pl) (gv q) = true → ∃ k, k < e' ∧ li' k = q) := by
  intro n
  induction n with
  | zero => intro o e li asked ab line hn; omega
  | succ n ih =>
    intro o e li asked ab line hn ho hL hae hla hq
    have hL0 := hL
    obtain ⟨l1, l2, l3, l4, l5, l6, l7, l8⟩ := hL
    rw [q_Giving_give_81]
    show ∃ e' li' asked' ab' line', (if nI w ≤ nI o then _ else _) = _ ∧ _
    by_cases hc : w ≤ o
    · rw [if_pos (nI_le hc (by omega))]
      unfold q_Giving_give_158
      rw [nI_1]
      exact ⟨e, li, asked, ab, line, rfl, Nat.le_refl e, fun _ _ => rfl, hL0, fun q hqw => hq q (by omega)⟩
    · rw [if_neg (nI_ge (by omega) (by omega))]
      by_cases he : 16 ≤ e
      · have : e = 16 := by omega
        subst this
        rw [if_pos (nI_le he (by omega))]
        unfold q_Giving_give_158
        rw [nI_1]
        exact ⟨16, li, asked, ab, line, rfl, Nat.le_refl _, fun _ _ => rfl, hL0, fun q hqw _ => line_full hw hL0 (by omega)⟩
      · have how : o < w := by omega
        rw [if_neg (nI_ge (by omega) (by decide))]
        have go : (tb (h pl) (gv o) = true → ∃ k, k < e ∧ li k = o) → ∃ e' li' asked' ab' line', q_Giving_give_152 N (q_Giving_give_81 N h (nI w) K n) (nI e) asked (nI a) (nI pl) (nI o) used given ab line = K (nI e') asked' (nI (a + 1)) used given ab' line' ∧ e ≤ e' ∧ (∀ k, k < e → li' k = li k) ∧ LineOK h gv w e' li' asked' ab' line' ∧ (∀ q, q < w → tb (h pl) (gv q) = true → ∃ k, k < e' ∧ li' k = q) := by
          intro ho2
          unfold q_Giving_give_152
          rw [nI_1]
          refine ih (o + 1) e li asked ab line (by omega) (by omega) hL0 hae hla (fun q hqo hqt => ?_)
          by_cases hqo2 : q = o
          · subst hqo2; exact ho2 hqt
          · exact hq q (by omega) hqt
        by_cases hb : bt asked o = false
        · obtain ⟨g1, g2⟩ := hg o how
          rw [if_pos ((bt_test (by omega) asked).mpr hb), jin_nI (by omega) (by decide), jin_nI (by omega) (by decide), nI_clamp (by omega), nI_clamp (by omega), g1, has_tb N _ (show gv o < 64 by omega), Option.bind_some]
          by_cases ht : tb (h pl) (gv o) = true
          · have hnot : ∀ k, k < e → li k ≠ o := fun k hk e2 => by
              have := (l7 o how).mpr ⟨k, hk, e2⟩
              rw [hb] at this
              cases this
            rw [if_pos ht, if_neg (show ¬ (1 : Int32) = 0 by decide), jin_nI (by omega) (by decide), jin_nI (by omega) (by decide), nI_clamp (by omega)]
            unfold q_Giving_give_152
            rw [nI_1, nI_1]
            have hL2 : LineOK h gv w (e + 1) (va_up li e o) (asked ||| ((1 : Int32) <<< (nI o &&& 31))) (upd ab o (nI pl)) (upd line e (nI o)) := by
              refine ⟨by omega, by omega, ?_, ?_, ?_, ?_, ?_, ?_⟩
              · rw [vu_n (by omega)]; exact l3
              · intro k hk0 hk
                by_cases hke : k = e
                · rw [hke, vu_s]; exact how
                · rw [vu_n hke]; exact l4 k hk0 (by omega)
              · intro i j hi hj
                by_cases hie : i = e
                · by_cases hje : j = e
                  · intro _; omega
                  · rw [hie, vu_s, vu_n hje]
                    intro z
                    exact absurd z.symm (hnot j (by omega))
                · by_cases hje : j = e
                  · rw [hje, vu_s, vu_n hie]
                    intro z
                    exact absurd z (hnot i (by omega))
                  · rw [vu_n hie, vu_n hje]
                    exact l5 i j (by omega) (by omega)
              · intro k hk
                by_cases hke : k = e
                · rw [hke, vu_s, ud_s]
                · rw [vu_n hke, ud_n hke]; exact l6 k (by omega)
              · intro q hqw
                rw [bt_or, bt_bit (by omega) (by omega), Bool.or_eq_true, decide_eq_true_eq, l7 q hqw]
                constructor
                · rintro (⟨k, hk, z⟩ | z)
                  · exact ⟨k, by omega, by rw [vu_n (by omega)]; exact z⟩
                  · exact ⟨e, by omega, by rw [vu_s]; exact z.symm⟩
                · rintro ⟨k, hk, z⟩
                  by_cases hke : k = e
                  · rw [hke, vu_s] at z; exact Or.inr z.symm
                  · rw [vu_n hke] at z; exact Or.inl ⟨k, by omega, z⟩
              · intro k hk0 hk
                by_cases hke : k = e
                · refine ⟨a, by omega, ?_, ?_⟩
                  · rw [hke, vu_s, ud_s, vu_n (by omega), hla]
                  · rw [hke, vu_s, vu_n (by omega), hla]; exact ht
                · obtain ⟨k', hk', z1, z2⟩ := l8 k hk0 (by omega)
                  refine ⟨k', hk', ?_, ?_⟩
                  · rw [vu_n hke, vu_n (by omega), ud_n (hnot k (by omega))]; exact z1
                  · rw [vu_n hke, vu_n (by omega)]; exact z2
            obtain ⟨e', li', asked', ab', line', z1, z2, z3, z4, z5⟩ := ih (o + 1) (e + 1) _ _ _ _ (by omega) (by omega) hL2 (by omega) (by rw [vu_n (by omega)]; exact hla) (fun q hqo hqt => by
              by_cases hqo2 : q = o
              · exact ⟨e, by omega, by rw [vu_s]; exact hqo2.symm⟩
              · obtain ⟨k, hk, z⟩ := hq q (by omega) hqt
                exact ⟨k, by omega, by rw [vu_n (by omega)]; exact z⟩)
            exact ⟨e', li', asked', ab', line', z1, by omega, fun k hk => by rw [z3 k (by omega), vu_n (by omega)], z4, z5⟩
          · rw [if_neg ht, if_pos rfl]
            exact go (fun z => absurd z ht)
        · have hb2 : bt asked o = true := by simpa using hb
          rw [if_neg (fun z => hb ((bt_test (by omega) asked).mp z))]
          exact go (fun _ => (l7 o how).mp hb2)

