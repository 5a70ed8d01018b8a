/-! What stands at the marks; mark and back on both sides. -/
theorem MoBd.congr {P S : Nat} (hP : P ≤ 128) (hS : S ≤ 60) {c c' : Nat → Int64} {re re' : Nat → Int32} {tr : List Nat} {rs : Nat → Int32} (hT : TrOK P S tr) (h1 : ∀ p, p < 128 → c' p = c p) (h2 : ∀ k, k < 7680 → re' k = re k) (h : MoBd P S c re tr rs) : MoBd P S c' re' tr rs := by
  refine ⟨fun p hp v hv => ?_, fun x hx => ?_⟩
  · rw [h1 p (by omega)]
    exact h.1 p hp v hv
  · obtain ⟨q1, q2⟩ := hT.2 x hx
    rw [h2 _ (by omega)]
    exact h.2 x hx
theorem RowM.congr {w : Int32} {row row' : Nat → Int32} {l : List Nat} (h1 : ∀ k, k < 120 → row' k = row k) (h : RowM w row l) : RowM w row' l := by
  have hl := h.len
  exact ⟨h.1, fun k hk => by rw [h1 k (by omega)]; exact h.2.1 k hk, h.2.2⟩
theorem ToldOK.congr {w : Int32} {f f' : Nat → Int32} {tn : Nat} {tf : Nat → Nat} (h1 : ∀ k, k < 1000 → f' k = f k) (h : ToldOK w f tn tf) : ToldOK w f' tn tf := ⟨h.1, h.2.1, fun k hk hk2 => by rw [h1 k hk2]; exact h.2.2 k hk hk2⟩
/-- one mark -/
def MkOK (P S nR : Nat) (M : MData) (c : Nat → Int64) (re : Nat → Int32) (w : Int32) (row : Nat → Int32) (wk : Int32) (order : Nat → Int32) (g : Nat) (tr : List Nat) (rs : Nat → Int32) : Prop :=
  g ≤ tr.length ∧ M.1 = nI g ∧ MoBd P S c re (tr.take g) rs ∧ (∃ lm, RowOK M.2.1 M.2.2.1 M.2.2.2.1 M.2.2.2.2.1 lm ∧ RowM w row lm ∧ ∀ x ∈ lm, x < nR) ∧ ∃ tn tf, ToldOK M.2.2.2.2.2.1 M.2.2.2.2.2.2 tn tf ∧ ToldOK wk order tn tf
/-- the marks that stand -/
def Mks (P S nR st nM : Nat) (MF : Nat → MData) (kC : Nat → Int64) (kR kW kRo kO kOr : Nat → Int32) (tr : List Nat) (rs : Nat → Int32) : Prop :=
  st ≤ nM ∧ nM ≤ 20 ∧ ∃ g : Nat → Nat, (∀ i j, i ≤ j → j < st → g i ≤ g j) ∧ ∀ j, j < st → MkOK P S nR (MF j) (fun p => kC (128 * j + p)) (fun k => kR (7680 * j + k)) (kW j) (fun k => kRo (120 * j + k)) (kO j) (fun k => kOr (1000 * j + k)) (g j) tr rs
theorem Mks.ext {P S nR st nM : Nat} {MF : Nat → MData} {kC : Nat → Int64} {kR kW kRo kO kOr : Nat → Int32} {tr tr2 : List Nat} {rs rs2 : Nat → Int32} (h : Mks P S nR st nM MF kC kR kW kRo kO kOr tr rs) (hx : EX tr rs tr2 rs2) : Mks P S nR st nM MF kC kR kW kRo kO kOr tr2 rs2 := by
  obtain ⟨h1, h2, g, h3, h4⟩ := h
  obtain ⟨⟨e, rfl⟩, hx⟩ := hx
  refine ⟨h1, h2, g, h3, fun j hj => ?_⟩
  obtain ⟨q1, q2, q3, q4, q5⟩ := h4 j hj
  refine ⟨by rw [List.length_append]; omega, q2, ?_, q4, q5⟩
  rw [List.take_append_of_le_length q1]
  exact ⟨q3.1, fun c hc => by rw [hx c (List.mem_of_mem_take hc)]; exact q3.2 c hc⟩
theorem Mks.none {P S nR nR2 nM : Nat} {MF : Nat → MData} {kC : Nat → Int64} {kR kW kRo kO kOr : Nat → Int32} {tr : List Nat} {rs : Nat → Int32} (h : Mks P S nR 0 nM MF kC kR kW kRo kO kOr tr rs) : Mks P S nR2 0 nM MF kC kR kW kRo kO kOr tr rs :=
  ⟨h.1, h.2.1, fun _ => 0, fun _ _ _ _ => Nat.le_refl _, fun j hj => absurd hj (Nat.not_lt_zero _)⟩
theorem cpF_in {α : Type} {m st k : Nat} (hk : k < m) (X Y : Nat → α) : cpF m st 0 X Y (m * st + k) = X k := by
  unfold cpF
  rw [if_pos (by omega)]
  congr 1
  omega
theorem cpF_out {α : Type} {m st j k : Nat} (hk : k < m) (hj : j < st) (X Y : Nat → α) : cpF m st 0 X Y (m * j + k) = Y (m * j + k) := by
  unfold cpF
  apply if_neg
  rintro ⟨h, _⟩
  have h2 : m * (j + 1) ≤ m * st := Nat.mul_le_mul_left m hj
  rw [Nat.mul_succ] at h2
  omega
theorem bkF_in {α : Type} {m j k : Nat} (hk : k < m) (Kp X : Nat → α) : bkF m j 0 Kp X k = Kp (m * j + k) := if_pos ⟨Nat.zero_le _, hk⟩
theorem mark_both {N P S nR st nM : Nat} (hN : 7682 ≤ N) (hP : P ≤ 128) (hS : S ≤ 60) {MF : Nat → MData} {kC : Nat → Int64} {kR kW kRo kO kOr : Nat → Int32} {gone empty : Int32} {cand : Nat → Int64} {reasons trail : Nat → Int32} {head size : Int32} {ring waits : Nat → Int32} {count : Int32} {numbers : Nat → Int32} {mc : Nat → Int64} {mre : Nat → Int32} {w : Int32} {row : Nat → Int32} {wk : Int32} {order : Nat → Int32} {tr : List Nat} {rs : Nat → Int32} {l : List Nat} {tn : Nat} {tf : Nat → Nat} (hst : st ≤ 20) (B : Bth P S nR gone empty cand reasons trail head size ring waits mc mre w row tr rs l) (T1 : ToldOK count numbers tn tf) (T2 : ToldOK wk order tn tf) (M : Mks P S nR st nM MF kC kR kW kRo kO kOr tr rs) :
    ∃ o st2 nM2 MF2 kC2 kR2 kW2 kRo2 kO2 kOr2, p_RK_mark N (nI st) gone head size ring waits count numbers nM MF = some (o, nI st2, nM2, MF2) ∧ p_Mo_mark N w wk (nI st) mc mre row order kC kR kW kRo kO kOr = some (o, 0, nI st2, kC2, kR2, kW2, kRo2, kO2, kOr2) ∧ st2 ≤ 20 ∧ Mks P S nR st2 nM2 MF2 kC2 kR2 kW2 kRo2 kO2 kOr2 tr rs := by
  by_cases h20 : st = 20
  · subst h20
    refine ⟨-1, 20, nM, MF, kC, kR, kW, kRo, kO, kOr, ?_, ?_, by omega, M⟩
    · unfold p_RK_mark
      rw [if_neg (show ¬ nI 20 < (20 : Int32) by decide)]
    · unfold p_Mo_mark
      rw [if_pos (show nI 20 = (20 : Int32) by decide)]
  · obtain ⟨m1, m2, g, m3, m4⟩ := M
    have hst2 : st < 20 := by omega
    -- what is written into the class's mark
    have mk : ∀ (th ts : Int32) (ri wa nu : Nat → Int32), ∃ ri' wa' nu', p_Row_copyFrom N th ts ri wa head size ring waits = some (head, size, ri', wa') ∧ p_Told_copyFrom N nu count numbers = some (count, nu') ∧ RowOK head size ri' wa' l ∧ ToldOK count nu' tn tf := by
      intro th ts ri wa nu
      obtain ⟨ri', wa', e1, h1⟩ := row_copy (N := N) (by omega) B.ro th ts ri wa
      obtain ⟨nu', e2, h2⟩ := told_copy N T1 nu
      exact ⟨ri', wa', nu', e1, e2, h1, h2⟩
    have hMo := mo_mark N w wk mc mre row order hst2 hN kC kR kW kRo kO kOr
    have fin : ∀ (nM2 : Nat) (ri' wa' nu' : Nat → Int32), st + 1 ≤ nM2 → nM2 ≤ 20 → RowOK head size ri' wa' l → ToldOK count nu' tn tf → Mks P S nR (st + 1) nM2 (va_up MF st (gone, head, size, ri', wa', count, nu')) (cpF 128 st 0 mc kC) (cpF 7680 st 0 mre kR) (upd kW st w) (cpF 120 st 0 row kRo) (upd kO st wk) (cpF 1000 st 0 order kOr) tr rs := by
      intro nM2 ri' wa' nu' a1 a2 a3 a4
      refine ⟨a1, a2, va_up g st tr.length, fun i j hij hj => ?_, fun j hj => ?_⟩
      · by_cases hjs : j = st
        · rw [hjs, vu_s]
          by_cases his : i = st
          · rw [his, vu_s]; exact Nat.le_refl _
          · rw [vu_n his]; exact (m4 i (by omega)).1
        · rw [vu_n hjs, vu_n (show i ≠ st by omega)]
          exact m3 i j hij (by omega)
      · by_cases hjs : j = st
        · subst hjs
          rw [vu_s, vu_s]
          refine ⟨Nat.le_refl _, B.bd.1, ?_, ⟨l, a3, ?_, B.lr⟩, tn, tf, a4, ?_⟩
          · rw [List.take_length]
            exact MoBd.congr hP hS B.bd.2.2.1 (fun p hp => cpF_in hp _ _) (fun k hk => cpF_in hk _ _) B.mb
          · rw [pk_us]
            exact RowM.congr (fun k hk => cpF_in hk _ _) B.rm
          · rw [pk_us]
            exact ToldOK.congr (fun k hk => cpF_in hk _ _) T2
        · obtain ⟨q1, q2, q3, ⟨lm, q4, q5, q6⟩, tn', tf', q7, q8⟩ := m4 j (by omega)
          rw [vu_n hjs, vu_n hjs]
          refine ⟨q1, q2, ?_, ⟨lm, q4, ?_, q6⟩, tn', tf', q7, ?_⟩
          · exact MoBd.congr hP hS (B.bd.2.2.1.take _) (fun p hp => cpF_out hp (by omega) _ _) (fun k hk => cpF_out hk (by omega) _ _) q3
          · rw [pk_un hjs]
            exact RowM.congr (fun k hk => cpF_out hk (by omega) _ _) q5
          · rw [pk_un hjs]
            exact ToldOK.congr (fun k hk => cpF_out hk (by omega) _ _) q8
    by_cases hnM : st < nM
    · obtain ⟨ri', wa', nu', e1, e2, h1, h2⟩ := mk (MF st).2.1 (MF st).2.2.1 (MF st).2.2.2.1 (MF st).2.2.2.2.1 (MF st).2.2.2.2.2.2
      refine ⟨nI st, st + 1, nM, _, _, _, _, _, _, _, ?_, hMo, by omega, fin nM ri' wa' nu' (by omega) m2 h1 h2⟩
      unfold p_RK_mark
      rw [if_pos (show nI st < (20 : Int32) from nI_lt (b := 20) hst2 (by decide)), jin_nI hst2 (by decide), nI_clamp (by omega), show jix nM st = some st from if_pos hnM]
      show jlt st nM _ = _
      unfold jlt
      rw [if_pos hnM, e1, Option.bind_some]
      show (p_Told_copyFrom N (MF st).2.2.2.2.2.2 count numbers).bind _ = _
      rw [e2, Option.bind_some]
      show (if st < nM then _ else _) = _
      rw [if_pos hnM, nI_1, nI_pred]
    · have hnMe : nM = st := by omega
      subst hnMe
      obtain ⟨ri', wa', nu', e1, e2, h1, h2⟩ := mk 0 0 (fun _ => 0) (fun _ => 0) (fun _ => 0)
      refine ⟨nI nM, nM + 1, nM + 1, _, _, _, _, _, _, _, ?_, hMo, by omega, fin (nM + 1) ri' wa' nu' (Nat.le_refl _) (by omega) h1 h2⟩
      unfold p_RK_mark
      rw [if_pos (show nI nM < (20 : Int32) from nI_lt (b := 20) hst2 (by decide)), jin_nI hst2 (by decide), nI_clamp (by omega), show jix nM nM = none from if_neg (Nat.lt_irrefl _)]
      show (p_Mark_init N).bind _ = _
      unfold p_Mark_init p_Row_init p_Told_init
      rw [Option.bind_some]
      show ((some _).bind _ : Option _).bind _ = _
      rw [Option.bind_some, Option.bind_some]
      show jin (nI nM) 20 _ = _
      rw [jin_nI hst2 (by decide)]
      unfold jeq
      rw [if_pos rfl, e1, Option.bind_some]
      show (p_Told_copyFrom N (fun _ => 0) count numbers).bind _ = _
      rw [e2, Option.bind_some, nI_1, nI_pred]
theorem back_both {N P S nR st nM : Nat} (hN : 7682 ≤ N) (hP : P ≤ 128) (hS : S ≤ 60) {MF : Nat → MData} {kC : Nat → Int64} {kR kW kRo kO kOr : Nat → Int32} {gone empty : Int32} {cand : Nat → Int64} {reasons trail : Nat → Int32} {head size : Int32} {ring waits : Nat → Int32} {count : Int32} {numbers : Nat → Int32} {mc : Nat → Int64} {mre : Nat → Int32} {w : Int32} {row : Nat → Int32} {wk : Int32} {order : Nat → Int32} {tr : List Nat} {rs : Nat → Int32} {l : List Nat} {tn : Nat} {tf : Nat → Nat} (hst : st ≤ 20) (B : Bth P S nR gone empty cand reasons trail head size ring waits mc mre w row tr rs l) (T1 : ToldOK count numbers tn tf) (T2 : ToldOK wk order tn tf) (M : Mks P S nR st nM MF kC kR kW kRo kO kOr tr rs) (a : Int32) :
    ∃ o st2 gone2 empty2 cand2 head2 size2 ring2 waits2 count2 numbers2 w2 wk2 mc2 mre2 row2 order2 tr2 l2 tn2 tf2, p_RK_back N P (P * S) (nI st) gone empty cand trail head size ring waits count numbers nM MF a = some (o, nI st2, gone2, empty2, cand2, head2, size2, ring2, waits2, count2, numbers2) ∧ p_Mo_back N w wk (nI st) mc mre row order kC kR kW kRo kO kOr a = some (o, 0, w2, wk2, nI st2, mc2, mre2, row2, order2) ∧ st2 ≤ 20 ∧ Bth P S nR gone2 empty2 cand2 reasons trail head2 size2 ring2 waits2 mc2 mre2 w2 row2 tr2 rs l2 ∧ ToldOK count2 numbers2 tn2 tf2 ∧ ToldOK wk2 order2 tn2 tf2 ∧ Mks P S nR st2 nM MF kC kR kW kRo kO kOr tr2 rs := by
  have stay : p_RK_back N P (P * S) (nI st) gone empty cand trail head size ring waits count numbers nM MF a = some (0, nI st, gone, empty, cand, head, size, ring, waits, count, numbers) → p_Mo_back N w wk (nI st) mc mre row order kC kR kW kRo kO kOr a = some (0, 0, w, wk, nI st, mc, mre, row, order) → ∃ o st2 gone2 empty2 cand2 head2 size2 ring2 waits2 count2 numbers2 w2 wk2 mc2 mre2 row2 order2 tr2 l2 tn2 tf2, p_RK_back N P (P * S) (nI st) gone empty cand trail head size ring waits count numbers nM MF a = some (o, nI st2, gone2, empty2, cand2, head2, size2, ring2, waits2, count2, numbers2) ∧ p_Mo_back N w wk (nI st) mc mre row order kC kR kW kRo kO kOr a = some (o, 0, w2, wk2, nI st2, mc2, mre2, row2, order2) ∧ st2 ≤ 20 ∧ Bth P S nR gone2 empty2 cand2 reasons trail head2 size2 ring2 waits2 mc2 mre2 w2 row2 tr2 rs l2 ∧ ToldOK count2 numbers2 tn2 tf2 ∧ ToldOK wk2 order2 tn2 tf2 ∧ Mks P S nR st2 nM MF kC kR kW kRo kO kOr tr2 rs := fun e1 e2 => ⟨0, st, gone, empty, cand, head, size, ring, waits, count, numbers, w, wk, mc, mre, row, order, tr, l, tn, tf, e1, e2, hst, B, T1, T2, M⟩
  rcases pk_ix a (n := st) (by omega) with h | h | ⟨j, hj, rfl⟩
  · apply stay
    · unfold p_RK_back; rw [if_pos h]
    · unfold p_Mo_back; rw [if_pos h]
  · have hn : ¬ a < nI st := Int32.not_lt.mpr h
    apply stay
    · unfold p_RK_back; rw [if_neg hn, ite_self]
    · unfold p_Mo_back; rw [if_neg hn, ite_self]
  · obtain ⟨m1, m2, g, m3, m4⟩ := M
    obtain ⟨q1, q2, q3, ⟨lm, q4, q5, q6⟩, tn', tf', q7, q8⟩ := m4 j hj
    obtain ⟨e', c', E1, H1⟩ := board_back hN hP hS B.bd q1
    obtain ⟨ri', wa', E2, H2⟩ := row_copy (N := N) (by omega) q4 head size ring waits
    obtain ⟨nu', E3, H3⟩ := told_copy N q7 numbers
    have hlt : nI j < nI st := nI_lt hj (by omega)
    have hnn : ¬ nI j < 0 := nI_pos (by omega)
    have hT := B.bd.2.2.1
    refine ⟨1, j, _, _, _, _, _, _, _, _, _, kW j, kO j, bkF 128 j 0 kC mc, bkF 7680 j 0 kR mre, bkF 120 j 0 kRo row, bkF 1000 j 0 kOr order, tr.take (g j), lm, tn', tf', ?_, ?_, by omega, ⟨H1, ?_, H2, ?_, q6, ?_⟩, H3, ?_, ?_⟩
    · unfold p_RK_back
      rw [if_neg hnn, if_pos hlt, jin_nI (by omega) (by decide), nI_clamp (by omega), show jix nM j = some j from if_pos (by omega)]
      show jlt j nM _ = _
      unfold jlt
      rw [if_pos (by omega), q2, E1, Option.bind_some]
      show (p_Row_copyFrom N head size ring waits (MF j).2.1 (MF j).2.2.1 (MF j).2.2.2.1 (MF j).2.2.2.2.1).bind _ = _
      rw [E2, Option.bind_some]
      show (p_Told_copyFrom N numbers (MF j).2.2.2.2.2.1 (MF j).2.2.2.2.2.2).bind _ = _
      rw [E3, Option.bind_some]
      show (if j < nM then _ else _) = _
      rw [if_pos (by omega)]
    · unfold p_Mo_back
      rw [if_neg hnn, if_pos hlt]
      exact mo_back1 N 0 kC kR kW kRo kO kOr (by omega) hN w wk (nI j) mc mre row order
    · exact MoBd.congr hP hS (hT.take _) (fun p hp => bkF_in hp _ _) (fun k hk => bkF_in hk _ _) q3
    · exact RowM.congr (fun k hk => bkF_in hk _ _) q5
    · intro c hc
      exact B.rk c (List.mem_of_mem_take hc)
    · exact ToldOK.congr (fun k hk => bkF_in hk _ _) q8
    · refine ⟨by omega, m2, g, fun i k hik hk => m3 i k hik (by omega), fun i hi => ?_⟩
      obtain ⟨p1, p2, p3, p4, p5⟩ := m4 i (by omega)
      have hgm := m3 i j (by omega) hj
      refine ⟨by rw [List.length_take]; omega, p2, ?_, p4, p5⟩
      rw [List.take_take, Nat.min_eq_left hgm]
      exact p3

