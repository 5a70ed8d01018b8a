/-! One step of run on both sides. -/
theorem run_load (N : Nat) {P n r : Nat} (hn : n ≤ 16) {RF : Nat → RData} (hsz : (RF r).2.2.2.1 = nI n) {pl : Nat → Nat} (hpl : ∀ k, k < n → (RF r).2.2.2.2.2.1 k = nI (pl k) ∧ pl k < P) (hP : P ≤ 128) {S nR : Nat} {lower upper : Nat → Int64} {gone empty : Int32} {cand : Nat → Int64} {reasons trail : Nat → Int32} {keep : Nat → Int64} {used : Int64} {mv : Int32} {given ab line reach : Nat → Int32} {head size : Int32} {ring waits : Nat → Int32} {count : Int32} {numbers : Nat → Int32} :
    ∀ f k have_, k ≤ n → n - k < f → q_RK_runFirst_29 N P (64 * P) (P * S) P P (nI S) lower upper (nI S) nR RF f (nI r) (nI k) r gone empty cand reasons trail have_ keep used mv given ab line reach head size ring waits count numbers = q_RK_runFirst_66 N P (64 * P) (P * S) P P (nI S) lower upper (nI S) nR RF (nI r) r gone empty cand reasons trail (fun i => if k ≤ i ∧ i < n then cand (pl i) else have_ i) keep used mv given ab line reach head size ring waits count numbers := by
  intro f
  induction f with
  | zero => intro k have_ _ hf; omega
  | succ f ih =>
    intro k have_ hk hf
    rw [q_RK_runFirst_29]
    show (if (RF r).2.2.2.1 ≤ nI k then _ else _) = _
    rw [hsz]
    by_cases hc : n ≤ k
    · rw [if_pos (nI_le hc (by omega))]
      congr 1
      funext i
      rw [if_neg (by omega)]
    · obtain ⟨m1, m2⟩ := hpl k (by omega)
      rw [if_neg (nI_ge (by omega) (by omega)), jin_nI (by omega) (by decide), nI_clamp (by omega), m1, jin_nI m2 (by omega), jin_nI (by omega) (by decide), nI_clamp (by omega), nI_1, ih (k + 1) _ (by omega) (by omega)]
      congr 1
      funext i
      by_cases he : i = k
      · subst he
        rw [if_neg (by omega), if_pos ⟨Nat.le_refl _, by omega⟩, pk_uLs]
      · rw [pk_uLn he]
        by_cases h3 : k ≤ i ∧ i < n
        · rw [if_pos h3, if_pos ⟨by omega, h3.2⟩]
        · rw [if_neg h3, if_neg (by omega)]
theorem shift_loop (N : Nat) {m : Nat} (hm : m < 120) {sy rules : Int32} {kinds : Nat → Int32} {rights : Nat → Int64} {sizes members : Nat → Int32} {factors : Nat → Int64} {pairs firsts seconds : Nat → Int32} (K10 : MK8) (x1 th wk : Int32) (mc : Nat → Int64) (mre order : Nat → Int32) (had goes U : Nat → Int64) (row0 : Nat → Int32) :
    ∀ f k row, k ≤ m → m - k < f → (∀ i, i < k → row i = row0 (i + 1)) → (∀ i, k ≤ i → row i = row0 i) → ∃ row', q_Mo_run_43 N sy rules kinds rights sizes members factors pairs firsts seconds K10 f x1 (nI k) th (nI m) wk mc mre row order had goes U = q_Mo_run_71 N sy rules kinds rights sizes members factors pairs firsts seconds K10 x1 th (nI m) wk mc mre row' order had goes U ∧ ∀ i, i < m → row' i = row0 (i + 1) := by
  intro f
  induction f with
  | zero => intro k row _ hf; omega
  | succ f ih =>
    intro k row hk hf h1 h2
    rw [q_Mo_run_43]
    show ∃ row', (if nI m ≤ nI k then _ else _) = _ ∧ _
    by_cases hc : m ≤ k
    · rw [if_pos (nI_le hc (by omega))]
      exact ⟨row, rfl, fun i hi => h1 i (by omega)⟩
    · rw [if_neg (nI_ge (by omega) (by omega)), nI_1, jin_nI (by omega) (by decide), jin_nI (by omega) (by decide), nI_clamp (by omega), nI_clamp (by omega)]
      refine ih (k + 1) _ (by omega) (by omega) (fun i hi => ?_) (fun i hi => ?_)
      · by_cases he : i = k
        · subst he; rw [pk_us, h2 _ (by omega)]
        · rw [pk_un he, h1 i (by omega)]
      · rw [pk_un (by omega), h2 i (by omega)]
theorem told_m {wk : Int32} {order : Nat → Int32} {tn : Nat} {tf : Nat → Nat} (h : ToldOK wk order tn tf) (ht : tn + 1 < 2 ^ 31) (r : Nat) : (¬ (1000 : Int32) ≤ wk → tn < 1000 ∧ ToldOK (wk + 1) (upd order tn (nI r)) (tn + 1) (tfA tf tn r)) ∧ ((1000 : Int32) ≤ wk → ToldOK (wk + 1) order (tn + 1) (tfA tf tn r)) := by
  obtain ⟨h1, h2, h3⟩ := h
  constructor
  · intro hc
    have htn : tn < 1000 := by
      apply Classical.byContradiction
      intro q
      apply hc
      rw [h1]
      exact nI_le (a := 1000) (by omega) h2
    refine ⟨htn, by rw [h1, nI_1], ht, fun k hk hk2 => ?_⟩
    unfold tfA
    by_cases he : k = tn
    · subst he; rw [pk_us, vu_s]
    · rw [pk_un he, vu_n he]
      exact h3 k (by omega) hk2
  · intro hc
    have htn : 1000 ≤ tn := by
      apply Classical.byContradiction
      intro q
      rw [h1] at hc
      exact nI_ge (b := 1000) (by omega) (by decide) hc
    refine ⟨by rw [h1, nI_1], ht, fun k hk hk2 => ?_⟩
    unfold tfA
    rw [vu_n (by omega)]
    exact h3 k (by omega) hk2
def Phi (tr : List Nat) (l : List Nat) : Nat := l.length + 120 * (7680 - tr.length)
theorem step_both {N P S nR : Nat} (hN : 65538 ≤ N) {RF : Nat → RData} {lower upper : Nat → Int64} {kinds : Nat → Int32} {rights : Nat → Int64} {sizes members : Nat → Int32} {factors : Nat → Int64} {pairs firsts seconds : Nat → Int32} {K : Nat → Int32} {Rt : Nat → Int64} {sz : Nat → Nat} {pl : Nat → Nat → Nat} {fa : Nat → Nat → Int32} {prs : Nat → List (Nat × Nat)} (R : Rls P S nR RF lower upper kinds rights sizes members factors pairs firsts seconds K Rt sz pl fa prs) (K10 : MK8) (th : Int32)
    {gone empty : Int32} {cand : Nat → Int64} {reasons trail : Nat → Int32} {have_ keep : Nat → Int64} {used : Int64} {mv : Int32} {given ab line reach : Nat → Int32} {head size : Int32} {ring waits : Nat → Int32} {count : Int32} {numbers : Nat → Int32} {w wk : Int32} {mc : Nat → Int64} {mre row order : Nat → Int32} {goes U : Nat → Int64} {tr : List Nat} {rs : Nat → Int32} {r : Nat} {l : List Nat} {tn : Nat} {tf : Nat → Nat} (B : Bth P S nR gone empty cand reasons trail head size ring waits mc mre w row tr rs (r :: l)) (hE : cntE cand P = 0) (T1 : ToldOK count numbers tn tf) (T2 : ToldOK wk order tn tf) (ht : tn + 1 < 2 ^ 31) :
    ∃ gone2 empty2 cand2 reasons2 trail2 have2 keep2 used2 mv2 given2 ab2 line2 reach2 head2 size2 ring2 waits2 count2 numbers2 w2 wk2 mc2 mre2 row2 order2 goes2 U2 tr2 rs2 l2,
      p_RK_runFirst N P (64 * P) (P * S) P P (nI nR) (nI S) gone empty cand reasons trail lower upper (nI S) have_ keep used mv given ab line reach head size ring waits count numbers nR RF = some (gone2, empty2, cand2, reasons2, trail2, have2, keep2, used2, mv2, given2, ab2, line2, reach2, head2, size2, ring2, waits2, count2, numbers2) ∧
      q_Mo_run_43 N (nI S) (nI nR) kinds rights sizes members factors pairs firsts seconds K10 N (row 0) (nI 0) th (w - 1) wk mc mre row order have_ goes U = K10 th w2 wk2 mc2 mre2 row2 order2 have2 goes2 U2 ∧
      Bth P S nR gone2 empty2 cand2 reasons2 trail2 head2 size2 ring2 waits2 mc2 mre2 w2 row2 tr2 rs2 l2 ∧ ToldOK count2 numbers2 (tn + 1) (tfA tf tn r) ∧ ToldOK wk2 order2 (tn + 1) (tfA tf tn r) ∧ EX tr rs tr2 rs2 ∧ Phi tr2 l2 < Phi tr (r :: l) := by
  obtain ⟨hR, hG⟩ := R.gh
  have hP := R.p
  have hS := R.s
  have hr : r < nR := B.lr r (List.mem_cons.mpr (Or.inl rfl))
  obtain ⟨g1, g2, g3, g4, g5, g6, g7, g8⟩ := hG r hr
  obtain ⟨c1, c2, c3, c4, c5, c6, c7⟩ := R.rc r hr
  obtain ⟨mm1, mm2, mm3⟩ := R.mm r hr
  have hlen : (r :: l).length ≤ 120 := B.rm.len
  have hll : l.length < 120 := by rw [List.length_cons] at hlen; omega
  -- the class: the first of the row, its number told, its sets
  obtain ⟨h1, s1, w1, E1, RO⟩ := row_leave N B.ro
  obtain ⟨cn, nm, E2, TT1⟩ := told_add N T1 ht r
  have hat : p_RK_ruleAt N (nI nR) nR (nI r) = some (some r) := by
    rcases rk_ruleAt N hR (nI r) with ⟨r', q1, q2, q3⟩ | ⟨q1, _⟩
    · have : r = r' := (nI_eq (by omega) (by omega)).mp q2
      subst this
      exact q3
    · exact absurd rfl (q1 r hr)
  obtain ⟨have2, ehave⟩ : ∃ have2, have2 = fun i => if 0 ≤ i ∧ i < sz r then cand (pl r i) else have_ i := ⟨_, rfl⟩
  have E3 := run_load N (P := P) (n := sz r) g3 c3 (fun k hk => ⟨(c5 k hk).1, (g4 k hk).1⟩) hP (S := S) (nR := nR) (lower := lower) (upper := upper) (gone := gone) (empty := empty) (cand := cand) (reasons := reasons) (trail := trail) (keep := keep) (used := used) (mv := mv) (given := given) (ab := ab) (line := line) (reach := reach) (head := h1) (size := s1) (ring := ring) (waits := w1) (count := cn) (numbers := nm) N 0 have_ (by omega) (by omega)
  rw [← ehave] at E3
  have hcand : CandOK P S cand tr := B.bd.2.2.2.1
  have hh : ∀ k, k < sz r → have2 k = cand (pl r k) := fun k hk => by rw [ehave]; exact if_pos ⟨Nat.zero_le _, hk⟩
  have hne : ∀ k, k < sz r → have2 k ≠ 0 := fun k hk => by rw [hh k hk]; exact (cntE_zero P).mp hE _ (g4 k hk).1
  have hlt : ∀ k, k < sz r → ∀ v, tb (have2 k) v = true → v < S := fun k hk v hv => by
    rw [hh k hk] at hv
    have hv64 : v < 64 := by
      apply Classical.byContradiction
      intro q
      rw [tb_big (by omega)] at hv
      cases hv
    rw [hcand _ (g4 k hk).1 v hv64, decide_eq_true_eq] at hv
    exact hv.1
  -- the reference: the row moves up, the number told, the sets
  have hw : w - 1 = nI l.length := by
    rw [B.rm.1, List.length_cons]
    exact nI_pred l.length
  have hrow0 : row 0 = nI r := by
    have := B.rm.2.1 0 (by rw [List.length_cons]; omega)
    exact this
  obtain ⟨row1, E4, q4⟩ := shift_loop N hll (sy := nI S) (rules := nI nR) (kinds := kinds) (rights := rights) (sizes := sizes) (members := members) (factors := factors) (pairs := pairs) (firsts := firsts) (seconds := seconds) K10 (nI r) th wk mc mre order have_ goes U row N 0 row (by omega) (by omega) (fun i hi => absurd hi (Nat.not_lt_zero _)) (fun _ _ => rfl)
  have RM : RowM (nI l.length) row1 l := by
    refine ⟨rfl, fun k hk => ?_, (List.nodup_cons.mp B.rm.2.2.1).2, fun x hx => B.rm.2.2.2 x (List.mem_cons.mpr (Or.inr hx))⟩
    rw [q4 k hk]
    have := B.rm.2.1 (k + 1) (by rw [List.length_cons]; omega)
    exact this
  obtain ⟨g0, E5, _, q5⟩ := find_load N (P := P) (n := sz r) hP g3 (show r < 120 by omega) (cand := mc) (members := members) (kinds := kinds) (rights := rights) (factors := factors) (pairs := pairs) (firsts := firsts) (seconds := seconds) (pl := pl r) (fun k hk => ⟨(mm3 k hk).1, (g4 k hk).1⟩) (sy := nI S) U N 0 have_ goes (by omega) (by omega)
  have hsame2 : (fun i => if 0 ≤ i ∧ i < sz r then mc (pl r i) else have_ i) = have2 := by
    rw [ehave]
    funext i
    by_cases hi : 0 ≤ i ∧ i < sz r
    · rw [if_pos hi, if_pos hi]
      exact CandOK.eq B.mb.1 hcand (g4 i hi.2).1
    · rw [if_neg hi, if_neg hi]
  rw [hsame2] at E5
  obtain ⟨keep2, used2, mv2, given2, ab2, line2, reach2, goes2, U2, E6, E7, hsame⟩ := decide_both hN hS R.gh R.rt R.rc R.rm hr hne hlt keep used mv given ab line reach g0 U (fun i hi => q5 i (by omega) hi)
  have hgl : ∀ k, k < sz r → ∀ v, tb (goes2 k) v = true → v < S := fun k hk v hv => by
    rw [hsame k hk, tb_and, Bool.and_eq_true] at hv
    exact hlt k hk v hv.1
  have B1 : Bth P S nR gone empty cand reasons trail h1 s1 ring w1 mc mre (nI l.length) row1 tr rs l := ⟨B.bd, B.mb, RO, RM, fun x hx => B.lr x (List.mem_cons.mpr (Or.inr hx)), B.rk⟩
  have mo : ∀ order', ∃ gone2 empty2 cand2 reasons2 trail2 size2 ring2 waits2 mc2 mre2 w2 row2 tr2 rs2 l2,
      q_RK_runFirst_76 N P (64 * P) (P * S) P P (nI S) lower upper nR RF N (nI r) (nI 0) r gone empty cand reasons trail have2 keep2 used2 mv2 given2 ab2 line2 reach2 h1 s1 ring w1 cn nm = some (gone2, empty2, cand2, reasons2, trail2, have2, keep2, used2, mv2, given2, ab2, line2, reach2, h1, size2, ring2, waits2, cn, nm) ∧
      q_Mo_run_91 N (nI S) (nI nR) kinds rights sizes members factors pairs firsts seconds K10 (nI r) th (nI l.length) wk mc mre row1 order' have_ goes U = K10 th w2 (wk + 1) mc2 mre2 row2 order' have2 goes2 U2 ∧
      Bth P S nR gone2 empty2 cand2 reasons2 trail2 h1 size2 ring2 waits2 mc2 mre2 w2 row2 tr2 rs2 l2 ∧ EX tr rs tr2 rs2 ∧ (tr2.length = tr.length → l2 = l) := by
    intro order'
    obtain ⟨gone2, empty2, cand2, reasons2, trail2, size2, ring2, waits2, mc2, mre2, w2, row2, tr2, rs2, l2, F1, F2, F3, F4, F5⟩ := rem_both (N := N) (by omega) R hr hsame hgl K10 th (wk + 1) order' have2 U2 used2 mv2 given2 ab2 line2 reach2 cn nm (sz r) 0 rfl (by omega) N N (by omega) (by omega) _ _ _ _ _ _ _ _ _ _ _ _ _ _ _ _ B1 (fun i _ hi => (hh i hi).symm)
    refine ⟨gone2, empty2, cand2, reasons2, trail2, size2, ring2, waits2, mc2, mre2, w2, row2, tr2, rs2, l2, F1, ?_, F3, F4, F5⟩
    unfold q_Mo_run_91 p_Mo_find
    rw [jin_nI (show r < 120 by omega) (by decide), nI_clamp (show r < 2 ^ 31 by omega), mm1, show (0 : Int32) = nI 0 from rfl, E5, E7, Option.bind_some]
    exact F2
  have cls : ∀ {X}, q_RK_runFirst_76 N P (64 * P) (P * S) P P (nI S) lower upper nR RF N (nI r) (nI 0) r gone empty cand reasons trail have2 keep2 used2 mv2 given2 ab2 line2 reach2 h1 s1 ring w1 cn nm = X → p_RK_runFirst N P (64 * P) (P * S) P P (nI nR) (nI S) gone empty cand reasons trail lower upper (nI S) have_ keep used mv given ab line reach head size ring waits count numbers nR RF = X := by
    intro X hX
    unfold p_RK_runFirst
    rw [E1, Option.bind_some]
    show (p_RK_ruleAt N (nI nR) nR (nI r)).bind _ = _
    rw [hat, Option.bind_some]
    show jlt r nR _ = _
    unfold jlt
    rw [if_pos hr, E2, Option.bind_some]
    refine Eq.trans (show q_RK_runFirst_29 N P (64 * P) (P * S) P P (nI S) lower upper (nI S) nR RF N (nI r) (nI 0) r gone empty cand reasons trail have_ keep used mv given ab line reach h1 s1 ring w1 cn nm = _ from E3) ?_
    unfold q_RK_runFirst_66
    rw [E6, Option.bind_some]
    exact hX
  have phi : ∀ {tr2 rs2 l2}, EX tr rs tr2 rs2 → (tr2.length = tr.length → l2 = l) → TrOK P S tr2 → l2.length ≤ 120 → Phi tr2 l2 < Phi tr (r :: l) := by
    intro tr2 rs2 l2 hx hl hT h120
    obtain ⟨⟨e, rfl⟩, _⟩ := hx
    have hle : (tr ++ e).length ≤ P * S := hT.len (by omega)
    have hps : P * S ≤ 128 * 60 := Nat.mul_le_mul hP hS
    unfold Phi
    rw [List.length_cons]
    rw [List.length_append] at hle hl ⊢
    by_cases h0 : e.length = 0
    · rw [hl (by omega)]
      omega
    · omega
  rw [hrow0, hw, E4]
  unfold q_Mo_run_71
  obtain ⟨tm1, tm2⟩ := told_m T2 ht r
  by_cases hk : (1000 : Int32) ≤ wk
  · rw [if_pos hk]
    obtain ⟨gone2, empty2, cand2, reasons2, trail2, size2, ring2, waits2, mc2, mre2, w2, row2, tr2, rs2, l2, F1, F2, F3, F4, F5⟩ := mo order
    exact ⟨gone2, empty2, cand2, reasons2, trail2, have2, keep2, used2, mv2, given2, ab2, line2, reach2, h1, size2, ring2, waits2, cn, nm, w2, wk + 1, mc2, mre2, row2, order, goes2, U2, tr2, rs2, l2, cls F1, F2, F3, TT1, tm2 hk, F4, phi F4 F5 F3.bd.2.2.1 F3.rm.len⟩
  · obtain ⟨htn, TT2⟩ := tm1 hk
    rw [if_neg hk]
    have ewk : wk = nI tn := T2.1
    obtain ⟨gone2, empty2, cand2, reasons2, trail2, size2, ring2, waits2, mc2, mre2, w2, row2, tr2, rs2, l2, F1, F2, F3, F4, F5⟩ := mo (upd order tn (nI r))
    refine ⟨gone2, empty2, cand2, reasons2, trail2, have2, keep2, used2, mv2, given2, ab2, line2, reach2, h1, size2, ring2, waits2, cn, nm, w2, wk + 1, mc2, mre2, row2, upd order tn (nI r), goes2, U2, tr2, rs2, l2, cls F1, ?_, F3, TT1, TT2, F4, phi F4 F5 F3.bd.2.2.1 F3.rm.len⟩
    rw [ewk] at F2 ⊢
    rw [jin_nI htn (by decide), nI_clamp (by omega)]
    exact F2

