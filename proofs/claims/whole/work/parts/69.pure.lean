/-! What holds between calls, and that each call keeps it and is answered alike. -/
def Inv (P S : Nat) (rc sd gone empty : Int32) (cand : Nat → Int64) (reasons trail : Nat → Int32) (lower upper have_ : Nat → Int64) (head size : Int32) (ring waits : Nat → Int32) (count : Int32) (numbers : Nat → Int32) (rules w wk marks : Int32) (mc : Nat → Int64) (mre kinds : Nat → Int32) (rights : Nat → Int64) (sizes members : Nat → Int32) (factors : Nat → Int64) (pairs firsts seconds row order : Nat → Int32) (kC : Nat → Int64) (kR kW kRo kO kOr : Nat → Int32) (had : Nat → Int64) (nR : Nat) (RF : Nat → RData) (nM : Nat) (MF : Nat → MData) : Prop :=
  ∃ st tr rs l tn tf K Rt sz pl fa prs, rc = nI nR ∧ rules = nI nR ∧ sd = nI st ∧ marks = nI st ∧ st ≤ 20 ∧ Rls P S nR RF lower upper kinds rights sizes members factors pairs firsts seconds K Rt sz pl fa prs ∧ ZeroT nR sizes pairs ∧ Bth P S nR gone empty cand reasons trail head size ring waits mc mre w row tr rs l ∧ ToldOK count numbers tn tf ∧ ToldOK wk order tn tf ∧ have_ = had ∧ Mks P S nR st nM MF kC kR kW kRo kO kOr tr rs
section STEPS
variable {N P S : Nat} {rc sd gone empty : Int32} {cand : Nat → Int64} {reasons trail : Nat → Int32} {lower upper have_ : Nat → Int64} {head size : Int32} {ring waits : Nat → Int32} {count : Int32} {numbers : Nat → Int32} {rules w wk marks : Int32} {mc : Nat → Int64} {mre kinds : Nat → Int32} {rights : Nat → Int64} {sizes members : Nat → Int32} {factors : Nat → Int64} {pairs firsts seconds row order : Nat → Int32} {kC : Nat → Int64} {kR kW kRo kO kOr : Nat → Int32} {had : Nat → Int64} {nR : Nat} {RF : Nat → RData} {nM : Nat} {MF : Nat → MData}
theorem step_rule (h : Inv P S rc sd gone empty cand reasons trail lower upper have_ head size ring waits count numbers rules w wk marks mc mre kinds rights sizes members factors pairs firsts seconds row order kC kR kW kRo kO kOr had nR RF nM MF) (a1 : Int32) (a2 : Int64) :
    ∃ o rc2 nR2 RF2 th rules2 kinds2 rights2, p_RK_rule N rc sd (nI S) nR RF a1 a2 = some (o, rc2, nR2, RF2) ∧ p_Mo_rule N rules marks kinds rights a1 a2 = some (o, th, rules2, kinds2, rights2) ∧ Inv P S rc2 sd gone empty cand reasons trail lower upper have_ head size ring waits count numbers rules2 w wk marks mc mre kinds2 rights2 sizes members factors pairs firsts seconds row order kC kR kW kRo kO kOr had nR2 RF2 nM MF := by
  obtain ⟨st, tr, rs, l, tn, tf, K, Rt, sz, pl, fa, prs, rfl, rfl, rfl, rfl, hst, R, Z, B, T1, T2, e9, M⟩ := h
  have hR := R.gh.1
  rcases rk_rule N R.s hR hst RF a1 a2 with ⟨ok, e1⟩ | ⟨no, e1⟩
  · rcases mo_rule N hR hst kinds rights a1 a2 with ⟨_, e2⟩ | ⟨no, _⟩
    · obtain ⟨k1, k2, k3, k4, k5, k6⟩ := ok
      subst k6
      refine ⟨_, _, _, _, _, _, _, _, e1, e2, 0, tr, rs, l, tn, tf, _, _, _, _, _, _, rfl, rfl, rfl, rfl, hst, R.add Z k1 k2 k3 k4 k5, fun r h1 h2 => Z r (by omega) h2, B.more, T1, T2, e9, M.none⟩
    · exact absurd ok no
  · rcases mo_rule N hR hst kinds rights a1 a2 with ⟨ok, _⟩ | ⟨_, e2⟩
    · exact absurd ok no
    · exact ⟨_, _, _, _, _, _, _, _, e1, e2, st, tr, rs, l, tn, tf, K, Rt, sz, pl, fa, prs, rfl, rfl, rfl, rfl, hst, R, Z, B, T1, T2, e9, M⟩
theorem nI_u {a b : Nat} (ha : a < 2 ^ 31) (hb : b < 2 ^ 31) {x : Int32} (h1 : x = nI a) (h2 : x = nI b) : a = b := (nI_eq ha hb).mp (h1.symm.trans h2)
theorem rjoin_lt {l : List Nat} {r nR : Nat} (h : ∀ x ∈ l, x < nR) (hr : r < nR) : ∀ x ∈ rjoin l r, x < nR := by
  intro x hx
  unfold rjoin at hx
  by_cases hm : r ∈ l
  · rw [if_pos hm] at hx; exact h x hx
  · rw [if_neg hm, List.mem_append, List.mem_singleton] at hx
    rcases hx with hx | hx
    · exact h x hx
    · rw [hx]; exact hr
theorem step_into (hN : 122 ≤ N) (h : Inv P S rc sd gone empty cand reasons trail lower upper have_ head size ring waits count numbers rules w wk marks mc mre kinds rights sizes members factors pairs firsts seconds row order kC kR kW kRo kO kOr had nR RF nM MF) (a1 a2 : Int32) (a3 : Int64) :
    ∃ o lower2 upper2 size2 ring2 waits2 RF2 th w2 sizes2 members2 factors2 row2, p_RK_into N P P P rc sd lower upper head size ring waits nR RF a1 a2 a3 = some (o, lower2, upper2, size2, ring2, waits2, RF2) ∧ p_Mo_into N (nI P) rules w marks sizes members factors row a1 a2 a3 = some (o, th, w2, sizes2, members2, factors2, row2) ∧ Inv P S rc sd gone empty cand reasons trail lower2 upper2 have_ head size2 ring2 waits2 count numbers rules w2 wk marks mc mre kinds rights sizes2 members2 factors2 pairs firsts seconds row2 order kC kR kW kRo kO kOr had nR RF2 nM MF := by
  obtain ⟨st, tr, rs, l, tn, tf, K, Rt, sz, pl, fa, prs, rfl, rfl, rfl, rfl, hst, R, Z, B, T1, T2, e9, M⟩ := h
  have hR := R.gh.1
  have hP := R.p
  rcases rk_into (N := N) (by omega) hP hst R.gh R.rc R.lu B.ro a1 a2 a3 with ⟨r, p, hr, hp, r1, p1, ok, lo, up, s, g, wa, RF', e1, b1, b2, b3⟩ | ⟨no, e1⟩
  · rcases mo_into hN hP hst R.gh R.mm R.rm B.rm a1 a2 a3 with ⟨r', p', hr', hp', r1', p1', ok', w', row', fac, e2, c1, c2, c3⟩ | ⟨no, _⟩
    · have hrr := nI_u (by omega) (by omega) r1 r1'
      have hpp := nI_u (by omega) (by omega) p1 p1'
      subst hrr
      subst hpp
      refine ⟨_, _, _, _, _, _, _, _, _, _, _, _, _, e1, e2, st, tr, rs, rjoin l r, tn, tf, K, Rt, szI sz r, atI sz pl r p, atI sz fa r a3.toInt32, prs, rfl, rfl, rfl, rfl, hst, ⟨R.p, R.s, GhR_I R.gh hp ok, R.rt, b3, c2, c1, b1⟩, fun x h1 h2 => ?_, ⟨B.bd, B.mb, b2, c3, rjoin_lt B.lr hr, B.rk⟩, T1, T2, e9, M⟩
      rw [pk_un (by omega)]
      exact Z x h1 h2
    · exact absurd ok (no r p hr hp r1 p1)
  · rcases mo_into hN hP hst R.gh R.mm R.rm B.rm a1 a2 a3 with ⟨r', p', hr', hp', r1', p1', ok', _⟩ | ⟨_, e2⟩
    · exact absurd ok' (no r' p' hr' hp' r1' p1')
    · exact ⟨_, _, _, _, _, _, _, _, _, _, _, _, _, e1, e2, st, tr, rs, l, tn, tf, K, Rt, sz, pl, fa, prs, rfl, rfl, rfl, rfl, hst, R, Z, B, T1, T2, e9, M⟩
theorem step_table (hN : 402 ≤ N) (h : Inv P S rc sd gone empty cand reasons trail lower upper have_ head size ring waits count numbers rules w wk marks mc mre kinds rights sizes members factors pairs firsts seconds row order kC kR kW kRo kO kOr had nR RF nM MF) (a1 a2 a3 : Int32) :
    ∃ o size2 ring2 waits2 RF2 th w2 pairs2 firsts2 seconds2 row2, p_RK_table N rc sd (nI S) head size ring waits nR RF a1 a2 a3 = some (o, size2, ring2, waits2, RF2) ∧ p_Mo_table N (nI S) rules w marks kinds pairs firsts seconds row a1 a2 a3 = some (o, th, w2, pairs2, firsts2, seconds2, row2) ∧ Inv P S rc sd gone empty cand reasons trail lower upper have_ head size2 ring2 waits2 count numbers rules w2 wk marks mc mre kinds rights sizes members factors pairs2 firsts2 seconds2 row2 order kC kR kW kRo kO kOr had nR RF2 nM MF := by
  obtain ⟨st, tr, rs, l, tn, tf, K, Rt, sz, pl, fa, prs, rfl, rfl, rfl, rfl, hst, R, Z, B, T1, T2, e9, M⟩ := h
  have hR := R.gh.1
  have hS := R.s
  rcases rk_table (N := N) hS hst R.gh R.rc B.ro a1 a2 a3 with ⟨r, a, b, hr, ha, hb, r1, r2, r3, ok, s, g, wa, RF', e1, b1, b2⟩ | ⟨no, e1⟩
  · rcases mo_table hN hS hst R.gh R.rm B.rm a1 a2 a3 with ⟨r', a', b', hr', ha', hb', r1', r2', r3', ok', w', row', f, sc, e2, c1, c2⟩ | ⟨no, _⟩
    · have hrr := nI_u (by omega) (by omega) r1 r1'
      have haa := nI_u (by omega) (by omega) r2 r2'
      have hbb := nI_u (by omega) (by omega) r3 r3'
      subst hrr
      subst haa
      subst hbb
      refine ⟨_, _, _, _, _, _, _, _, _, _, _, e1, e2, st, tr, rs, rjoin l r, tn, tf, K, Rt, sz, pl, fa, prsT prs r a b, rfl, rfl, rfl, rfl, hst, ⟨R.p, R.s, GhR_T R.gh ha hb ok, R.rt, b2, c1, R.mm, R.lu⟩, fun x h1 h2 => ?_, ⟨B.bd, B.mb, b1, c2, rjoin_lt B.lr hr, B.rk⟩, T1, T2, e9, M⟩
      rw [pk_un (by omega)]
      exact Z x h1 h2
    · exact absurd ok (no r a b hr ha hb r1 r2 r3)
  · rcases mo_table hN hS hst R.gh R.rm B.rm a1 a2 a3 with ⟨r', a', b', hr', ha', hb', r1', r2', r3', ok', _⟩ | ⟨_, e2⟩
    · exact absurd ok' (no r' a' b' hr' ha' hb' r1' r2' r3')
    · exact ⟨_, _, _, _, _, _, _, _, _, _, _, e1, e2, st, tr, rs, l, tn, tf, K, Rt, sz, pl, fa, prs, rfl, rfl, rfl, rfl, hst, R, Z, B, T1, T2, e9, M⟩
theorem ex_m1 {tr e : List Nat} {rs : Nat → Int32} : EX tr rs (tr ++ e) (fun c => if c ∈ tr then rs c else -1) := ⟨⟨e, rfl⟩, fun c hc => if_pos hc⟩
theorem rs_m1 {tr e : List Nat} {rs : Nat → Int32} {nR : Nat} (h : RsOK nR tr rs) : RsOK nR (tr ++ e) (fun c => if c ∈ tr then rs c else -1) := by
  intro c _
  show (if c ∈ tr then rs c else -1) = -1 ∨ ∃ r, r < nR ∧ (if c ∈ tr then rs c else -1) = nI r
  by_cases hm : c ∈ tr
  · rw [if_pos hm]; exact h c hm
  · rw [if_neg hm]; exact Or.inl rfl
theorem gf_lt {c : Nat → Bool} {but : Option Nat} {nR : Nat} {l : List Nat} (h : ∀ x ∈ l, x < nR) : ∀ x ∈ gf c but nR 0 l, x < nR := by
  intro x hx
  rcases gf_mem _ _ _ _ _ _ hx with q | q
  · exact h x q
  · omega
theorem step_take (hN : 122 ≤ N) (h : Inv P S rc sd gone empty cand reasons trail lower upper have_ head size ring waits count numbers rules w wk marks mc mre kinds rights sizes members factors pairs firsts seconds row order kC kR kW kRo kO kOr had nR RF nM MF) (a b : Int32) :
    ∃ o gone2 empty2 cand2 reasons2 trail2 size2 ring2 waits2 th w2 mc2 mre2 row2, p_RK_take N P (64 * P) (P * S) P P (nI S) gone empty cand reasons trail lower upper head size ring waits a b = some (o, gone2, empty2, cand2, reasons2, trail2, size2, ring2, waits2) ∧ p_Mo_take N (nI P) (nI S) rules w mc mre sizes members row a b = some (o, th, w2, mc2, mre2, row2) ∧ Inv P S rc sd gone2 empty2 cand2 reasons2 trail2 lower upper have_ head size2 ring2 waits2 count numbers rules w2 wk marks mc2 mre2 kinds rights sizes members factors pairs firsts seconds row2 order kC kR kW kRo kO kOr had nR RF nM MF := by
  obtain ⟨st, tr, rs, l, tn, tf, K, Rt, sz, pl, fa, prs, rfl, rfl, rfl, rfl, hst, R, Z, B, T1, T2, e9, M⟩ := h
  have hR := R.gh.1
  have hS := R.s
  have hP := R.p
  rcases rk_take (N := N) (by omega) hP hS hR B.bd R.lu B.ro a b with ⟨p, v, hp, hv, p1, v1, hn, g, e, c, re, t, s', g', w', e1, b1, b2⟩ | ⟨no, e1⟩
  · rcases mo_take hN hP hS hR B.bd.2.2.1 B.mb R.mm B.rm a b with ⟨p', v', hp', hv', p1', v1', hn', w2, c2, re2, row2, e2, c3, c4⟩ | ⟨no, _⟩
    · have hpp := nI_u (by omega) (by omega) p1 p1'
      have hvv := nI_u (by omega) (by omega) v1 v1'
      subst hpp
      subst hvv
      exact ⟨_, _, _, _, _, _, _, _, _, _, _, _, _, _, e1, e2, st, _, _, _, tn, tf, K, Rt, sz, pl, fa, prs, rfl, rfl, rfl, rfl, hst, R, Z, ⟨b1, c3, b2, c4, gf_lt B.lr, rs_m1 B.rk⟩, T1, T2, e9, M.ext ex_m1⟩
    · exact absurd (no p v hp hv p1 v1) hn
  · rcases mo_take hN hP hS hR B.bd.2.2.1 B.mb R.mm B.rm a b with ⟨p', v', hp', hv', p1', v1', hn', _⟩ | ⟨_, e2⟩
    · exact absurd (no p' v' hp' hv' p1' v1') hn'
    · exact ⟨_, _, _, _, _, _, _, _, _, _, _, _, _, _, e1, e2, st, tr, rs, l, tn, tf, K, Rt, sz, pl, fa, prs, rfl, rfl, rfl, rfl, hst, R, Z, B, T1, T2, e9, M⟩
theorem step_set (hN : 122 ≤ N) (h : Inv P S rc sd gone empty cand reasons trail lower upper have_ head size ring waits count numbers rules w wk marks mc mre kinds rights sizes members factors pairs firsts seconds row order kC kR kW kRo kO kOr had nR RF nM MF) (a b : Int32) :
    ∃ o gone2 empty2 cand2 reasons2 trail2 size2 ring2 waits2 th w2 mc2 mre2 row2, p_RK_set N P (64 * P) (P * S) P P (nI S) gone empty cand reasons trail lower upper head size ring waits a b = some (o, gone2, empty2, cand2, reasons2, trail2, size2, ring2, waits2) ∧ p_Mo_set N (nI P) (nI S) rules w mc mre sizes members row a b = some (o, th, w2, mc2, mre2, row2) ∧ Inv P S rc sd gone2 empty2 cand2 reasons2 trail2 lower upper have_ head size2 ring2 waits2 count numbers rules w2 wk marks mc2 mre2 kinds rights sizes members factors pairs firsts seconds row2 order kC kR kW kRo kO kOr had nR RF nM MF := by
  obtain ⟨st, tr, rs, l, tn, tf, K, Rt, sz, pl, fa, prs, rfl, rfl, rfl, rfl, hst, R, Z, B, T1, T2, e9, M⟩ := h
  have hR := R.gh.1
  have hS := R.s
  have hP := R.p
  rcases rk_set (N := N) (by omega) hP hS hR B.bd R.lu B.ro a b with ⟨p, v, hp, hv, p1, v1, hn, g, e, c, re, t, s', g', w', e1, b1, b2⟩ | ⟨no, e1⟩
  · rcases mo_set hN hP hS hR B.bd.2.2.1 B.mb R.mm B.rm a b with ⟨p', v', hp', hv', p1', v1', hn', w2, c2, re2, row2, e2, c3, c4⟩ | ⟨no, _⟩
    · have hpp := nI_u (by omega) (by omega) p1 p1'
      have hvv := nI_u (by omega) (by omega) v1 v1'
      subst hpp
      subst hvv
      refine ⟨_, _, _, _, _, _, _, _, _, _, _, _, _, _, e1, e2, st, _, _, _, tn, tf, K, Rt, sz, pl, fa, prs, rfl, rfl, rfl, rfl, hst, R, Z, ⟨b1, c3, b2, c4, ?_, rs_m1 B.rk⟩, T1, T2, e9, M.ext ex_m1⟩
      unfold wrow
      split
      · exact B.lr
      · exact gf_lt B.lr
    · exact absurd (no p v hp hv p1 v1) hn
  · rcases mo_set hN hP hS hR B.bd.2.2.1 B.mb R.mm B.rm a b with ⟨p', v', hp', hv', p1', v1', hn', _⟩ | ⟨_, e2⟩
    · exact absurd (no p' v' hp' hv' p1' v1') hn'
    · exact ⟨_, _, _, _, _, _, _, _, _, _, _, _, _, _, e1, e2, st, tr, rs, l, tn, tf, K, Rt, sz, pl, fa, prs, rfl, rfl, rfl, rfl, hst, R, Z, B, T1, T2, e9, M⟩
theorem step_run (hN : 921722 ≤ N) (h : Inv P S rc sd gone empty cand reasons trail lower upper have_ head size ring waits count numbers rules w wk marks mc mre kinds rights sizes members factors pairs firsts seconds row order kC kR kW kRo kO kOr had nR RF nM MF) (keep : Nat → Int64) (used : Int64) (mv : Int32) (given ab line reach : Nat → Int32) (goes U : Nat → Int64) :
    ∃ o gone2 empty2 cand2 reasons2 trail2 have2 keep2 used2 mv2 given2 ab2 line2 reach2 head2 size2 ring2 waits2 count2 numbers2 th w2 wk2 mc2 mre2 row2 order2 had2 goes2 U2,
      p_RK_run N P (64 * P) (P * S) P P rc (nI S) gone empty cand reasons trail lower upper (nI S) have_ keep used mv given ab line reach head size ring waits numbers nR RF = some (o, gone2, empty2, cand2, reasons2, trail2, have2, keep2, used2, mv2, given2, ab2, line2, reach2, head2, size2, ring2, waits2, count2, numbers2) ∧
      p_Mo_run N (nI P) (nI S) rules w mc mre kinds rights sizes members factors pairs firsts seconds row order had goes U = some (o, th, w2, wk2, mc2, mre2, row2, order2, had2, goes2, U2) ∧
      Inv P S rc sd gone2 empty2 cand2 reasons2 trail2 lower upper have2 head2 size2 ring2 waits2 count2 numbers2 rules w2 wk2 marks mc2 mre2 kinds rights sizes members factors pairs firsts seconds row2 order2 kC kR kW kRo kO kOr had2 nR RF nM MF := by
  obtain ⟨st, tr, rs, l, tn, tf, K, Rt, sz, pl, fa, prs, rfl, rfl, rfl, rfl, hst, R, Z, B, T1, T2, rfl, M⟩ := h
  obtain ⟨o, gone2, empty2, cand2, reasons2, trail2, have2, keep2, used2, mv2, given2, ab2, line2, reach2, head2, size2, ring2, waits2, count2, numbers2, w2, wk2, mc2, mre2, row2, order2, goes2, U2, tr2, rs2, l2, tn2, tf2, E1, E2, B2, T3, T4, X⟩ := run_both hN R (have_ := have_) (keep := keep) (used := used) (mv := mv) (given := given) (ab := ab) (line := line) (reach := reach) (numbers := numbers) (order := order) (goes := goes) (U := U) B
  exact ⟨o, gone2, empty2, cand2, reasons2, trail2, have2, keep2, used2, mv2, given2, ab2, line2, reach2, head2, size2, ring2, waits2, count2, numbers2, 0, w2, wk2, mc2, mre2, row2, order2, have2, goes2, U2, E1, E2, st, tr2, rs2, l2, tn2, tf2, K, Rt, sz, pl, fa, prs, rfl, rfl, rfl, rfl, hst, R, Z, B2, T3, T4, rfl, M.ext X⟩
theorem step_cand (h : Inv P S rc sd gone empty cand reasons trail lower upper have_ head size ring waits count numbers rules w wk marks mc mre kinds rights sizes members factors pairs firsts seconds row order kC kR kW kRo kO kOr had nR RF nM MF) (a : Int32) : ∃ o th, p_RK_candidates N P cand a = some o ∧ p_Mo_candidates N (nI P) mc a = some (o, th) := by
  obtain ⟨st, tr, rs, l, tn, tf, K, Rt, sz, pl, fa, prs, rfl, rfl, rfl, rfl, hst, R, Z, B, T1, T2, e9, M⟩ := h
  obtain ⟨o, e1, e2⟩ := rk_candidates N R.p B.bd.2.2.2.1 B.mb.1 a
  exact ⟨o, _, e1, e2⟩
theorem step_reason (h : Inv P S rc sd gone empty cand reasons trail lower upper have_ head size ring waits count numbers rules w wk marks mc mre kinds rights sizes members factors pairs firsts seconds row order kC kR kW kRo kO kOr had nR RF nM MF) (a1 a2 a3 : Int32) : ∃ o th, p_RK_reason N P (64 * P) rc (nI S) cand reasons nR RF a1 a2 a3 = some o ∧ p_Mo_reason N (nI P) (nI S) mc mre sizes members a1 a2 a3 = some (o, th) := by
  obtain ⟨st, tr, rs, l, tn, tf, K, Rt, sz, pl, fa, prs, rfl, rfl, rfl, rfl, hst, R, Z, B, T1, T2, e9, M⟩ := h
  obtain ⟨o, e1, e2⟩ := reason_both N R.p R.s R.gh R.rc R.mm B.bd.2.2.2.1 B.bd.2.2.2.2.1 B.mb B.rk a1 a2 a3
  exact ⟨o, _, e1, e2⟩
theorem step_mark (hN : 7682 ≤ N) (h : Inv P S rc sd gone empty cand reasons trail lower upper have_ head size ring waits count numbers rules w wk marks mc mre kinds rights sizes members factors pairs firsts seconds row order kC kR kW kRo kO kOr had nR RF nM MF) :
    ∃ o sd2 nM2 MF2 th marks2 kC2 kR2 kW2 kRo2 kO2 kOr2, p_RK_mark N sd gone head size ring waits count numbers nM MF = some (o, sd2, nM2, MF2) ∧ p_Mo_mark N w wk marks mc mre row order kC kR kW kRo kO kOr = some (o, th, marks2, kC2, kR2, kW2, kRo2, kO2, kOr2) ∧ Inv P S rc sd2 gone empty cand reasons trail lower upper have_ head size ring waits count numbers rules w wk marks2 mc mre kinds rights sizes members factors pairs firsts seconds row order kC2 kR2 kW2 kRo2 kO2 kOr2 had nR RF nM2 MF2 := by
  obtain ⟨st, tr, rs, l, tn, tf, K, Rt, sz, pl, fa, prs, rfl, rfl, rfl, rfl, hst, R, Z, B, T1, T2, e9, M⟩ := h
  obtain ⟨o, st2, nM2, MF2, kC2, kR2, kW2, kRo2, kO2, kOr2, e1, e2, h1, h2⟩ := mark_both hN R.p R.s hst B T1 T2 M
  exact ⟨o, _, _, _, _, _, _, _, _, _, _, _, e1, e2, st2, tr, rs, l, tn, tf, K, Rt, sz, pl, fa, prs, rfl, rfl, rfl, rfl, h1, R, Z, B, T1, T2, e9, h2⟩
theorem step_back (hN : 7682 ≤ N) (h : Inv P S rc sd gone empty cand reasons trail lower upper have_ head size ring waits count numbers rules w wk marks mc mre kinds rights sizes members factors pairs firsts seconds row order kC kR kW kRo kO kOr had nR RF nM MF) (a : Int32) :
    ∃ o sd2 gone2 empty2 cand2 head2 size2 ring2 waits2 count2 numbers2 th w2 wk2 marks2 mc2 mre2 row2 order2, p_RK_back N P (P * S) sd gone empty cand trail head size ring waits count numbers nM MF a = some (o, sd2, gone2, empty2, cand2, head2, size2, ring2, waits2, count2, numbers2) ∧ p_Mo_back N w wk marks mc mre row order kC kR kW kRo kO kOr a = some (o, th, w2, wk2, marks2, mc2, mre2, row2, order2) ∧ Inv P S rc sd2 gone2 empty2 cand2 reasons trail lower upper have_ head2 size2 ring2 waits2 count2 numbers2 rules w2 wk2 marks2 mc2 mre2 kinds rights sizes members factors pairs firsts seconds row2 order2 kC kR kW kRo kO kOr had nR RF nM MF := by
  obtain ⟨st, tr, rs, l, tn, tf, K, Rt, sz, pl, fa, prs, rfl, rfl, rfl, rfl, hst, R, Z, B, T1, T2, e9, M⟩ := h
  obtain ⟨o, st2, gone2, empty2, cand2, head2, size2, ring2, waits2, count2, numbers2, w2, wk2, mc2, mre2, row2, order2, tr2, l2, tn2, tf2, e1, e2, h1, h2, h3, h4, h5⟩ := back_both hN R.p R.s hst B T1 T2 M a
  exact ⟨o, _, _, _, _, _, _, _, _, _, _, _, _, _, _, _, _, _, _, e1, e2, st2, tr2, rs, l2, tn2, tf2, K, Rt, sz, pl, fa, prs, rfl, rfl, rfl, rfl, h1, R, Z, h2, h3, h4, e9, h5⟩
theorem step_woken (h : Inv P S rc sd gone empty cand reasons trail lower upper have_ head size ring waits count numbers rules w wk marks mc mre kinds rights sizes members factors pairs firsts seconds row order kC kR kW kRo kO kOr had nR RF nM MF) : ∃ o th, p_RK_woken N count = some o ∧ p_Mo_woken N wk = some (o, th) := by
  obtain ⟨st, tr, rs, l, tn, tf, K, Rt, sz, pl, fa, prs, rfl, rfl, rfl, rfl, hst, R, Z, B, T1, T2, e9, M⟩ := h
  refine ⟨nI tn, 0, ?_, ?_⟩
  · rw [T1.1]; rfl
  · rw [T2.1]; rfl
theorem step_order (h : Inv P S rc sd gone empty cand reasons trail lower upper have_ head size ring waits count numbers rules w wk marks mc mre kinds rights sizes members factors pairs firsts seconds row order kC kR kW kRo kO kOr had nR RF nM MF) (a : Int32) : ∃ o th, p_RK_order N count numbers a = some o ∧ p_Mo_order N wk order a = some (o, th) := by
  obtain ⟨st, tr, rs, l, tn, tf, K, Rt, sz, pl, fa, prs, rfl, rfl, rfl, rfl, hst, R, Z, B, T1, T2, e9, M⟩ := h
  obtain ⟨o, e1, e2⟩ := rk_order N T1 T2 a
  exact ⟨o, _, e1, e2⟩
end STEPS
theorem Inv.init {P S : Nat} (hP : P ≤ 128) (hS1 : 1 ≤ S) (hS : S ≤ 60) {cand mc : Nat → Int64} (h1 : ∀ p, p < P → cand p = j_lshl 1 (nI S) - 1) (h2 : ∀ p, p < P → mc p = j_lshl 1 (nI S) - 1) : Inv P S 0 0 0 0 cand (fun _ => 0) (fun _ => 0) (fun _ => 0) (fun _ => 0) (fun _ => 0) 0 0 (fun _ => 0) (fun _ => 0) 0 (fun _ => 0) 0 0 0 0 mc (fun _ => 0) (fun _ => 0) (fun _ => 0) (fun _ => 0) (fun _ => 0) (fun _ => 0) (fun _ => 0) (fun _ => 0) (fun _ => 0) (fun _ => 0) (fun _ => 0) (fun _ => 0) (fun _ => 0) (fun _ => 0) (fun _ => 0) (fun _ => 0) (fun _ => 0) (fun _ => 0) 0 RF0 0 MF0 := by
  have hc : ∀ c : Nat → Int64, (∀ p, p < P → c p = j_lshl 1 (nI S) - 1) → CandOK P S c [] := by
    intro c hc p hp v hv
    rw [hc p hp, below_tb S (by omega) v hv]
    exact decide_eq_decide.mpr ⟨fun q => ⟨q, List.not_mem_nil⟩, fun q => q.1⟩
  have hE : cntE cand P = 0 := by
    rw [cntE_zero]
    intro k hk z
    have := hc cand h1 k hk 0 (by decide)
    rw [z, tb_0] at this
    have h3 : (0 < S ∧ 64 * k + 0 ∉ ([] : List Nat)) := ⟨by omega, List.not_mem_nil⟩
    rw [decide_eq_true h3] at this
    cases this
  refine ⟨0, [], fun _ => 0, [], 0, fun _ => 0, fun _ => 0, fun _ => 0, fun _ => 0, fun _ _ => 0, fun _ _ => 0, fun _ => [], rfl, rfl, rfl, rfl, by omega, ?_, fun r _ _ => ⟨rfl, rfl⟩, ?_, ?_, ?_, rfl, ?_⟩
  · exact ⟨hP, hS, ⟨by omega, fun r hr => absurd hr (Nat.not_lt_zero _)⟩, fun r hr => absurd hr (Nat.not_lt_zero _), fun r hr => absurd hr (Nat.not_lt_zero _), fun r hr => absurd hr (Nat.not_lt_zero _), fun r hr => absurd hr (Nat.not_lt_zero _), fun p hp => ⟨fun i hi => by rw [tb_0]; simp, fun i hi => by rw [tb_0]; simp, fun i _ _ => tb_0 i, fun i _ _ => tb_0 i⟩⟩
  · refine ⟨⟨rfl, fun k hk => absurd hk (Nat.not_lt_zero _), ⟨List.nodup_nil, fun c hc => absurd hc List.not_mem_nil⟩, hc cand h1, fun c hc => absurd hc List.not_mem_nil, by rw [hE]; rfl⟩, ⟨hc mc h2, fun c hc => absurd hc List.not_mem_nil⟩, ⟨0, by decide, rfl, rfl, fun k hk => absurd hk (Nat.not_lt_zero _), fun r hr => by rw [if_neg List.not_mem_nil], List.nodup_nil, fun r hr => absurd hr List.not_mem_nil⟩, ⟨rfl, fun k hk => absurd hk (Nat.not_lt_zero _), List.nodup_nil, fun r hr => absurd hr List.not_mem_nil⟩, fun x hx => absurd hx List.not_mem_nil, fun c hc => absurd hc List.not_mem_nil⟩
  · exact ⟨rfl, by decide, fun k hk => absurd hk (Nat.not_lt_zero _)⟩
  · exact ⟨rfl, by decide, fun k hk => absurd hk (Nat.not_lt_zero _)⟩
  · exact ⟨Nat.le_refl _, by decide, fun _ => 0, fun _ _ _ hj => absurd hj (Nat.not_lt_zero _), fun j hj => absurd hj (Nat.not_lt_zero _)⟩

