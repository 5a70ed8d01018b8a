/-! run on both sides: the same steps, the same answer. -/
theorem run_loop {N P S nR : Nat} (hN : 65538 ≤ N) {RF : Nat → RData} {lower upper : Nat → Int64} {kinds : Nat → Int32} {rights : Nat → Int64} {sizes members : Nat → Int32} {factors : Nat → Int64} {pairs firsts seconds : Nat → Int32} {K : Nat → Int32} {Rt : Nat → Int64} {sz : Nat → Nat} {pl : Nat → Nat → Nat} {fa : Nat → Nat → Int32} {prs : Nat → List (Nat × Nat)} (R : Rls P S nR RF lower upper kinds rights sizes members factors pairs firsts seconds K Rt sz pl fa prs) (th : Int32) :
    ∀ m x (gone empty : Int32) (cand : Nat → Int64) (reasons trail : Nat → Int32) (have_ keep : Nat → Int64) (used : Int64) (mv : Int32) (given ab line reach : Nat → Int32) (head size : Int32) (ring waits : Nat → Int32) (count : Int32) (numbers : Nat → Int32) (w wk : Int32) (mc : Nat → Int64) (mre row order : Nat → Int32) (goes U : Nat → Int64) (tr : List Nat) (rs : Nat → Int32) (l : List Nat) (tf : Nat → Nat),
      Bth P S nR gone empty cand reasons trail head size ring waits mc mre w row tr rs l → ToldOK count numbers x tf → ToldOK wk order x tf → Phi tr l ≤ m → x + m < 1000000 → ∀ f1 f2, m < f1 → m < f2 →
      ∃ o gone2 empty2 cand2 reasons2 trail2 have2 keep2 used2 mv2 given2 ab2 line2 reach2 head2 size2 ring2 waits2 count2 numbers2 w2 wk2 mc2 mre2 row2 order2 goes2 U2 tr2 rs2 l2 tn2 tf2,
        q_RK_run_9 N P (64 * P) (P * S) P P (nI nR) (nI S) lower upper (nI S) nR RF f1 (nI x) gone empty cand reasons trail have_ keep used mv given ab line reach head size ring waits count numbers = some (o, gone2, empty2, cand2, reasons2, trail2, have2, keep2, used2, mv2, given2, ab2, line2, reach2, head2, size2, ring2, waits2, count2, numbers2) ∧
        q_Mo_run_10 N (nI P) (nI S) (nI nR) kinds rights sizes members factors pairs firsts seconds f2 th w wk mc mre row order have_ goes U = some (o, th, w2, wk2, mc2, mre2, row2, order2, have2, goes2, U2) ∧
        Bth P S nR gone2 empty2 cand2 reasons2 trail2 head2 size2 ring2 waits2 mc2 mre2 w2 row2 tr2 rs2 l2 ∧ ToldOK count2 numbers2 tn2 tf2 ∧ ToldOK wk2 order2 tn2 tf2 ∧ EX tr rs tr2 rs2 := by
  have hP := R.p
  intro m
  induction m with
  | zero =>
    intro x gone empty cand reasons trail have_ keep used mv given ab line reach head size ring waits count numbers w wk mc mre row order goes U tr rs l tf B T1 T2 hphi hx f1 f2 hf1 hf2
    obtain ⟨f1, rfl⟩ : ∃ m, f1 = m + 1 := ⟨f1 - 1, by omega⟩
    obtain ⟨f2, rfl⟩ : ∃ m, f2 = m + 1 := ⟨f2 - 1, by omega⟩
    have hl : l = [] := by
      unfold Phi at hphi
      exact List.length_eq_zero_iff.mp (by omega)
    obtain ⟨o, e1, e2, e3⟩ := empty_both (N := N) (by omega) hP (c := cand) (d := mc) (fun k hk => CandOK.eq B.bd.2.2.2.1 B.mb.1 hk)
    obtain ⟨h0, _, _, hsz, _⟩ := B.ro
    refine ⟨o + 1, gone, empty, cand, reasons, trail, have_, keep, used, mv, given, ab, line, reach, head, size, ring, waits, count, numbers, w, wk, mc, mre, row, order, goes, U, tr, rs, l, x, tf, ?_, ?_, B, T1, T2, EX.rfl'⟩
    · rw [q_RK_run_9]
      show (if (1000000 : Int32) ≤ nI x then _ else (if size ≤ 0 then _ else _)) = _
      rw [if_neg (show ¬ (1000000 : Int32) ≤ nI x from nI_ge (b := 1000000) (by omega) (by decide)), if_pos (by rw [hsz, hl]; decide)]
      unfold q_RK_run_45
      rw [B.bd.2.2.2.2.2, e1]
      rfl
    · rw [q_Mo_run_10]
      show (p_Mo_emptyPlace N (nI P) mc).bind _ = _
      rw [e2, Option.bind_some]
      show (if 0 ≤ o then _ else (if w ≤ 0 then _ else _)) = _
      rw [if_pos (show w ≤ 0 by rw [B.rm.1, hl]; decide), ite_self]
      unfold q_Mo_run_198
      rw [e2]
      rfl
  | succ m ih =>
    intro x gone empty cand reasons trail have_ keep used mv given ab line reach head size ring waits count numbers w wk mc mre row order goes U tr rs l tf B T1 T2 hphi hx f1 f2 hf1 hf2
    obtain ⟨f1, rfl⟩ : ∃ m, f1 = m + 1 := ⟨f1 - 1, by omega⟩
    obtain ⟨f2, rfl⟩ : ∃ m, f2 = m + 1 := ⟨f2 - 1, by omega⟩
    obtain ⟨o, e1, e2, e3⟩ := empty_both (N := N) (by omega) hP (c := cand) (d := mc) (fun k hk => CandOK.eq B.bd.2.2.2.1 B.mb.1 hk)
    obtain ⟨h0, _, _, hsz, _⟩ := B.ro
    have hEle := cntE_le cand P
    have c45 : q_RK_run_45 N P gone empty cand reasons trail have_ keep used mv given ab line reach head size ring waits count numbers = some (o + 1, gone, empty, cand, reasons, trail, have_, keep, used, mv, given, ab, line, reach, head, size, ring, waits, count, numbers) := by
      unfold q_RK_run_45
      rw [B.bd.2.2.2.2.2, e1]
      rfl
    have m198 : q_Mo_run_198 N (nI P) th w wk mc mre row order have_ goes U = some (o + 1, th, w, wk, mc, mre, row, order, have_, goes, U) := by
      unfold q_Mo_run_198
      rw [e2]
      rfl
    have hx1 : ¬ (1000000 : Int32) ≤ nI x := nI_ge (b := 1000000) (by omega) (by decide)
    by_cases hE : cntE cand P = 0
    · have ho : ¬ 0 ≤ o := by
        rcases e3 with ⟨q, _⟩ | ⟨k, _, _, q⟩
        · rw [q]; decide
        · exact absurd hE q
      cases l with
      | nil =>
        refine ⟨o + 1, gone, empty, cand, reasons, trail, have_, keep, used, mv, given, ab, line, reach, head, size, ring, waits, count, numbers, w, wk, mc, mre, row, order, goes, U, tr, rs, [], x, tf, ?_, ?_, B, T1, T2, EX.rfl'⟩
        · rw [q_RK_run_9]
          show (if (1000000 : Int32) ≤ nI x then _ else (if size ≤ 0 then _ else _)) = _
          rw [if_neg hx1, if_pos (by rw [hsz]; decide)]
          exact c45
        · rw [q_Mo_run_10]
          show (p_Mo_emptyPlace N (nI P) mc).bind _ = _
          rw [e2, Option.bind_some]
          show (if 0 ≤ o then _ else (if w ≤ 0 then _ else _)) = _
          rw [if_pos (show w ≤ 0 by rw [B.rm.1]; decide), ite_self]
          exact m198
      | cons r l =>
        have hlen : (r :: l).length ≤ 120 := B.rm.len
        have hpos : 0 < (r :: l).length := by rw [List.length_cons]; omega
        obtain ⟨gone2, empty2, cand2, reasons2, trail2, have2, keep2, used2, mv2, given2, ab2, line2, reach2, head2, size2, ring2, waits2, count2, numbers2, w2, wk2, mc2, mre2, row2, order2, goes2, U2, tr2, rs2, l2, F1, F2, F3, F4, F5, F6, F7⟩ := step_both hN R (q_Mo_run_10 N (nI P) (nI S) (nI nR) kinds rights sizes members factors pairs firsts seconds f2) th (have_ := have_) (keep := keep) (used := used) (mv := mv) (given := given) (ab := ab) (line := line) (reach := reach) (goes := goes) (U := U) B hE T1 T2 (by omega)
        obtain ⟨o3, gone3, empty3, cand3, reasons3, trail3, have3, keep3, used3, mv3, given3, ab3, line3, reach3, head3, size3, ring3, waits3, count3, numbers3, w3, wk3, mc3, mre3, row3, order3, goes3, U3, tr3, rs3, l3, tn3, tf3, G1, G2, G3, G4, G5, G6⟩ := ih (x + 1) gone2 empty2 cand2 reasons2 trail2 have2 keep2 used2 mv2 given2 ab2 line2 reach2 head2 size2 ring2 waits2 count2 numbers2 w2 wk2 mc2 mre2 row2 order2 goes2 U2 tr2 rs2 l2 _ F3 F4 F5 (by omega) (by omega) f1 f2 (by omega) (by omega)
        refine ⟨o3, gone3, empty3, cand3, reasons3, trail3, have3, keep3, used3, mv3, given3, ab3, line3, reach3, head3, size3, ring3, waits3, count3, numbers3, w3, wk3, mc3, mre3, row3, order3, goes3, U3, tr3, rs3, l3, tn3, tf3, ?_, ?_, G3, G4, G5, F6.trans G6⟩
        · rw [q_RK_run_9]
          show (if (1000000 : Int32) ≤ nI x then _ else (if size ≤ 0 then _ else (if empty = 0 then _ else _))) = _
          rw [if_neg hx1, if_neg (show ¬ size ≤ 0 by rw [hsz]; exact nI_nle hpos (by omega)), if_pos (show empty = 0 by rw [B.bd.2.2.2.2.2, hE]; rfl), F1, Option.bind_some, nI_1]
          exact G1
        · rw [q_Mo_run_10]
          show (p_Mo_emptyPlace N (nI P) mc).bind _ = _
          rw [e2, Option.bind_some]
          show (if 0 ≤ o then _ else (if w ≤ 0 then _ else _)) = _
          rw [if_neg ho, if_neg (show ¬ w ≤ 0 by rw [B.rm.1]; exact nI_nle hpos (by omega)), show jin (0 : Int32) 120 _ = _ from jin_nI (i := 0) (by decide) (by decide)]
          exact F2.trans G2
    · have ho : 0 ≤ o := by
        rcases e3 with ⟨_, q⟩ | ⟨k, q1, q2, _⟩
        · exact absurd q hE
        · rw [q2]; exact nI_pos' (by omega)
      refine ⟨o + 1, gone, empty, cand, reasons, trail, have_, keep, used, mv, given, ab, line, reach, head, size, ring, waits, count, numbers, w, wk, mc, mre, row, order, goes, U, tr, rs, l, x, tf, ?_, ?_, B, T1, T2, EX.rfl'⟩
      · rw [q_RK_run_9]
        show (if (1000000 : Int32) ≤ nI x then _ else (if size ≤ 0 then _ else (if empty = 0 then _ else _))) = _
        rw [if_neg hx1, if_neg (show ¬ empty = 0 by rw [B.bd.2.2.2.2.2]; exact nI_ne0 (by omega) (by omega)), c45, ite_self]
      · rw [q_Mo_run_10]
        show (p_Mo_emptyPlace N (nI P) mc).bind _ = _
        rw [e2, Option.bind_some]
        show (if 0 ≤ o then _ else (if w ≤ 0 then _ else _)) = _
        rw [if_pos ho]
        exact m198
theorem run_both {N P S nR : Nat} (hN : 921722 ≤ N) {RF : Nat → RData} {lower upper : Nat → Int64} {kinds : Nat → Int32} {rights : Nat → Int64} {sizes members : Nat → Int32} {factors : Nat → Int64} {pairs firsts seconds : Nat → Int32} {K : Nat → Int32} {Rt : Nat → Int64} {sz : Nat → Nat} {pl : Nat → Nat → Nat} {fa : Nat → Nat → Int32} {prs : Nat → List (Nat × Nat)} (R : Rls P S nR RF lower upper kinds rights sizes members factors pairs firsts seconds K Rt sz pl fa prs)
    {gone empty : Int32} {cand : Nat → Int64} {reasons trail : Nat → Int32} {have_ keep : Nat → Int64} {used : Int64} {mv : Int32} {given ab line reach : Nat → Int32} {head size : Int32} {ring waits : Nat → Int32} {numbers : Nat → Int32} {w : Int32} {mc : Nat → Int64} {mre row order : Nat → Int32} {goes U : Nat → Int64} {tr : List Nat} {rs : Nat → Int32} {l : List Nat} (B : Bth P S nR gone empty cand reasons trail head size ring waits mc mre w row tr rs l) :
      ∃ o gone2 empty2 cand2 reasons2 trail2 have2 keep2 used2 mv2 given2 ab2 line2 reach2 head2 size2 ring2 waits2 count2 numbers2 w2 wk2 mc2 mre2 row2 order2 goes2 U2 tr2 rs2 l2 tn2 tf2,
        p_RK_run N P (64 * P) (P * S) P P (nI nR) (nI S) gone empty cand reasons trail lower upper (nI S) have_ keep used mv given ab line reach head size ring waits numbers nR RF = some (o, gone2, empty2, cand2, reasons2, trail2, have2, keep2, used2, mv2, given2, ab2, line2, reach2, head2, size2, ring2, waits2, count2, numbers2) ∧
        p_Mo_run N (nI P) (nI S) (nI nR) w mc mre kinds rights sizes members factors pairs firsts seconds row order have_ goes U = some (o, 0, w2, wk2, mc2, mre2, row2, order2, have2, goes2, U2) ∧
        Bth P S nR gone2 empty2 cand2 reasons2 trail2 head2 size2 ring2 waits2 mc2 mre2 w2 row2 tr2 rs2 l2 ∧ ToldOK count2 numbers2 tn2 tf2 ∧ ToldOK wk2 order2 tn2 tf2 ∧ EX tr rs tr2 rs2 := by
  have hphi : Phi tr l ≤ 921720 := by
    have := B.rm.len
    unfold Phi
    omega
  unfold p_RK_run p_Told_clear p_Mo_run
  rw [Option.bind_some]
  exact run_loop (by omega) R 0 921720 0 gone empty cand reasons trail have_ keep used mv given ab line reach head size ring waits 0 numbers w 0 mc mre row order goes U tr rs l (fun _ => 0) B ⟨rfl, by decide, fun k hk => absurd hk (Nat.not_lt_zero _)⟩ ⟨rfl, by decide, fun k hk => absurd hk (Nat.not_lt_zero _)⟩ hphi (by omega) N N (by omega) (by omega)

