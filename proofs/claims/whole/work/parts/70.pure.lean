/-! The law's loop: every call is answered alike. -/
theorem zI_5 (L : Nat) : nI L - 5 = zI ((L : Int) - 5) := by
  rw [nz]
  exact (Int32.ofInt_sub (L : Int) 5).symm
theorem law_all {N P S L : Nat} (hN : 921722 ≤ N) (hL : L ≤ 2562) (xs : Nat → Int32) : ∀ f x, L - x < f → x ≤ 3000 →
    ∀ {rc sd gone empty : Int32} {cand : Nat → Int64} {reasons trail : Nat → Int32} {lower upper have_ keep : Nat → Int64} {used : Int64} {mv : Int32} {given ab line reach : Nat → Int32} {head size : Int32} {ring waits : Nat → Int32} {count : Int32} {numbers : Nat → Int32} {th rules w wk marks : Int32} {mc : Nat → Int64} {mre kinds : Nat → Int32} {rights : Nat → Int64} {sizes members : Nat → Int32} {factors : Nat → Int64} {pairs firsts seconds row order : Nat → Int32} {kC : Nat → Int64} {kR kW kRo kO kOr : Nat → Int32} {had goes U : Nat → Int64} {nR : Nat} {RF : Nat → RData} {nM : Nat} {MF : Nat → MData},
      Inv P S rc sd gone empty cand reasons trail lower upper have_ head size ring waits count numbers rules w wk marks mc mre kinds rights sizes members factors pairs firsts seconds row order kC kR kW kRo kO kOr had nR RF nM MF →
      q_Law_loop_38 N P (64 * P) (P * S) P P (nI S) (nI S) (nI P) (nI S) L xs f (nI x) rc sd gone empty cand reasons trail lower upper have_ keep used mv given ab line reach head size ring waits count numbers th rules w wk marks mc mre kinds rights sizes members factors pairs firsts seconds row order kC kR kW kRo kO kOr had goes U nR RF nM MF = some 1 := by
  intro f
  induction f with
  | zero => intro x hf; omega
  | succ f ih =>
    intro x hf hx rc sd gone empty cand reasons trail lower upper have_ keep used mv given ab line reach head size ring waits count numbers th rules w wk marks mc mre kinds rights sizes members factors pairs firsts seconds row order kC kR kW kRo kO kOr had goes U nR RF nM MF h
    rw [q_Law_loop_38]
    show (if nI L - 5 < nI x then _ else _) = some 1
    by_cases hc : (L : Int) - 5 < x
    · rw [if_pos (by rw [zI_5, nz x, zltB (by omega) (by omega) (by omega) (by omega)]; exact hc)]
    rw [if_neg (by rw [zI_5, nz x, zltB (by omega) (by omega) (by omega) (by omega)]; exact hc), jin_nI (show x < L by omega) (by omega)]
    have e1 : nI x + (1 : Int32) = nI (x + 1) := nI_add x 1
    have e2 : nI x + (2 : Int32) = nI (x + 2) := nI_add x 2
    have e3 : nI x + (3 : Int32) = nI (x + 3) := nI_add x 3
    have e4 : nI x + (4 : Int32) = nI (x + 4) := nI_add x 4
    have e5 : nI x + (5 : Int32) = nI (x + 5) := nI_add x 5
    have k1 : ∀ {α : Type} {k : Option α}, jin (nI x + (1 : Int32)) L k = k := fun {α k} => by rw [e1]; exact jin_nI (by omega) (by omega)
    have k2 : ∀ {α : Type} {k : Option α}, jin (nI x + (2 : Int32)) L k = k := fun {α k} => by rw [e2]; exact jin_nI (by omega) (by omega)
    have k3 : ∀ {α : Type} {k : Option α}, jin (nI x + (3 : Int32)) L k = k := fun {α k} => by rw [e3]; exact jin_nI (by omega) (by omega)
    have k4 : ∀ {α : Type} {k : Option α}, jin (nI x + (4 : Int32)) L k = k := fun {α k} => by rw [e4]; exact jin_nI (by omega) (by omega)
    unfold q_Law_loop_513
    rw [e5]
    by_cases y0 : (xs (nI x).toNatClampNeg &&& (15 : Int32)) = 0
    · rw [if_pos y0, k1, k2, k3]
      obtain ⟨o, rc2, nR2, RF2, th2, rules2, kinds2, rights2, E1, E2, h2⟩ := step_rule (N := N) h (xs (nI x + (1 : Int32)).toNatClampNeg) ((j_lshl ((xs (nI x + (2 : Int32)).toNatClampNeg).toInt64) (32 : Int32)) ||| ((xs (nI x + (3 : Int32)).toNatClampNeg).toInt64 &&& (4294967295 : Int64)))
      rw [E1, Option.bind_some]
      show jin (nI x + (1 : Int32)) L _ = some 1
      rw [k1, k2, k3, E2, Option.bind_some]
      show (if o = o then _ else _) = some 1
      rw [if_pos rfl]
      exact ih (x + 5) (by omega) (by omega) h2
    rw [if_neg y0]
    by_cases y1 : (xs (nI x).toNatClampNeg &&& (15 : Int32)) = 1
    · rw [if_pos y1, k1, k2, k3, k4]
      obtain ⟨o, lower2, upper2, size2, ring2, waits2, RF2, th2, w2, sizes2, members2, factors2, row2, E1, E2, h2⟩ := step_into (N := N) (by omega) h (xs (nI x + (1 : Int32)).toNatClampNeg) (xs (nI x + (2 : Int32)).toNatClampNeg) ((j_lshl ((xs (nI x + (3 : Int32)).toNatClampNeg).toInt64) (32 : Int32)) ||| ((xs (nI x + (4 : Int32)).toNatClampNeg).toInt64 &&& (4294967295 : Int64)))
      rw [E1, Option.bind_some]
      show jin (nI x + (1 : Int32)) L _ = some 1
      rw [k1, k2, k3, k4, E2, Option.bind_some]
      show (if o = o then _ else _) = some 1
      rw [if_pos rfl]
      exact ih (x + 5) (by omega) (by omega) h2
    rw [if_neg y1]
    by_cases y2 : (xs (nI x).toNatClampNeg &&& (15 : Int32)) = 2
    · rw [if_pos y2, k1, k2, k3]
      obtain ⟨o, size2, ring2, waits2, RF2, th2, w2, pairs2, firsts2, seconds2, row2, E1, E2, h2⟩ := step_table (N := N) (by omega) h (xs (nI x + (1 : Int32)).toNatClampNeg) (xs (nI x + (2 : Int32)).toNatClampNeg) (xs (nI x + (3 : Int32)).toNatClampNeg)
      rw [E1, Option.bind_some]
      show jin (nI x + (1 : Int32)) L _ = some 1
      rw [k1, k2, k3, E2, Option.bind_some]
      show (if o = o then _ else _) = some 1
      rw [if_pos rfl]
      exact ih (x + 5) (by omega) (by omega) h2
    rw [if_neg y2]
    by_cases y3 : (xs (nI x).toNatClampNeg &&& (15 : Int32)) = 3
    · rw [if_pos y3, k1, k2]
      obtain ⟨o, gone2, empty2, cand2, reasons2, trail2, size2, ring2, waits2, th2, w2, mc2, mre2, row2, E1, E2, h2⟩ := step_take (N := N) (by omega) h (xs (nI x + (1 : Int32)).toNatClampNeg) (xs (nI x + (2 : Int32)).toNatClampNeg)
      rw [E1, Option.bind_some]
      show jin (nI x + (1 : Int32)) L _ = some 1
      rw [k1, k2, E2, Option.bind_some]
      show (if o = o then _ else _) = some 1
      rw [if_pos rfl]
      exact ih (x + 5) (by omega) (by omega) h2
    rw [if_neg y3]
    by_cases y4 : (xs (nI x).toNatClampNeg &&& (15 : Int32)) = 4
    · rw [if_pos y4, k1, k2]
      obtain ⟨o, gone2, empty2, cand2, reasons2, trail2, size2, ring2, waits2, th2, w2, mc2, mre2, row2, E1, E2, h2⟩ := step_set (N := N) (by omega) h (xs (nI x + (1 : Int32)).toNatClampNeg) (xs (nI x + (2 : Int32)).toNatClampNeg)
      rw [E1, Option.bind_some]
      show jin (nI x + (1 : Int32)) L _ = some 1
      rw [k1, k2, E2, Option.bind_some]
      show (if o = o then _ else _) = some 1
      rw [if_pos rfl]
      exact ih (x + 5) (by omega) (by omega) h2
    rw [if_neg y4]
    by_cases y5 : (xs (nI x).toNatClampNeg &&& (15 : Int32)) = 5
    · rw [if_pos y5]
      obtain ⟨o, gone2, empty2, cand2, reasons2, trail2, have2, keep2, used2, mv2, given2, ab2, line2, reach2, head2, size2, ring2, waits2, count2, numbers2, th2, w2, wk2, mc2, mre2, row2, order2, had2, goes2, U2, E1, E2, h2⟩ := step_run hN h keep used mv given ab line reach goes U
      rw [E1, Option.bind_some]
      show (p_Mo_run N (nI P) (nI S) rules w mc mre kinds rights sizes members factors pairs firsts seconds row order had goes U).bind _ = some 1
      rw [E2, Option.bind_some]
      show (if o = o then _ else _) = some 1
      rw [if_pos rfl]
      exact ih (x + 5) (by omega) (by omega) h2
    rw [if_neg y5]
    by_cases y6 : (xs (nI x).toNatClampNeg &&& (15 : Int32)) = 6
    · rw [if_pos y6, k1]
      obtain ⟨o, th2, E1, E2⟩ := step_cand (N := N) h (xs (nI x + (1 : Int32)).toNatClampNeg)
      rw [E1, Option.bind_some, k1, E2, Option.bind_some]
      show (if lg_cmp o o = 0 then _ else _) = some 1
      rw [if_pos ((lg_cmp_eq _ _).mpr rfl)]
      exact ih (x + 5) (by omega) (by omega) h
    rw [if_neg y6]
    by_cases y7 : (xs (nI x).toNatClampNeg &&& (15 : Int32)) = 7
    · rw [if_pos y7, k1, k2, k3]
      obtain ⟨o, th2, E1, E2⟩ := step_reason (N := N) h (xs (nI x + (1 : Int32)).toNatClampNeg) (xs (nI x + (2 : Int32)).toNatClampNeg) (xs (nI x + (3 : Int32)).toNatClampNeg)
      rw [E1, Option.bind_some, k1, k2, k3, E2, Option.bind_some]
      show (if o = o then _ else _) = some 1
      rw [if_pos rfl]
      exact ih (x + 5) (by omega) (by omega) h
    rw [if_neg y7]
    by_cases y8 : (xs (nI x).toNatClampNeg &&& (15 : Int32)) = 8
    · rw [if_pos y8]
      obtain ⟨o, sd2, nM2, MF2, th2, marks2, kC2, kR2, kW2, kRo2, kO2, kOr2, E1, E2, h2⟩ := step_mark (N := N) (by omega) h
      rw [E1, Option.bind_some]
      show (p_Mo_mark N w wk marks mc mre row order kC kR kW kRo kO kOr).bind _ = some 1
      rw [E2, Option.bind_some]
      show (if o = o then _ else _) = some 1
      rw [if_pos rfl]
      exact ih (x + 5) (by omega) (by omega) h2
    rw [if_neg y8]
    by_cases y9 : (xs (nI x).toNatClampNeg &&& (15 : Int32)) = 9
    · rw [if_pos y9, k1]
      obtain ⟨o, sd2, gone2, empty2, cand2, head2, size2, ring2, waits2, count2, numbers2, th2, w2, wk2, marks2, mc2, mre2, row2, order2, E1, E2, h2⟩ := step_back (N := N) (by omega) h (xs (nI x + (1 : Int32)).toNatClampNeg)
      rw [E1, Option.bind_some]
      show jin (nI x + (1 : Int32)) L _ = some 1
      rw [k1, E2, Option.bind_some]
      show (if o = o then _ else _) = some 1
      rw [if_pos rfl]
      exact ih (x + 5) (by omega) (by omega) h2
    rw [if_neg y9]
    by_cases y10 : (xs (nI x).toNatClampNeg &&& (15 : Int32)) = 10
    · rw [if_pos y10]
      obtain ⟨o, th2, E1, E2⟩ := step_woken (N := N) h
      rw [E1, Option.bind_some, E2, Option.bind_some]
      show (if o = o then _ else _) = some 1
      rw [if_pos rfl]
      exact ih (x + 5) (by omega) (by omega) h
    rw [if_neg y10]
    by_cases y11 : (xs (nI x).toNatClampNeg &&& (15 : Int32)) = 11
    · rw [if_pos y11, k1]
      obtain ⟨o, th2, E1, E2⟩ := step_order (N := N) h (xs (nI x + (1 : Int32)).toNatClampNeg)
      rw [E1, Option.bind_some, k1, E2, Option.bind_some]
      show (if o = o then _ else _) = some 1
      rw [if_pos rfl]
      exact ih (x + 5) (by omega) (by omega) h
    rw [if_neg y11]
    exact ih (x + 5) (by omega) (by omega) h
/-- the law's pure function answers 1 -/
theorem pure_law : ∀ (L : Nat) (xs : Nat → Int32), L ≤ 2562 → ∃ N, p_Law N L xs = some 1 := by
  intro L xs hL
  refine ⟨1000000, ?_⟩
  unfold p_Law
  obtain ⟨P, S, cand, mc, p1, p2, s1, s2, h1, h2, E1, E2⟩ := init_both (N := 1000000) (by decide) (if 0 < L then xs 0 else 0) (if 1 < L then xs 1 else 0)
  rw [E1, Option.bind_some]
  show (p_Mo_init 1000000 (if 0 < L then xs 0 else 0) (if 1 < L then xs 1 else 0)).bind _ = some 1
  rw [E2, Option.bind_some]
  exact law_all (by decide) hL xs 1000000 2 (by omega) (by omega) (Inv.init p2 s1 s2 h1 h2)

