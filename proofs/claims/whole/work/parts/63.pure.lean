/-! A rule's places one after another: what it takes away, whom that wakes. -/
abbrev MK8 : Type := Int32 → Int32 → Int32 → (Nat → Int64) → (Nat → Int32) → (Nat → Int32) → (Nat → Int32) → (Nat → Int64) → (Nat → Int64) → (Nat → Int64) → Option (Int32 × Int32 × Int32 × Int32 × (Nat → Int64) × (Nat → Int32) × (Nat → Int32) × (Nat → Int32) × (Nat → Int64) × (Nat → Int64) × (Nat → Int64))
abbrev MK10 : Type := Int32 → Int32 → MK8
theorem gf_mem (c : Nat → Bool) (but : Option Nat) : ∀ n i l x, x ∈ gf c but n i l → x ∈ l ∨ (i ≤ x ∧ x < i + n) := by
  intro n
  induction n with
  | zero => intro i l x h; exact Or.inl h
  | succ n ih =>
    intro i l x h
    rw [gf_s] at h
    rcases ih _ _ _ h with h | h
    · by_cases hc : some i ≠ but ∧ c i = true
      · rw [if_pos hc] at h
        unfold rjoin at h
        by_cases hm : i ∈ l
        · rw [if_pos hm] at h; exact Or.inl h
        · rw [if_neg hm, List.mem_append, List.mem_singleton] at h
          rcases h with h | h
          · exact Or.inl h
          · exact Or.inr (by omega)
      · rw [if_neg hc] at h; exact Or.inl h
    · exact Or.inr (by omega)
theorem but_ok {r : Nat} (hr : r < 120) : ∀ i, i < 120 → (nI i = nI r ↔ some i = some r) := by
  intro i hi
  rw [nI_eq (by omega) (by omega)]
  constructor
  · intro h; rw [h]
  · intro h; exact Option.some.inj h
theorem rs_step {tr L : List Nat} {rs : Nat → Int32} {w : Int32} : (fun c => if c ∈ tr ++ L then (if c ∈ tr then rs c else w) else w) = (fun c => if c ∈ tr then rs c else w) := by
  funext c
  by_cases h : c ∈ tr
  · rw [if_pos (List.mem_append.mpr (Or.inl h)), if_pos h]
  · rw [if_neg h]
    split <;> rfl
/-- one place in the reference -/
theorem run_133 (N : Nat) {P S p r k : Nat} (hP : P ≤ 128) (hS : S ≤ 60) (hp : p < P) (hr : r < 120) (hk : k < 16) {rules : Int32} {sizes members : Nat → Int32} {goes : Nat → Int64} {tr : List Nat} {rs : Nat → Int32} (hfresh : ∀ v, v < S → tb (goes k) v = true → 64 * p + v ∉ tr) (K : MK10) (th w wk : Int32) (row order : Nat → Int32) (had U : Nat → Int64) :
    ∀ f v cand reasons, v ≤ S → S - v < f → TrOK P S (tr ++ lostL p (goes k) v) → MoBd P S cand reasons (tr ++ lostL p (goes k) v) (fun c => if c ∈ tr then rs c else nI r) →
      ∃ c' re', q_Mo_run_133 N (nI S) rules sizes members K f (nI r) (nI k) (nI p) (nI v) th w wk cand reasons row order had goes U = q_Mo_run_172 N rules sizes members K (nI r) (nI k) (nI p) th w wk c' re' row order had goes U ∧ MoBd P S c' re' (tr ++ lostL p (goes k) S) (fun c => if c ∈ tr then rs c else nI r) ∧ (∀ q, q ≠ p → c' q = cand q) := by
  intro f
  induction f with
  | zero => intro v cand reasons _ hf; omega
  | succ f ih =>
    intro v cand reasons hv hf hT hB
    rw [q_Mo_run_133]
    show ∃ c' re', (if nI S ≤ nI v then _ else _) = _ ∧ _
    by_cases hc : S ≤ v
    · rw [if_pos (nI_le hc (by omega))]
      have : v = S := by omega
      subst this
      exact ⟨cand, reasons, rfl, hB, fun _ _ => rfl⟩
    · rw [if_neg (nI_ge (by omega) (by omega)), jin_nI hk (by decide), nI_clamp (by omega), mo_has N _ (by omega), Option.bind_some]
      unfold q_Mo_run_166
      rw [nI_1]
      have eL : lostL p (goes k) (v + 1) = lostL p (goes k) v ++ (if tb (goes k) v = true then [64 * p + v] else []) := rfl
      by_cases hb : tb (goes k) v = true
      · rw [if_pos hb, if_neg (show ¬ (1 : Int32) = 0 by decide)]
        have hnot : 64 * p + v ∉ tr ++ lostL p (goes k) v := by
          rw [List.mem_append]
          rintro (z | z)
          · exact hfresh v (by omega) hb z
          · obtain ⟨u, u1, _, u2⟩ := (mem_lostL v).mp z
            omega
        obtain ⟨c1, re1, e1, h1, h2⟩ := mo_remove1 N hP hS hp (show v < S by omega) hT hB hnot (why := nI r) (w := nI r + 1) rfl
        rw [e1, Option.bind_some]
        rw [if_pos hb] at eL
        rw [rs_step] at h1
        obtain ⟨c2, re2, e2, h3, h4⟩ := ih (v + 1) c1 re1 (by omega) (by omega) (by rw [eL, ← List.append_assoc]; exact hT.add hp (by omega) (by omega) hnot) (by rw [eL, ← List.append_assoc]; exact h1)
        exact ⟨c2, re2, e2, h3, fun q hq => by rw [h4 q hq, h2 q hq]⟩
      · rw [if_neg hb, if_pos rfl]
        rw [if_neg hb, List.append_nil] at eL
        exact ih (v + 1) cand reasons (by omega) (by omega) (by rw [eL]; exact hT) (by rw [eL]; exact hB)
/-- what the class's and the reference's boards and rows have in common -/
def Bth (P S nR : Nat) (gone empty : Int32) (cand : Nat → Int64) (reasons trail : Nat → Int32) (head size : Int32) (ring waits : Nat → Int32) (mc : Nat → Int64) (mre : Nat → Int32) (w : Int32) (row : Nat → Int32) (tr : List Nat) (rs : Nat → Int32) (l : List Nat) : Prop := (BoardOK P S gone empty cand reasons trail tr rs) ∧ (MoBd P S mc mre tr rs) ∧ (RowOK head size ring waits l) ∧ (RowM w row l) ∧ (∀ x ∈ l, x < nR) ∧ (RsOK nR tr rs)
theorem Bth.bd {P S nR : Nat} {gone empty : Int32} {cand : Nat → Int64} {reasons trail : Nat → Int32} {head size : Int32} {ring waits : Nat → Int32} {mc : Nat → Int64} {mre : Nat → Int32} {w : Int32} {row : Nat → Int32} {tr : List Nat} {rs : Nat → Int32} {l : List Nat} (hH : Bth P S nR gone empty cand reasons trail head size ring waits mc mre w row tr rs l) : BoardOK P S gone empty cand reasons trail tr rs := hH.1
theorem Bth.mb {P S nR : Nat} {gone empty : Int32} {cand : Nat → Int64} {reasons trail : Nat → Int32} {head size : Int32} {ring waits : Nat → Int32} {mc : Nat → Int64} {mre : Nat → Int32} {w : Int32} {row : Nat → Int32} {tr : List Nat} {rs : Nat → Int32} {l : List Nat} (hH : Bth P S nR gone empty cand reasons trail head size ring waits mc mre w row tr rs l) : MoBd P S mc mre tr rs := hH.2.1
theorem Bth.ro {P S nR : Nat} {gone empty : Int32} {cand : Nat → Int64} {reasons trail : Nat → Int32} {head size : Int32} {ring waits : Nat → Int32} {mc : Nat → Int64} {mre : Nat → Int32} {w : Int32} {row : Nat → Int32} {tr : List Nat} {rs : Nat → Int32} {l : List Nat} (hH : Bth P S nR gone empty cand reasons trail head size ring waits mc mre w row tr rs l) : RowOK head size ring waits l := hH.2.2.1
theorem Bth.rm {P S nR : Nat} {gone empty : Int32} {cand : Nat → Int64} {reasons trail : Nat → Int32} {head size : Int32} {ring waits : Nat → Int32} {mc : Nat → Int64} {mre : Nat → Int32} {w : Int32} {row : Nat → Int32} {tr : List Nat} {rs : Nat → Int32} {l : List Nat} (hH : Bth P S nR gone empty cand reasons trail head size ring waits mc mre w row tr rs l) : RowM w row l := hH.2.2.2.1
theorem Bth.lr {P S nR : Nat} {gone empty : Int32} {cand : Nat → Int64} {reasons trail : Nat → Int32} {head size : Int32} {ring waits : Nat → Int32} {mc : Nat → Int64} {mre : Nat → Int32} {w : Int32} {row : Nat → Int32} {tr : List Nat} {rs : Nat → Int32} {l : List Nat} (hH : Bth P S nR gone empty cand reasons trail head size ring waits mc mre w row tr rs l) : ∀ x ∈ l, x < nR := hH.2.2.2.2.1
theorem Bth.rk {P S nR : Nat} {gone empty : Int32} {cand : Nat → Int64} {reasons trail : Nat → Int32} {head size : Int32} {ring waits : Nat → Int32} {mc : Nat → Int64} {mre : Nat → Int32} {w : Int32} {row : Nat → Int32} {tr : List Nat} {rs : Nat → Int32} {l : List Nat} (hH : Bth P S nR gone empty cand reasons trail head size ring waits mc mre w row tr rs l) : RsOK nR tr rs := hH.2.2.2.2.2
/-- the words of rules, the same on both sides -/
def Rls (P S nR : Nat) (RF : Nat → RData) (lower upper : Nat → Int64) (kinds : Nat → Int32) (rights : Nat → Int64) (sizes members : Nat → Int32) (factors : Nat → Int64) (pairs firsts seconds : Nat → Int32) (K : Nat → Int32) (Rt : Nat → Int64) (sz : Nat → Nat) (pl : Nat → Nat → Nat) (fa : Nat → Nat → Int32) (prs : Nat → List (Nat × Nat)) : Prop := (P ≤ 128) ∧ (S ≤ 60) ∧ (GhR P S nR K sz pl fa prs) ∧ (RtOK nR Rt) ∧ (RulC S nR RF K Rt sz pl fa prs) ∧ (RulM nR kinds rights factors pairs firsts seconds K Rt sz fa prs) ∧ (MemM nR sizes members sz pl) ∧ (LowUp P nR lower upper sz pl)
theorem Rls.p {P S nR : Nat} {RF : Nat → RData} {lower upper : Nat → Int64} {kinds : Nat → Int32} {rights : Nat → Int64} {sizes members : Nat → Int32} {factors : Nat → Int64} {pairs firsts seconds : Nat → Int32} {K : Nat → Int32} {Rt : Nat → Int64} {sz : Nat → Nat} {pl : Nat → Nat → Nat} {fa : Nat → Nat → Int32} {prs : Nat → List (Nat × Nat)} (hH : Rls P S nR RF lower upper kinds rights sizes members factors pairs firsts seconds K Rt sz pl fa prs) : P ≤ 128 := hH.1
theorem Rls.s {P S nR : Nat} {RF : Nat → RData} {lower upper : Nat → Int64} {kinds : Nat → Int32} {rights : Nat → Int64} {sizes members : Nat → Int32} {factors : Nat → Int64} {pairs firsts seconds : Nat → Int32} {K : Nat → Int32} {Rt : Nat → Int64} {sz : Nat → Nat} {pl : Nat → Nat → Nat} {fa : Nat → Nat → Int32} {prs : Nat → List (Nat × Nat)} (hH : Rls P S nR RF lower upper kinds rights sizes members factors pairs firsts seconds K Rt sz pl fa prs) : S ≤ 60 := hH.2.1
theorem Rls.gh {P S nR : Nat} {RF : Nat → RData} {lower upper : Nat → Int64} {kinds : Nat → Int32} {rights : Nat → Int64} {sizes members : Nat → Int32} {factors : Nat → Int64} {pairs firsts seconds : Nat → Int32} {K : Nat → Int32} {Rt : Nat → Int64} {sz : Nat → Nat} {pl : Nat → Nat → Nat} {fa : Nat → Nat → Int32} {prs : Nat → List (Nat × Nat)} (hH : Rls P S nR RF lower upper kinds rights sizes members factors pairs firsts seconds K Rt sz pl fa prs) : GhR P S nR K sz pl fa prs := hH.2.2.1
theorem Rls.rt {P S nR : Nat} {RF : Nat → RData} {lower upper : Nat → Int64} {kinds : Nat → Int32} {rights : Nat → Int64} {sizes members : Nat → Int32} {factors : Nat → Int64} {pairs firsts seconds : Nat → Int32} {K : Nat → Int32} {Rt : Nat → Int64} {sz : Nat → Nat} {pl : Nat → Nat → Nat} {fa : Nat → Nat → Int32} {prs : Nat → List (Nat × Nat)} (hH : Rls P S nR RF lower upper kinds rights sizes members factors pairs firsts seconds K Rt sz pl fa prs) : RtOK nR Rt := hH.2.2.2.1
theorem Rls.rc {P S nR : Nat} {RF : Nat → RData} {lower upper : Nat → Int64} {kinds : Nat → Int32} {rights : Nat → Int64} {sizes members : Nat → Int32} {factors : Nat → Int64} {pairs firsts seconds : Nat → Int32} {K : Nat → Int32} {Rt : Nat → Int64} {sz : Nat → Nat} {pl : Nat → Nat → Nat} {fa : Nat → Nat → Int32} {prs : Nat → List (Nat × Nat)} (hH : Rls P S nR RF lower upper kinds rights sizes members factors pairs firsts seconds K Rt sz pl fa prs) : RulC S nR RF K Rt sz pl fa prs := hH.2.2.2.2.1
theorem Rls.rm {P S nR : Nat} {RF : Nat → RData} {lower upper : Nat → Int64} {kinds : Nat → Int32} {rights : Nat → Int64} {sizes members : Nat → Int32} {factors : Nat → Int64} {pairs firsts seconds : Nat → Int32} {K : Nat → Int32} {Rt : Nat → Int64} {sz : Nat → Nat} {pl : Nat → Nat → Nat} {fa : Nat → Nat → Int32} {prs : Nat → List (Nat × Nat)} (hH : Rls P S nR RF lower upper kinds rights sizes members factors pairs firsts seconds K Rt sz pl fa prs) : RulM nR kinds rights factors pairs firsts seconds K Rt sz fa prs := hH.2.2.2.2.2.1
theorem Rls.mm {P S nR : Nat} {RF : Nat → RData} {lower upper : Nat → Int64} {kinds : Nat → Int32} {rights : Nat → Int64} {sizes members : Nat → Int32} {factors : Nat → Int64} {pairs firsts seconds : Nat → Int32} {K : Nat → Int32} {Rt : Nat → Int64} {sz : Nat → Nat} {pl : Nat → Nat → Nat} {fa : Nat → Nat → Int32} {prs : Nat → List (Nat × Nat)} (hH : Rls P S nR RF lower upper kinds rights sizes members factors pairs firsts seconds K Rt sz pl fa prs) : MemM nR sizes members sz pl := hH.2.2.2.2.2.2.1
theorem Rls.lu {P S nR : Nat} {RF : Nat → RData} {lower upper : Nat → Int64} {kinds : Nat → Int32} {rights : Nat → Int64} {sizes members : Nat → Int32} {factors : Nat → Int64} {pairs firsts seconds : Nat → Int32} {K : Nat → Int32} {Rt : Nat → Int64} {sz : Nat → Nat} {pl : Nat → Nat → Nat} {fa : Nat → Nat → Int32} {prs : Nat → List (Nat × Nat)} (hH : Rls P S nR RF lower upper kinds rights sizes members factors pairs firsts seconds K Rt sz pl fa prs) : LowUp P nR lower upper sz pl := hH.2.2.2.2.2.2.2
def EX (tr : List Nat) (rs : Nat → Int32) (tr2 : List Nat) (rs2 : Nat → Int32) : Prop := (∃ e, tr2 = tr ++ e) ∧ ∀ c ∈ tr, rs2 c = rs c
theorem EX.rfl' {tr : List Nat} {rs : Nat → Int32} : EX tr rs tr rs := ⟨⟨[], (List.append_nil _).symm⟩, fun _ _ => rfl⟩
theorem EX.trans {a b c : List Nat} {x y z : Nat → Int32} (h1 : EX a x b y) (h2 : EX b y c z) : EX a x c z := by
  obtain ⟨⟨e, rfl⟩, h1⟩ := h1
  obtain ⟨⟨f, rfl⟩, h2⟩ := h2
  exact ⟨⟨e ++ f, List.append_assoc _ _ _⟩, fun c hc => by rw [h2 c (List.mem_append.mpr (Or.inl hc)), h1 c hc]⟩
theorem rem_both {N P S nR : Nat} (hN : 122 ≤ N) {RF : Nat → RData} {lower upper : Nat → Int64} {kinds : Nat → Int32} {rights : Nat → Int64} {sizes members : Nat → Int32} {factors : Nat → Int64} {pairs firsts seconds : Nat → Int32} {K : Nat → Int32} {Rt : Nat → Int64} {sz : Nat → Nat} {pl : Nat → Nat → Nat} {fa : Nat → Nat → Int32} {prs : Nat → List (Nat × Nat)} (R : Rls P S nR RF lower upper kinds rights sizes members factors pairs firsts seconds K Rt sz pl fa prs) {r : Nat} (hr : r < nR) {h keep goes : Nat → Int64} (hsame : Same h keep goes (sz r)) (hlt : ∀ k, k < sz r → ∀ v, tb (goes k) v = true → v < S) (K10 : MK8) (th wk : Int32) (order : Nat → Int32) (had U : Nat → Int64) (used : Int64) (mv : Int32) (given ab line reach : Nat → Int32) (count : Int32) (numbers : Nat → Int32) :
    ∀ d k, sz r - k = d → k ≤ sz r → ∀ f1 f2, d < f1 → d < f2 → ∀ gone empty cand reasons trail head size ring waits mc mre w row tr rs l, Bth P S nR gone empty cand reasons trail head size ring waits mc mre w row tr rs l → (∀ i, k ≤ i → i < sz r → cand (pl r i) = h i) →
      ∃ gone2 empty2 cand2 reasons2 trail2 size2 ring2 waits2 mc2 mre2 w2 row2 tr2 rs2 l2,
        q_RK_runFirst_76 N P (64 * P) (P * S) P P (nI S) lower upper nR RF f1 (nI r) (nI k) r gone empty cand reasons trail h keep used mv given ab line reach head size ring waits count numbers = some (gone2, empty2, cand2, reasons2, trail2, h, keep, used, mv, given, ab, line, reach, head, size2, ring2, waits2, count, numbers) ∧
        q_Mo_run_108 N (nI S) (nI nR) sizes members K10 f2 (nI r) (nI k) th w wk mc mre row order had goes U = K10 th w2 wk mc2 mre2 row2 order had goes U ∧
        Bth P S nR gone2 empty2 cand2 reasons2 trail2 head size2 ring2 waits2 mc2 mre2 w2 row2 tr2 rs2 l2 ∧ EX tr rs tr2 rs2 ∧ (tr2.length = tr.length → l2 = l) := by
  obtain ⟨hR, hG⟩ := R.gh
  obtain ⟨g1, g2, g3, g4, g5, g6, g7, g8⟩ := hG r hr
  obtain ⟨c1, c2, c3, c4, c5, c6, c7⟩ := R.rc r hr
  obtain ⟨mm1, mm2, mm3⟩ := R.mm r hr
  have hP := R.p
  have hS := R.s
  intro d
  induction d with
  | zero =>
    intro k hd hk f1 f2 hf1 hf2 gone empty cand reasons trail head size ring waits mc mre w row tr rs l B hc
    obtain ⟨f1, rfl⟩ : ∃ m, f1 = m + 1 := ⟨f1 - 1, by omega⟩
    obtain ⟨f2, rfl⟩ : ∃ m, f2 = m + 1 := ⟨f2 - 1, by omega⟩
    refine ⟨gone, empty, cand, reasons, trail, size, ring, waits, mc, mre, w, row, tr, rs, l, ?_, ?_, B, EX.rfl', fun _ => rfl⟩
    · rw [q_RK_runFirst_76]
      show (if (RF r).2.2.2.1 ≤ nI k then _ else _) = _
      rw [c3, if_pos (nI_le (by omega) (by omega))]
      unfold jlt
      rw [if_pos hr]
    · rw [q_Mo_run_108]
      show jin (nI r) 120 (if sizes (nI r).toNatClampNeg ≤ nI k then _ else _) = _
      rw [jin_nI (by omega) (by decide), nI_clamp (by omega), mm1, if_pos (nI_le (by omega) (by omega))]
      rfl
  | succ d ih =>
    intro k hd hk f1 f2 hf1 hf2 gone empty cand reasons trail head size ring waits mc mre w row tr rs l B hc
    obtain ⟨f1, rfl⟩ : ∃ m, f1 = m + 1 := ⟨f1 - 1, by omega⟩
    obtain ⟨f2, rfl⟩ : ∃ m, f2 = m + 1 := ⟨f2 - 1, by omega⟩
    have hks : k < sz r := by omega
    obtain ⟨p1, p2⟩ := g4 k hks
    -- the class
    obtain ⟨ga, ea, ca, ra, ta, sa, gga, wa, E1, B1, B2, B3, B4⟩ := rk_removeAndWake (N := N) (by omega) hP hS p1 hR B.bd R.lu B.ro (keep k ^^^ (-1 : Int64)) (but_ok (show r < 120 by omega))
    have hgo : cand (pl r k) &&& (keep k ^^^ (-1 : Int64)) = goes k := by rw [hc k (Nat.le_refl _) hks, hsame k hks]
    rw [hgo] at B1 B2 B4
    -- the reference
    have hcand : CandOK P S cand tr := B.bd.2.2.2.1
    have hfresh : ∀ v, v < S → tb (goes k) v = true → 64 * pl r k + v ∉ tr := by
      intro v hv hb
      rw [← hgo, tb_and, Bool.and_eq_true, hcand _ p1 v (by omega), decide_eq_true_eq] at hb
      exact hb.1.2
    obtain ⟨mc1, mre1, E2, M1, M2⟩ := run_133 N hP hS p1 (show r < 120 by omega) (show k < 16 by omega) (rules := nI nR) (sizes := sizes) (members := members) (rs := rs) hfresh (q_Mo_run_108 N (nI S) (nI nR) sizes members K10 f2) th w wk row order had U N 0 mc mre (by omega) (by omega) (by show TrOK P S (tr ++ []); rw [List.append_nil]; exact B.bd.2.2.1) (by
      show MoBd P S mc mre (tr ++ []) _
      rw [List.append_nil]
      refine ⟨B.mb.1, fun c hc => ?_⟩
      show mre (60 * (c / 64) + c % 64) = (if c ∈ tr then rs c else nI r) + 1
      rw [if_pos hc]
      exact B.mb.2 c hc)
    have key : ∃ w1 row1, q_Mo_run_108 N (nI S) (nI nR) sizes members K10 (f2 + 1) (nI r) (nI k) th w wk mc mre row order had goes U = q_Mo_run_108 N (nI S) (nI nR) sizes members K10 f2 (nI r) (nI (k + 1)) th w1 wk mc1 mre1 row1 order had goes U ∧ RowM w1 row1 (if goes k = 0 then l else gf (fun x => inR sz pl x (pl r k)) (some r) nR 0 l) := by
      rw [q_Mo_run_108]
      show ∃ w1 row1, jin (nI r) 120 (if sizes (nI r).toNatClampNeg ≤ nI k then _ else _) = _ ∧ _
      rw [jin_nI (by omega) (by decide), nI_clamp (by omega), mm1, if_neg (nI_ge (by omega) (by omega)), show (16 : Int32) = nI 16 from rfl, pk_mul, nI_add, jin_nI (by omega) (by decide), nI_clamp (by omega), (mm3 k hks).1, show (0 : Int32) = nI 0 from rfl, E2]
      unfold q_Mo_run_172
      rw [jin_nI (by omega) (by decide), nI_clamp (by omega)]
      by_cases hz : goes k = 0
      · rw [if_pos ((lg_cmp_eq _ _).mpr hz), if_pos hz]
        unfold q_Mo_run_189
        rw [nI_1]
        exact ⟨w, row, rfl, B.rm⟩
      · rw [if_neg (fun q => hz ((lg_cmp_eq _ _).mp q)), if_neg hz]
        obtain ⟨w1, row1, E3, M3⟩ := mo_wakeAll hN hR R.mm (show pl r k < 128 by omega) (but_ok (show r < 120 by omega)) B.rm
        rw [E3, Option.bind_some]
        unfold q_Mo_run_189
        rw [nI_1]
        exact ⟨w1, row1, rfl, M3⟩
    obtain ⟨w1, row1, E4, M3⟩ := key
    have Bn : Bth P S nR ga ea ca ra ta head sa gga wa mc1 mre1 w1 row1 (tr ++ lostL (pl r k) (goes k) S) (fun c => if c ∈ tr then rs c else nI r) (if goes k = 0 then l else gf (fun x => inR sz pl x (pl r k)) (some r) nR 0 l) := by
      refine ⟨B1, M1, B2, M3, ?_, ?_⟩
      · intro x hx
        split at hx
        · exact B.lr x hx
        · rcases gf_mem _ _ _ _ _ _ hx with q | q
          · exact B.lr x q
          · omega
      · intro c hc
        show (if c ∈ tr then rs c else nI r) = -1 ∨ ∃ r', r' < nR ∧ (if c ∈ tr then rs c else nI r) = nI r'
        by_cases q : c ∈ tr
        · rw [if_pos q]; exact B.rk c q
        · rw [if_neg q]; exact Or.inr ⟨r, hr, rfl⟩
    obtain ⟨gone2, empty2, cand2, reasons2, trail2, size2, ring2, waits2, mc2, mre2, w2, row2, tr2, rs2, l2, F1, F2, F3, F4, F5⟩ := ih (k + 1) (by omega) (by omega) f1 f2 (by omega) (by omega) _ _ _ _ _ _ _ _ _ _ _ _ _ _ _ _ Bn (fun i a b => by
      rw [B3 (pl r i) (fun z => (g4 i b).2 k (by omega) z.symm)]
      exact hc i (by omega) b)
    refine ⟨gone2, empty2, cand2, reasons2, trail2, size2, ring2, waits2, mc2, mre2, w2, row2, tr2, rs2, l2, ?_, by rw [E4]; exact F2, F3, ?_, ?_⟩
    · rw [q_RK_runFirst_76]
      show (if (RF r).2.2.2.1 ≤ nI k then _ else _) = _
      rw [c3, if_neg (nI_ge (by omega) (by omega)), jin_nI (by omega) (by decide), jin_nI (by omega) (by decide), nI_clamp (by omega), (c5 k hks).1, E1, Option.bind_some, nI_1]
      exact F1
    · exact EX.trans ⟨⟨_, rfl⟩, fun c hc => if_pos hc⟩ F4
    · intro q
      obtain ⟨⟨e, he⟩, _⟩ := F4
      have hl1 : tr2.length = tr.length + (lostL (pl r k) (goes k) S).length + e.length := by rw [he, List.length_append, List.length_append]
      have hl0 : (lostL (pl r k) (goes k) S).length = 0 := by omega
      have hz : goes k = 0 := by
        rw [tb_zero]
        intro v hv
        cases hb : tb (goes k) v with
        | false => rfl
        | true =>
          have hvS := hlt k hks v hb
          have : 64 * pl r k + v ∈ lostL (pl r k) (goes k) S := (mem_lostL S).mpr ⟨v, hvS, hb, rfl⟩
          rw [List.length_eq_zero_iff.mp hl0] at this
          cases this
      have := F5 (by rw [List.length_append]; omega)
      rw [if_pos hz] at this
      exact this

