/-! Constructors; a rule more. -/
theorem clamp_both (a : Int32) {H : Nat} (h1 : 1 ≤ H) (h2 : H ≤ 1000) : ∃ P, 1 ≤ P ∧ P ≤ H ∧ (if (1 : Int32) < (if a < nI H then a else nI H) then (if a < nI H then a else nI H) else (1 : Int32)) = nI P ∧ (((1 : Int32) ≤ a ∧ a ≤ nI H ∧ a = nI P) ∨ ((1 : Int32) ≤ a ∧ ¬ a ≤ nI H ∧ P = H) ∨ (¬ (1 : Int32) ≤ a ∧ P = 1)) := by
  have e1 : (1 : Int32).toInt = 1 := by decide
  have eH : (nI H).toInt = H := nI_toInt (by omega)
  rcases pk_ix a (n := H + 1) (by omega) with h | h | ⟨j, hj, rfl⟩
  · rw [neg_iff] at h
    have c1 : a < nI H := by rw [Int32.lt_iff_toInt_lt]; omega
    refine ⟨1, by omega, by omega, ?_, Or.inr (Or.inr ⟨?_, rfl⟩)⟩
    · rw [if_pos c1, if_neg (by rw [Int32.lt_iff_toInt_lt]; omega)]
      rfl
    · rw [Int32.le_iff_toInt_le]; omega
  · rw [Int32.le_iff_toInt_le, nI_toInt (by omega)] at h
    have c1 : ¬ a < nI H := by rw [Int32.lt_iff_toInt_lt]; omega
    refine ⟨H, by omega, by omega, ?_, Or.inr (Or.inl ⟨?_, ?_, rfl⟩)⟩
    · rw [if_neg c1]
      by_cases hc : (1 : Int32) < nI H
      · rw [if_pos hc]
      · rw [if_neg hc]
        rw [Int32.lt_iff_toInt_lt] at hc
        have : H = 1 := by omega
        rw [this]
        rfl
    · rw [Int32.le_iff_toInt_le]; omega
    · rw [Int32.le_iff_toInt_le]; omega
  · have ej : (nI j).toInt = j := nI_toInt (by omega)
    have inner : (if nI j < nI H then nI j else nI H) = nI j := by
      by_cases hc : nI j < nI H
      · rw [if_pos hc]
      · rw [if_neg hc]
        rw [Int32.lt_iff_toInt_lt] at hc
        have : H = j := by omega
        rw [this]
    rw [inner]
    by_cases hj0 : j = 0
    · subst hj0
      exact ⟨1, by omega, by omega, by decide, Or.inr (Or.inr ⟨by decide, rfl⟩)⟩
    · refine ⟨j, by omega, by omega, ?_, Or.inl ⟨?_, ?_, rfl⟩⟩
      · by_cases hc : (1 : Int32) < nI j
        · rw [if_pos hc]
        · rw [if_neg hc]
          rw [Int32.lt_iff_toInt_lt] at hc
          have : j = 1 := by omega
          rw [this]
          rfl
      · rw [Int32.le_iff_toInt_le]; omega
      · rw [Int32.le_iff_toInt_le]; omega
theorem mo_init_loop (N : Nat) {P S : Nat} (hP : P ≤ 128) {w0 w5 w14 w16 w18 : Int32} {w2 w3 : Nat → Int32} {w4 : Nat → Int64} {w5' w6 : Nat → Int32} {w7 : Nat → Int64} {w8 w9 w10 w11 w12 : Nat → Int32} {w13 : Nat → Int64} {w14' w15 w16' w17 w18' : Nat → Int32} {w19 w20 w21 : Nat → Int64} :
    ∀ f k c, k ≤ P → P - k < f → ∃ c', q_Mo_init_234 N f (nI k) w0 (nI P) (nI S) w5 w14 w16 w18 c w2 w3 w4 w5' w6 w7 w8 w9 w10 w11 w12 w13 w14' w15 w16' w17 w18' w19 w20 w21 = some (w0, nI P, nI S, w5, w14, w16, w18, c', w2, w3, w4, w5', w6, w7, w8, w9, w10, w11, w12, w13, w14', w15, w16', w17, w18', w19, w20, w21) ∧ (∀ i, i < k → c' i = c i) ∧ ∀ i, k ≤ i → i < P → c' i = j_lshl 1 (nI S) - 1 := by
  intro f
  induction f with
  | zero => intro k c _ hf; omega
  | succ f ih =>
    intro k c hk hf
    rw [q_Mo_init_234]
    show ∃ c', (if nI P ≤ nI k then _ else _) = _ ∧ _
    by_cases hc : P ≤ k
    · rw [if_pos (nI_le hc (by omega))]
      exact ⟨c, rfl, fun _ _ => rfl, fun i h1 h2 => by omega⟩
    · rw [if_neg (nI_ge (by omega) (by omega)), jin_nI (by omega) (by decide), nI_clamp (by omega), nI_1]
      obtain ⟨c', e1, h1, h2⟩ := ih (k + 1) (vp_updL c k (j_lshl 1 (nI S) - 1)) (by omega) (by omega)
      refine ⟨c', e1, fun i hi => by rw [h1 i (by omega), pk_uLn (by omega)], fun i a b => ?_⟩
      by_cases he : i = k
      · subst he; rw [h1 i (by omega), pk_uLs]
      · exact h2 i (by omega) b
theorem init_both {N : Nat} (hN : 130 ≤ N) (a1 a2 : Int32) : ∃ P S cand mc, 1 ≤ P ∧ P ≤ 128 ∧ 1 ≤ S ∧ S ≤ 60 ∧ (∀ p, p < P → cand p = j_lshl 1 (nI S) - 1) ∧ (∀ p, p < P → mc p = j_lshl 1 (nI S) - 1) ∧
    p_RK_init N a1 a2 = some (P, 64 * P, P * S, P, P, 0, 0, nI S, 0, 0, cand, fun _ => 0, fun _ => 0, fun _ => none, fun _ => 0, fun _ => 0, nI S, fun _ => 0, fun _ => 0, 0, 0, fun _ => 0, fun _ => 0, fun _ => 0, fun _ => 0, 0, 0, fun _ => 0, fun _ => 0, 0, fun _ => 0, fun _ => none) ∧
    p_Mo_init N a1 a2 = some (0, nI P, nI S, 0, 0, 0, 0, mc, fun _ => 0, fun _ => 0, fun _ => 0, fun _ => 0, fun _ => 0, fun _ => 0, fun _ => 0, fun _ => 0, fun _ => 0, fun _ => 0, fun _ => 0, fun _ => 0, fun _ => 0, fun _ => 0, fun _ => 0, fun _ => 0, fun _ => 0, fun _ => 0, fun _ => 0, fun _ => 0) := by
  obtain ⟨P, p1, p2, p3, p4⟩ := clamp_both a1 (H := 128) (by decide) (by decide)
  obtain ⟨S, s1, s2, s3, s4⟩ := clamp_both a2 (H := 60) (by decide) (by decide)
  have hps : P * S ≤ 128 * 60 := Nat.mul_le_mul p2 s2
  obtain ⟨cand, e1, h1⟩ := arr_fill (N := N) (m := P) (by omega) (by omega) (j_lshl 1 (nI S) - 1) (fun _ => 0)
  obtain ⟨mc, e2, _, h2⟩ := mo_init_loop N (S := S) p2 (w0 := 0) (w5 := 0) (w14 := 0) (w16 := 0) (w18 := 0) (w2 := fun _ => 0) (w3 := fun _ => 0) (w4 := fun _ => 0) (w5' := fun _ => 0) (w6 := fun _ => 0) (w7 := fun _ => 0) (w8 := fun _ => 0) (w9 := fun _ => 0) (w10 := fun _ => 0) (w11 := fun _ => 0) (w12 := fun _ => 0) (w13 := fun _ => 0) (w14' := fun _ => 0) (w15 := fun _ => 0) (w16' := fun _ => 0) (w17 := fun _ => 0) (w18' := fun _ => 0) (w19 := fun _ => 0) (w20 := fun _ => 0) (w21 := fun _ => 0) N 0 (fun _ => 0) (by omega) (by omega)
  refine ⟨P, S, cand, mc, p1, p2, s1, s2, h1, fun p hp => h2 p (by omega) hp, ?_, ?_⟩
  · unfold p_RK_init
    rw [show (128 : Int32) = nI 128 from rfl, show (60 : Int32) = nI 60 from rfl, p3, s3]
    unfold p_Board_init
    rw [jnw_nI p2 (by decide), nI_clamp (by omega), e1, Option.bind_some, pk_shlN (n := P) ((6 : Int32) &&& 31) 6 (by decide) (by omega), jnw_nI (i := P * 2 ^ 6) (by omega) (by decide), pk_mul, jnw_nI (i := P * S) hps (by decide), Option.bind_some]
    show jnw (nI P) 128 _ = _
    rw [jnw_nI p2 (by decide), jnw_nI p2 (by decide)]
    unfold p_Kernel_init p_Giving_init p_Row_init p_Told_init
    rw [nI_clamp (show P * 2 ^ 6 < 2 ^ 31 by omega), nI_clamp (show P * S < 2 ^ 31 by omega), show P * 2 ^ 6 = 64 * P by omega]
    rfl
  · refine Eq.trans ?_ e2
    unfold p_Mo_init
    rcases p4 with ⟨q1, q2, q3⟩ | ⟨q1, q2, q3⟩ | ⟨q1, q3⟩
    · rw [if_pos q1, if_pos (show a1 ≤ (128 : Int32) from q2)]
      rcases s4 with ⟨t1, t2, t3⟩ | ⟨t1, t2, t3⟩ | ⟨t1, t3⟩
      · rw [if_pos t1, if_pos (show a2 ≤ (60 : Int32) from t2), q3, t3]; rfl
      · rw [if_pos t1, if_neg (show ¬ a2 ≤ (60 : Int32) from t2), q3, t3]; rfl
      · rw [if_neg t1, q3, t3]; rfl
    · rw [if_pos q1, if_neg (show ¬ a1 ≤ (128 : Int32) from q2)]
      rcases s4 with ⟨t1, t2, t3⟩ | ⟨t1, t2, t3⟩ | ⟨t1, t3⟩
      · rw [if_pos t1, if_pos (show a2 ≤ (60 : Int32) from t2), q3, t3]; rfl
      · rw [if_pos t1, if_neg (show ¬ a2 ≤ (60 : Int32) from t2), q3, t3]; rfl
      · rw [if_neg t1, q3, t3]; rfl
    · rw [if_neg q1]
      rcases s4 with ⟨t1, t2, t3⟩ | ⟨t1, t2, t3⟩ | ⟨t1, t3⟩
      · rw [if_pos t1, if_pos (show a2 ≤ (60 : Int32) from t2), q3, t3]; rfl
      · rw [if_pos t1, if_neg (show ¬ a2 ≤ (60 : Int32) from t2), q3, t3]; rfl
      · rw [if_neg t1, q3, t3]; rfl
theorem Bth.more {P S nR : Nat} {gone empty : Int32} {cand : Nat → Int64} {reasons trail : Nat → Int32} {head size : Int32} {ring waits : Nat → Int32} {mc : Nat → Int64} {mre : Nat → Int32} {w : Int32} {row : Nat → Int32} {tr : List Nat} {rs : Nat → Int32} {l : List Nat} (B : Bth P S nR gone empty cand reasons trail head size ring waits mc mre w row tr rs l) : Bth P S (nR + 1) gone empty cand reasons trail head size ring waits mc mre w row tr rs l :=
  ⟨B.bd, B.mb, B.ro, B.rm, fun x hx => by have := B.lr x hx; omega, fun c hc => (B.rk c hc).elim Or.inl (fun ⟨r, h1, h2⟩ => Or.inr ⟨r, by omega, h2⟩)⟩
def ZeroT (nR : Nat) (sizes pairs : Nat → Int32) : Prop := ∀ r, nR ≤ r → r < 120 → sizes r = 0 ∧ pairs r = 0
theorem inR_0 {sz : Nat → Nat} {pl : Nat → Nat → Nat} {r p : Nat} (h : sz r = 0) : inR sz pl r p = false := by
  unfold inR
  rw [h]
  rfl
theorem inR_same {sz sz2 : Nat → Nat} {pl : Nat → Nat → Nat} {r p : Nat} (h : sz2 r = sz r) : inR sz2 pl r p = inR sz pl r p := by
  unfold inR
  rw [h]
theorem Rls.add {P S nR : Nat} {RF : Nat → RData} {lower upper : Nat → Int64} {kinds : Nat → Int32} {rights : Nat → Int64} {sizes members : Nat → Int32} {factors : Nat → Int64} {pairs firsts seconds : Nat → Int32} {K : Nat → Int32} {Rt : Nat → Int64} {sz : Nat → Nat} {pl : Nat → Nat → Nat} {fa : Nat → Nat → Int32} {prs : Nat → List (Nat × Nat)} (R : Rls P S nR RF lower upper kinds rights sizes members factors pairs firsts seconds K Rt sz pl fa prs) (Z : ZeroT nR sizes pairs) {a1 : Int32} {a2 : Int64} (hk1 : ¬ a1 < 0) (hk2 : ¬ (7 : Int32) < a1) (hr1 : ¬ a2 < (-1000000 : Int64)) (hr2 : a2 ≤ (1000000 : Int64)) (hR : nR < 120) :
    Rls P S (nR + 1) (va_up RF nR ((if a1 = 7 then S else 0), a1, a2, 0, 0, (fun _ => 0), (fun _ => 0), (fun _ => 0))) lower upper (upd kinds nR a1) (vp_updL rights nR a2) sizes members factors pairs firsts seconds (va_up K nR a1) (va_up Rt nR a2) (va_up sz nR 0) pl fa (va_up prs nR []) := by
  refine ⟨R.p, R.s, ⟨by omega, fun r hr => ?_⟩, fun r hr => ?_, fun r hr => ?_, fun r hr => ?_, fun r hr => ?_, fun p hp => ?_⟩
  · by_cases he : r = nR
    · subst he
      rw [vu_s, vu_s, vu_s]
      exact ⟨hk1, hk2, by omega, fun k hk => absurd hk (Nat.not_lt_zero _), fun k hk => absurd hk (Nat.not_lt_zero _), List.nodup_nil, by decide, fun q hq => absurd hq List.not_mem_nil⟩
    · rw [vu_n he, vu_n he, vu_n he]
      exact R.gh.2 r (by omega)
  · by_cases he : r = nR
    · subst he
      rw [vu_s]
      exact ⟨hr1, hr2⟩
    · rw [vu_n he]
      exact R.rt r (by omega)
  · by_cases he : r = nR
    · subst he
      rw [vu_s, vu_s, vu_s, vu_s, vu_s]
      refine ⟨rfl, rfl, rfl, rfl, fun k hk => absurd hk (Nat.not_lt_zero _), rfl, fun a ha b hb => ?_⟩
      rw [tb_0, decide_eq_false List.not_mem_nil]
    · rw [vu_n he, vu_n he, vu_n he, vu_n he, vu_n he]
      exact R.rc r (by omega)
  · by_cases he : r = nR
    · subst he
      rw [vu_s, vu_s, vu_s, vu_s, pk_us, pk_uLs]
      exact ⟨rfl, rfl, fun k hk => absurd hk (Nat.not_lt_zero _), (Z r (Nat.le_refl _) hR).2, fun k hk => absurd hk (Nat.not_lt_zero _)⟩
    · rw [vu_n he, vu_n he, vu_n he, vu_n he, pk_un he, pk_uLn he]
      exact R.rm r (by omega)
  · by_cases he : r = nR
    · subst he
      rw [vu_s]
      exact ⟨(Z r (Nat.le_refl _) hR).1, by omega, fun k hk => absurd hk (Nat.not_lt_zero _)⟩
    · rw [vu_n he]
      exact R.mm r (by omega)
  · obtain ⟨q1, q2, q3, q4⟩ := R.lu p hp
    have key : ∀ i, (decide (i < nR + 1) && inR (va_up sz nR 0) pl i p) = (decide (i < nR) && inR sz pl i p) := by
      intro i
      by_cases he : i = nR
      · rw [he, inR_0 (sz := va_up sz nR 0) vu_s, decide_eq_false (Nat.lt_irrefl nR)]
        simp
      · rw [inR_same (sz := sz) (vu_n he)]
        congr 1
        exact decide_eq_decide.mpr ⟨fun q => by omega, fun q => by omega⟩
    exact ⟨fun i hi => by rw [key]; exact q1 i hi, fun i hi => by rw [key]; exact q2 i hi, q3, q4⟩
theorem small_fac32 {a : Int64} (h1 : ¬ a < (-1000 : Int64)) (h2 : a ≤ (1000 : Int64)) : ¬ a.toInt32 < (-1000 : Int32) ∧ a.toInt32 ≤ (1000 : Int32) := by
  have e := small_fac h1 h2
  have e1 : a.toInt32.toInt = a.toInt := by rw [← Int32.toInt_toInt64, e]
  rw [Int64.lt_iff_toInt_lt] at h1
  rw [Int64.le_iff_toInt_le] at h2
  rw [Int32.lt_iff_toInt_lt, Int32.le_iff_toInt_le, e1]
  exact ⟨h1, h2⟩
theorem GhR_I {P S nR : Nat} {K : Nat → Int32} {sz : Nat → Nat} {pl : Nat → Nat → Nat} {fa : Nat → Nat → Int32} {prs : Nat → List (Nat × Nat)} (h : GhR P S nR K sz pl fa prs) {r p st : Nat} (hp : p < P) {a3 : Int64} (ok : okI sz pl st r p a3) : GhR P S nR K (szI sz r) (atI sz pl r p) (atI sz fa r a3.toInt32) prs := by
  obtain ⟨k1, k2, _, k3, k4⟩ := ok
  refine ⟨h.1, fun i hi => ?_⟩
  obtain ⟨g1, g2, g3, g4, g5, g6, g7, g8⟩ := h.2 i hi
  by_cases he : i = r
  · subst he
    rw [szI_r]
    refine ⟨g1, g2, by omega, fun k hk => ?_, fun k hk => ?_, g6, g7, g8⟩
    · by_cases hks : k = sz i
      · subst hks
        rw [atI_s]
        exact ⟨hp, fun j hj => by rw [atI_k hj]; exact k4 j hj⟩
      · rw [atI_k (show k < sz i by omega)]
        exact ⟨(g4 k (by omega)).1, fun j hj => by rw [atI_k (show j < sz i by omega)]; exact (g4 k (by omega)).2 j hj⟩
    · by_cases hks : k = sz i
      · subst hks
        rw [atI_s]
        exact small_fac32 k1 k2
      · rw [atI_k (show k < sz i by omega)]
        exact g5 k (by omega)
  · rw [szI_n he, atI_n he, atI_n he]
    exact ⟨g1, g2, g3, g4, g5, g6, g7, g8⟩
theorem GhR_T {P S nR : Nat} {K : Nat → Int32} {sz : Nat → Nat} {pl : Nat → Nat → Nat} {fa : Nat → Nat → Int32} {prs : Nat → List (Nat × Nat)} (h : GhR P S nR K sz pl fa prs) {r a b st : Nat} (ha : a < S) (hb : b < S) (ok : okT K prs st r a b) : GhR P S nR K sz pl fa (prsT prs r a b) := by
  obtain ⟨k1, _, k2, k3⟩ := ok
  refine ⟨h.1, fun i hi => ?_⟩
  obtain ⟨g1, g2, g3, g4, g5, g6, g7, g8⟩ := h.2 i hi
  unfold prsT
  by_cases he : i = r
  · subst he
    rw [vu_s]
    refine ⟨g1, g2, g3, g4, g5, ?_, ?_, fun q hq => ?_⟩
    · rw [List.nodup_append]
      refine ⟨g6, List.nodup_cons.mpr ⟨List.not_mem_nil, List.nodup_nil⟩, fun x hx y hy => ?_⟩
      rw [List.mem_singleton] at hy
      rintro rfl
      rw [hy] at hx
      exact k3 hx
    · rw [List.length_append]
      show _ + 1 ≤ 400
      omega
    · rcases List.mem_append.mp hq with q1 | q1
      · exact g8 q q1
      · rw [List.mem_singleton] at q1
        rw [q1]
        exact ⟨k1, ha, hb⟩
  · rw [vu_n he]
    exact ⟨g1, g2, g3, g4, g5, g6, g7, g8⟩

