theorem arr_prim {args : Array Value} {s : State} {ty : FieldType} (h : (Cond.arrayClass ty).before args s = true) (hne : ∀ C, ty ≠ .object C) : ∃ k, ArrOfT s k ty ∧ va_RA s k ty := by
  obtain ⟨cA, kA, comp, h1, h2, h3⟩ := Cond.arrayClass_spec h
  refine ⟨cA, fun n z => ⟨(fun k h => by cases h), kA, h2, comp, h3⟩, ?_⟩
  cases ty with
  | object C => exact absurd rfl (hne C)
  | _ => exact h1
theorem arr_obj {args : Array Value} {s : State} {C : String} (h : (Cond.arrayOver (.object C)).before args s = true) : ∃ k, ArrOfT s k (.object C) ∧ va_RA s k (.object C) := by
  obtain ⟨comp, cA, kA, h0, -, h2, h3, h1⟩ := Cond.arrayOver_spec h
  exact ⟨cA, fun n z => ⟨(fun k h => by cases h), kA, h2, comp, h3⟩, kA, comp, h2, h3, h0, h1⟩
set_option maxHeartbeats 4000000 in
set_option maxRecDepth 100000 in
theorem whole_start_open (hp : ∀ (L : Nat) (xs : Nat → Int32), L ≤ 2562 → ∃ N, p_Law N L xs = some 1) {p : Program} {e : Env} {s : State} {m : MethodId} {below : List Frame} {meth : Method} {c : Code} (l : Launch) {b L : Nat} {xs : Nat → Int32} (hL : L ≤ 2562) (C0 : lw_At p s m meth c b L xs) : W p l e room_1 s m #[Value.ref b] below meth c s.heap [] 0 0 (lw_Z below #[Value.ref b] s) (entryFrame m ([Value.ref b] : List Value).toArray 4) := by
  obtain ⟨hx, hb, hr, hml, hown, hts0, hX, hbl, hlk, hgv⟩ := id C0
  have htT : ∀ q ∈ tT, q.before #[Value.ref b] s = true := fun q hq => hts0 q (List.mem_filter.mp hq).1
  have hts : ∀ q ∈ (Cond.initialized "RuleKernels" :: tT), q.before #[Value.ref b] s = true := fun q hq => htT q ((List.mem_cons.mp hq).elim (fun e => by rw [e]; exact tw_41) id)
  obtain ⟨c0, s0, hk0⟩ := u_known (C := "RuleKernels$Board") (T := T_Board) (N := 6) (n := 6) htT i_Board (htT _ tw_70)
  obtain ⟨c1, s1, hk1⟩ := u_known (C := "RuleKernels$Giving") (T := T_Giving) (N := 6) (n := 6) htT i_Giving (htT _ tw_112)
  obtain ⟨c2, s2, hk2⟩ := u_known (C := "RuleKernels$Kernel") (T := T_Kernel) (N := 4) (n := 4) htT i_Kernel (htT _ tw_106)
  obtain ⟨c3, s3, hk3⟩ := u_known (C := "RuleKernels$Mark") (T := T_Mark) (N := 3) (n := 3) htT i_Mark (htT _ tw_479)
  obtain ⟨c4, s4, hk4⟩ := u_known (C := "RuleKernels$Row") (T := T_Row) (N := 4) (n := 4) htT i_Row (htT _ tw_152)
  obtain ⟨c5, s5, hk5⟩ := u_known (C := "RuleKernels$Rule") (T := T_Rule) (N := 7) (n := 7) htT i_Rule (htT _ tw_225)
  obtain ⟨c6, s6, hk6⟩ := u_known (C := "RuleKernels$Told") (T := T_Told) (N := 2) (n := 2) htT i_Told (htT _ tw_173)
  obtain ⟨c7, s7, hk7⟩ := u_known (C := "RuleKernels") (T := T_RK) (N := 10) (n := 10) htT i_RK (htT _ tw_56)
  obtain ⟨c8, s8, hk8⟩ := u_known (C := "RuleKernelsModel") (T := T_Mo) (N := 28) (n := 28) htT i_Mo (htT _ tw_535)
  obtain ⟨dC, dI, hKc⟩ : ∃ (dC : Nat → ClassId) (dI : Nat → Nat → Nat), ∀ (k : Nat) (q : vw_C), vwCl[k]? = some q → u_Kn s q.1 q.2.1 q.2.2 (dC k) (dI k) := by
    refine ⟨fun k => if k = 0 then c0 else if k = 1 then c1 else if k = 2 then c2 else if k = 3 then c3 else if k = 4 then c4 else if k = 5 then c5 else if k = 6 then c6 else if k = 7 then c7 else c8, fun k => if k = 0 then s0 else if k = 1 then s1 else if k = 2 then s2 else if k = 3 then s3 else if k = 4 then s4 else if k = 5 then s5 else if k = 6 then s6 else if k = 7 then s7 else s8, ?_⟩
    intro k q hq
    match k, hq with
    | 0, hq => cases hq; exact hk0
    | 1, hq => cases hq; exact hk1
    | 2, hq => cases hq; exact hk2
    | 3, hq => cases hq; exact hk3
    | 4, hq => cases hq; exact hk4
    | 5, hq => cases hq; exact hk5
    | 6, hq => cases hq; exact hk6
    | 7, hq => cases hq; exact hk7
    | 8, hq => cases hq; exact hk8
    | k + 9, hq => simp [vwCl] at hq
  obtain ⟨kI, aI, bI⟩ := arr_prim (htT _ tw_102) (fun C h => by cases h)
  obtain ⟨kL, aL, bL⟩ := arr_prim (htT _ tw_101) (fun C h => by cases h)
  obtain ⟨kZ, aZ, bZ⟩ := arr_prim (htT _ tw_171) (fun C h => by cases h)
  have wR : (Cond.arrayOver (.object "RuleKernels$Rule")).before #[Value.ref b] s = true := hts0 _ (List.mem_of_getElem? (i := 104) rfl)
  obtain ⟨kR, aR, bR⟩ := arr_obj wR
  have wM : (Cond.arrayOver (.object "RuleKernels$Mark")).before #[Value.ref b] s = true := hts0 _ (List.mem_of_getElem? (i := 187) rfl)
  obtain ⟨kM, aM, bM⟩ := arr_obj wM
  have hN : mNest s := ⟨va_Nw.of rfl (hts0 _ (List.mem_of_getElem? (i := 314) rfl)), va_Nw.of rfl (hts0 _ (List.mem_of_getElem? (i := 386) rfl)), va_Nw.of rfl (hts0 _ (List.mem_of_getElem? (i := 432) rfl)), va_Nw.of rfl (hts0 _ (List.mem_of_getElem? (i := 301) rfl)), va_AO.of wR, va_AO.of wM⟩
  have hK : va_K (dC, dI) vwCl [(kI, .int), (kL, .long), (kZ, .boolean), (kR, .object "RuleKernels$Rule"), (kM, .object "RuleKernels$Mark")] s := by
    refine ⟨hKc, fun k q h => ?_⟩
    match k, h with
    | 0, h => cases h; exact ⟨aI, bI⟩
    | 1, h => cases h; exact ⟨aL, bL⟩
    | 2, h => cases h; exact ⟨aZ, bZ⟩
    | 3, h => cases h; exact ⟨aR, bR⟩
    | 4, h => cases h; exact ⟨aM, bM⟩
    | k + 5, h => simp at h
  obtain ⟨N, hf⟩ := hp L xs hL
  have hl := lv_entry ([.ref b]) (n := 4) (Nat.le_of_ble_eq_true rfl)
  rw [lg_entry_eq]
  exact law_from (A := fun q => s.heap.size ≤ q) hL hx hb hr hml hown hts hX hbl hlk ⟨rfl, rfl, rfl, rfl, rfl⟩ hK hN (fun _ h => h) (fun _ h => h) (Nat.not_le.mpr hbl) hf hl
