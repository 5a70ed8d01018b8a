def p_Board_hasPlace (N : Nat) (n_t_candidates : Nat) (a1 : Int32) : Option (Int32) := (if a1 < 0 then some (0 : Int32) else (if (nI n_t_candidates) ≤ a1 then some (0 : Int32) else some (1 : Int32)))
def p_Board_hasSymbol (N : Nat) (t_symbolCount : Int32) (a1 : Int32) : Option (Int32) := (if a1 < 0 then some (0 : Int32) else (if t_symbolCount ≤ a1 then some (0 : Int32) else some (1 : Int32)))
def p_Board_isCandidate (N : Nat) (n_t_candidates : Nat) (t_symbolCount : Int32) (t_candidates : Nat → Int64) (a1 : Int32) (a2 : Int32) : Option (Int32) := ((p_Board_hasPlace N n_t_candidates a1).bind fun r_2 => (if r_2 = 0 then some (0 : Int32) else ((p_Board_hasSymbol N t_symbolCount a2).bind fun r_10 => (if r_10 = 0 then some (0 : Int32) else (jin a1 n_t_candidates ((p_RK_has N (t_candidates a1.toNatClampNeg) a2).bind fun r_23 => (if r_23 = 0 then some (0 : Int32) else some (1 : Int32))))))))
def p_Board_reasonFor (N : Nat) (n_t_candidates : Nat) (n_t_reasons : Nat) (t_symbolCount : Int32) (t_candidates : Nat → Int64) (t_reasons : Nat → Int32) (a1 : Int32) (a2 : Int32) : Option (Int32) := ((p_Board_hasPlace N n_t_candidates a1).bind fun r_2 => (if r_2 = 0 then some (-1 : Int32) else ((p_Board_hasSymbol N t_symbolCount a2).bind fun r_10 => (if r_10 = 0 then some (-1 : Int32) else (jin a1 n_t_candidates ((p_RK_has N (t_candidates a1.toNatClampNeg) a2).bind fun r_23 => (if r_23 = 0 then (jin ((a1 <<< ((6 : Int32) &&& 31)) ||| a2) n_t_reasons (some (t_reasons ((a1 <<< ((6 : Int32) &&& 31)) ||| a2).toNatClampNeg))) else some (-1 : Int32))))))))
def q_Board_remove_98 (N : Nat) (n_t_candidates : Nat) (a1 : Int32) (x5 : Int64) (t_gone : Int32) (t_emptyPlaces : Int32) (t_candidates : Nat → Int64) (t_reasons : Nat → Int32) (t_trail : Nat → Int32) : Option (Int32 × Int32 × Int32 × (Nat → Int64) × (Nat → Int32) × (Nat → Int32)) := (jin a1 n_t_candidates (jin a1 n_t_candidates (jin a1 n_t_candidates (if (lg_cmp ((vp_updL t_candidates a1.toNatClampNeg ((t_candidates a1.toNatClampNeg) &&& (x5 ^^^ (-1 : Int64)))) a1.toNatClampNeg) (0 : Int64)) = 0 then some ((1 : Int32), t_gone, (t_emptyPlaces + (1 : Int32)), (vp_updL t_candidates a1.toNatClampNeg ((t_candidates a1.toNatClampNeg) &&& (x5 ^^^ (-1 : Int64)))), t_reasons, t_trail) else some ((1 : Int32), t_gone, t_emptyPlaces, (vp_updL t_candidates a1.toNatClampNeg ((t_candidates a1.toNatClampNeg) &&& (x5 ^^^ (-1 : Int64)))), t_reasons, t_trail)))))
def q_Board_remove_92 (N : Nat) (K22 : Int64 → Int32 → Int32 → Int32 → (Nat → Int64) → (Nat → Int32) → (Nat → Int32) → Option (Int32 × Int32 × Int32 × (Nat → Int64) × (Nat → Int32) × (Nat → Int32))) (x5 : Int64) (x7 : Int32) (t_gone : Int32) (t_emptyPlaces : Int32) (t_candidates : Nat → Int64) (t_reasons : Nat → Int32) (t_trail : Nat → Int32) : Option (Int32 × Int32 × Int32 × (Nat → Int64) × (Nat → Int32) × (Nat → Int32)) := K22 x5 (x7 + 1) t_gone t_emptyPlaces t_candidates t_reasons t_trail
def q_Board_remove_22 (N : Nat) (n_t_candidates : Nat) (n_t_reasons : Nat) (n_t_trail : Nat) (t_symbolCount : Int32) (a1 : Int32) (a4 : Int32) : Nat → Int64 → Int32 → Int32 → Int32 → (Nat → Int64) → (Nat → Int32) → (Nat → Int32) → Option (Int32 × Int32 × Int32 × (Nat → Int64) × (Nat → Int32) × (Nat → Int32))
  | 0 => fun _ _ _ _ _ _ _ => none
  | n + 1 => fun x5 x7 t_gone t_emptyPlaces t_candidates t_reasons t_trail => (if t_symbolCount ≤ x7 then q_Board_remove_98 N n_t_candidates a1  x5 t_gone t_emptyPlaces t_candidates t_reasons t_trail else ((p_RK_has N x5 x7).bind fun r_35 => (if r_35 = 0 then q_Board_remove_92 N (q_Board_remove_22 N n_t_candidates n_t_reasons n_t_trail t_symbolCount a1 a4 n) x5 x7 t_gone t_emptyPlaces t_candidates t_reasons t_trail else (if (nI n_t_trail) ≤ t_gone then q_Board_remove_92 N (q_Board_remove_22 N n_t_candidates n_t_reasons n_t_trail t_symbolCount a1 a4 n) x5 x7 t_gone t_emptyPlaces t_candidates t_reasons t_trail else (jin ((a1 <<< ((6 : Int32) &&& 31)) ||| x7) n_t_reasons (jin t_gone n_t_trail (q_Board_remove_92 N (q_Board_remove_22 N n_t_candidates n_t_reasons n_t_trail t_symbolCount a1 a4 n) x5 x7 (t_gone + (1 : Int32)) t_emptyPlaces t_candidates (upd t_reasons ((a1 <<< ((6 : Int32) &&& 31)) ||| x7).toNatClampNeg a4) (upd t_trail t_gone.toNatClampNeg ((a1 <<< ((6 : Int32) &&& 31)) ||| x7)))))))))
def p_Board_remove (N : Nat) (n_t_candidates : Nat) (n_t_reasons : Nat) (n_t_trail : Nat) (t_symbolCount : Int32) (t_gone : Int32) (t_emptyPlaces : Int32) (t_candidates : Nat → Int64) (t_reasons : Nat → Int32) (t_trail : Nat → Int32) (a1 : Int32) (a2 : Int64) (a4 : Int32) : Option (Int32 × Int32 × Int32 × (Nat → Int64) × (Nat → Int32) × (Nat → Int32)) := (jin a1 n_t_candidates (if (lg_cmp ((t_candidates a1.toNatClampNeg) &&& a2) (0 : Int64)) = 0 then some ((0 : Int32), t_gone, t_emptyPlaces, t_candidates, t_reasons, t_trail) else q_Board_remove_22 N n_t_candidates n_t_reasons n_t_trail t_symbolCount a1 a4  N ((t_candidates a1.toNatClampNeg) &&& a2) (0 : Int32) t_gone t_emptyPlaces t_candidates t_reasons t_trail))
def q_Board_returnTo_73 (N : Nat) (a1 : Int32) (t_gone : Int32) (t_emptyPlaces : Int32) (t_candidates : Nat → Int64) : Option (Int32 × Int32 × (Nat → Int64)) := some (a1, t_emptyPlaces, t_candidates)
def q_Board_returnTo_47 (N : Nat) (n_t_candidates : Nat) (n_t_trail : Nat) (t_trail : Nat → Int32) (K7 : Int32 → Int32 → Int32 → (Nat → Int64) → Option (Int32 × Int32 × (Nat → Int64))) (x2 : Int32) (x3 : Int32) (t_gone : Int32) (t_emptyPlaces : Int32) (t_candidates : Nat → Int64) : Option (Int32 × Int32 × (Nat → Int64)) := (jin x3 n_t_candidates (jin x2 n_t_trail (jin x3 n_t_candidates (K7 (x2 + (-1)) t_gone t_emptyPlaces (vp_updL t_candidates x3.toNatClampNeg ((t_candidates x3.toNatClampNeg) ||| (j_lshl (1 : Int64) ((t_trail x2.toNatClampNeg) &&& (63 : Int32)))))))))
def q_Board_returnTo_7 (N : Nat) (n_t_candidates : Nat) (n_t_trail : Nat) (t_trail : Nat → Int32) (a1 : Int32) : Nat → Int32 → Int32 → Int32 → (Nat → Int64) → Option (Int32 × Int32 × (Nat → Int64))
  | 0 => fun _ _ _ _ => none
  | n + 1 => fun x2 t_gone t_emptyPlaces t_candidates => (if x2 < a1 then q_Board_returnTo_73 N a1  t_gone t_emptyPlaces t_candidates else (if x2 < 0 then q_Board_returnTo_73 N a1  t_gone t_emptyPlaces t_candidates else (jin x2 n_t_trail (jin (j_iushr (t_trail x2.toNatClampNeg) (6 : Int32)) n_t_candidates (if (lg_cmp (t_candidates (j_iushr (t_trail x2.toNatClampNeg) (6 : Int32)).toNatClampNeg) (0 : Int64)) = 0 then q_Board_returnTo_47 N n_t_candidates n_t_trail t_trail (q_Board_returnTo_7 N n_t_candidates n_t_trail t_trail a1 n) x2 (j_iushr (t_trail x2.toNatClampNeg) (6 : Int32)) t_gone (t_emptyPlaces - (1 : Int32)) t_candidates else q_Board_returnTo_47 N n_t_candidates n_t_trail t_trail (q_Board_returnTo_7 N n_t_candidates n_t_trail t_trail a1 n) x2 (j_iushr (t_trail x2.toNatClampNeg) (6 : Int32)) t_gone t_emptyPlaces t_candidates)))))
def p_Board_returnTo (N : Nat) (n_t_candidates : Nat) (n_t_trail : Nat) (t_gone : Int32) (t_emptyPlaces : Int32) (t_candidates : Nat → Int64) (t_trail : Nat → Int32) (a1 : Int32) : Option (Int32 × Int32 × (Nat → Int64)) := q_Board_returnTo_7 N n_t_candidates n_t_trail t_trail a1  N (t_gone - (1 : Int32)) t_gone t_emptyPlaces t_candidates
def q_Board_leastEmptyPlace_11 (N : Nat) (n_t_candidates : Nat) (t_candidates : Nat → Int64) : Nat → Int32 → Option (Int32)
  | 0 => fun _ => none
  | n + 1 => fun x1 => (if (nI n_t_candidates) ≤ x1 then some (-1 : Int32) else (jin x1 n_t_candidates (if (lg_cmp (t_candidates x1.toNatClampNeg) (0 : Int64)) = 0 then some x1 else q_Board_leastEmptyPlace_11 N n_t_candidates t_candidates n (x1 + 1))))
def p_Board_leastEmptyPlace (N : Nat) (n_t_candidates : Nat) (t_emptyPlaces : Int32) (t_candidates : Nat → Int64) : Option (Int32) := (if t_emptyPlaces = 0 then some (-1 : Int32) else q_Board_leastEmptyPlace_11 N n_t_candidates t_candidates  N (0 : Int32))
def p_Board_init (N : Nat) (a1 : Int32) (a2 : Int32) : Option (Nat × Nat × Nat × Int32 × Int32 × Int32 × (Nat → Int64) × (Nat → Int32) × (Nat → Int32)) := (jnw a1 128 ((p_Arr_fill N a1.toNatClampNeg (fun _ => 0) ((j_lshl (1 : Int64) a2) - (1 : Int64))).bind fun p0_f_25 => (jnw (a1 <<< ((6 : Int32) &&& 31)) 8192 (jnw (a1 * a2) 7680 (some (a1.toNatClampNeg, (a1 <<< ((6 : Int32) &&& 31)).toNatClampNeg, (a1 * a2).toNatClampNeg, a2, (0 : Int32), (0 : Int32), p0_f_25, (fun _ => 0), (fun _ => 0)))))))
def q_Rule_holds_2 (N : Nat) (t_size : Int32) (t_places : Nat → Int32) (a1 : Int32) : Nat → Int32 → Option (Int32)
  | 0 => fun _ => none
  | n + 1 => fun x2 => (if t_size ≤ x2 then some (0 : Int32) else (jin x2 16 (if (t_places x2.toNatClampNeg) = a1 then some (1 : Int32) else q_Rule_holds_2 N t_size t_places a1 n (x2 + 1))))
def p_Rule_holds (N : Nat) (t_size : Int32) (t_places : Nat → Int32) (a1 : Int32) : Option (Int32) := q_Rule_holds_2 N t_size t_places a1  N (0 : Int32)
def p_Rule_addPlace (N : Nat) (t_size : Int32) (t_places : Nat → Int32) (t_factors : Nat → Int32) (a1 : Int32) (a2 : Int32) : Option (Int32 × Int32 × (Nat → Int32) × (Nat → Int32)) := (if (16 : Int32) ≤ t_size then some ((0 : Int32), t_size, t_places, t_factors) else ((p_Rule_holds N t_size t_places a1).bind fun r_11 => (if r_11 = 0 then (jin t_size 16 (jin t_size 16 (some ((1 : Int32), (t_size + (1 : Int32)), (upd t_places t_size.toNatClampNeg a1), (upd t_factors t_size.toNatClampNeg a2))))) else some ((0 : Int32), t_size, t_places, t_factors))))
def p_Rule_addPair (N : Nat) (n_t_partners : Nat) (t_pairs : Int32) (t_partners : Nat → Int64) (a1 : Int32) (a2 : Int32) : Option (Int32 × Int32 × (Nat → Int64)) := (if a1 < 0 then some ((0 : Int32), t_pairs, t_partners) else (if (nI n_t_partners) ≤ a1 then some ((0 : Int32), t_pairs, t_partners) else (if t_pairs < (400 : Int32) then (jin a1 n_t_partners ((p_RK_has N (t_partners a1.toNatClampNeg) a2).bind fun r_32 => (if r_32 = 0 then (jin a1 n_t_partners (jin a1 n_t_partners (some ((1 : Int32), (t_pairs + (1 : Int32)), (vp_updL t_partners a1.toNatClampNeg ((t_partners a1.toNatClampNeg) ||| (j_lshl (1 : Int64) a2))))))) else some ((0 : Int32), t_pairs, t_partners)))) else some ((0 : Int32), t_pairs, t_partners))))
def p_Rule_init (N : Nat) (a1 : Int32) (a2 : Int64) (a4 : Int32) : Option (Nat × Int32 × Int64 × Int32 × Int32 × (Nat → Int32) × (Nat → Int32) × (Nat → Int64)) := (if a1 = (7 : Int32) then (jnw a4 60 (some (a4.toNatClampNeg, a1, a2, (0 : Int32), (0 : Int32), (fun _ => 0), (fun _ => 0), (fun _ => 0)))) else some (0, a1, a2, (0 : Int32), (0 : Int32), (fun _ => 0), (fun _ => 0), (fun _ => 0)))
set_option maxHeartbeats 4000000 in
set_option maxRecDepth 100000 in
theorem c_Board_hasPlace {l : Launch} {D : va_G} {tys : List (ClassId × FieldType)} {kI kL kZ kR kM : ClassId} {N : Nat} {h_t h_t_candidates h_t_reasons h_t_trail : Nat} {n_t_candidates : Nat} {t_symbolCount : Int32} {t_gone : Int32} {t_emptyPlaces : Int32} {t_candidates : Nat → Int64} {a1 : Int32} {u : Int32} (TY : mTy tys kI kL kZ kR kM) (hf : p_Board_hasPlace N n_t_candidates a1 = some u) (sz : Nat) : Met l y_Board_hasPlace ws_Board_hasPlace { frames := 0, cells := 0, slots := 0, locals := 0 } (mPre D tys [.ref h_t, .int a1] [(h_t, .inr (0, [.int t_symbolCount, .ref h_t_candidates, .ref h_t_reasons, .ref h_t_trail, .int t_gone, .int t_emptyPlaces])), (h_t_candidates, .inl (kL, n_t_candidates, .inr (.inl t_candidates)))] sz) (mPost D tys (fun _ : Unit => some (.int u)) [(h_t, .inr (0, [.int t_symbolCount, .ref h_t_candidates, .ref h_t_reasons, .ref h_t_trail, .int t_gone, .int t_emptyPlaces])), (h_t_candidates, .inl (kL, n_t_candidates, .inr (.inl t_candidates)))] (fun x : Unit => [(h_t, .inr (0, [.int t_symbolCount, .ref h_t_candidates, .ref h_t_reasons, .ref h_t_trail, .int t_gone, .int t_emptyPlaces])), (h_t_candidates, .inl (kL, n_t_candidates, .inr (.inl t_candidates)))]) sz) 0 0 (va_A [(h_t, .inr (0, [.int t_symbolCount, .ref h_t_candidates, .ref h_t_reasons, .ref h_t_trail, .int t_gone, .int t_emptyPlaces])), (h_t_candidates, .inl (kL, n_t_candidates, .inr (.inl t_candidates)))] sz) := by
  refine m_ofW (cc := b_Board_hasPlace) (maxL := 2) (ret := (some .boolean)) (by decide) rfl (Nat.le_of_ble_eq_true rfl) ?_ sz
  intro p e s m args below meth c ls Q A hx hb hml hr hts hown hin hlk hK hN hP hD hA hS hl hQ hAe
  have hown : s.vm.findClass "RuleKernels$Board" = some m.cls := hown
  have hl : lv_has ls 2 [(0, .ref h_t), (1, .int a1)] := hl
  have w_f15 := (hts _ (List.mem_cons_of_mem _ tw_80))
  have w_i0 := (fun q h => List.mem_cons_of_mem _ (i_Board q h) : ∀ q ∈ u_ws "RuleKernels$Board" T_Board 6, q ∈ ws_Board_hasPlace)
  unfold p_Board_hasPlace at hf
  refine lv_iload_n hx hb d_Board_hasPlace_0 rfl (lv_at hl 1 rfl) ?_
  refine lv_if_lt (tgt := 17) hx hb d_Board_hasPlace_1 (by decide) (fun c_1 => ?_) (fun c_1 => ?_)
  · replace hf := (if_pos c_1).symm.trans hf
    refine lv_iconst (v := 0) hx hb d_Board_hasPlace_17 (by decide) ?_
    have hu := Option.some.inj hf
    exact m_retz () hx hb hr hlk hK hP hD hS hQ hAe rfl (by rw [← hu]) (Nat.le_of_ble_eq_true rfl) (Nat.le_of_ble_eq_true rfl) d_Board_hasPlace_18
  · replace hf := (if_neg c_1).symm.trans hf
    refine lv_iload_n hx hb d_Board_hasPlace_4 rfl (lv_at hl 1 rfl) ?_
    refine lv_aload_n hx hb d_Board_hasPlace_5 rfl (lv_at hl 0 rfl) ?_
    refine va_get (D := D) (ci := 0) (v := .ref h_t_candidates) (C := "RuleKernels$Board") (T := T_Board) (N := 6) hx hb hts w_i0 hown hK hP 0 rfl rfl 1 (by decide) w_f15 (fun _ h9 => h9) rfl d_Board_hasPlace_6 ?_
    refine va_alen (v := nI n_t_candidates) hx hb hK hP 1 1 rfl TY.2.1 rfl d_Board_hasPlace_9 ?_
    refine lv_icmp_ge (tgt := 17) hx hb d_Board_hasPlace_10 (by decide) (fun c_10 => ?_) (fun c_10 => ?_)
    · replace hf := (if_pos c_10).symm.trans hf
      refine lv_iconst (v := 0) hx hb d_Board_hasPlace_17 (by decide) ?_
      have hu := Option.some.inj hf
      exact m_retz () hx hb hr hlk hK hP hD hS hQ hAe rfl (by rw [← hu]) (Nat.le_of_ble_eq_true rfl) (Nat.le_of_ble_eq_true rfl) d_Board_hasPlace_18
    · replace hf := (if_neg c_10).symm.trans hf
      refine lv_iconst (v := 1) hx hb d_Board_hasPlace_13 (by decide) ?_
      refine lv_goto (tgt := 18) hx hb d_Board_hasPlace_14 (by decide) ?_
      have hu := Option.some.inj hf
      exact m_retz () hx hb hr hlk hK hP hD hS hQ hAe rfl (by rw [← hu]) (Nat.le_of_ble_eq_true rfl) (Nat.le_of_ble_eq_true rfl) d_Board_hasPlace_18
set_option maxHeartbeats 4000000 in
set_option maxRecDepth 100000 in
theorem c_Board_hasSymbol {l : Launch} {D : va_G} {tys : List (ClassId × FieldType)} {kI kL kZ kR kM : ClassId} {N : Nat} {h_t h_t_candidates h_t_reasons h_t_trail : Nat} {t_symbolCount : Int32} {t_gone : Int32} {t_emptyPlaces : Int32} {a1 : Int32} {u : Int32} (TY : mTy tys kI kL kZ kR kM) (hf : p_Board_hasSymbol N t_symbolCount a1 = some u) (sz : Nat) : Met l y_Board_hasSymbol ws_Board_hasSymbol { frames := 0, cells := 0, slots := 0, locals := 0 } (mPre D tys [.ref h_t, .int a1] [(h_t, .inr (0, [.int t_symbolCount, .ref h_t_candidates, .ref h_t_reasons, .ref h_t_trail, .int t_gone, .int t_emptyPlaces]))] sz) (mPost D tys (fun _ : Unit => some (.int u)) [(h_t, .inr (0, [.int t_symbolCount, .ref h_t_candidates, .ref h_t_reasons, .ref h_t_trail, .int t_gone, .int t_emptyPlaces]))] (fun x : Unit => [(h_t, .inr (0, [.int t_symbolCount, .ref h_t_candidates, .ref h_t_reasons, .ref h_t_trail, .int t_gone, .int t_emptyPlaces]))]) sz) 0 0 (va_A [(h_t, .inr (0, [.int t_symbolCount, .ref h_t_candidates, .ref h_t_reasons, .ref h_t_trail, .int t_gone, .int t_emptyPlaces]))] sz) := by
  refine m_ofW (cc := b_Board_hasSymbol) (maxL := 2) (ret := (some .boolean)) (by decide) rfl (Nat.le_of_ble_eq_true rfl) ?_ sz
  intro p e s m args below meth c ls Q A hx hb hml hr hts hown hin hlk hK hN hP hD hA hS hl hQ hAe
  have hown : s.vm.findClass "RuleKernels$Board" = some m.cls := hown
  have hl : lv_has ls 2 [(0, .ref h_t), (1, .int a1)] := hl
  have w_f9 := (hts _ (List.mem_cons_of_mem _ tw_78))
  have w_i0 := (fun q h => List.mem_cons_of_mem _ (i_Board q h) : ∀ q ∈ u_ws "RuleKernels$Board" T_Board 6, q ∈ ws_Board_hasSymbol)
  unfold p_Board_hasSymbol at hf
  refine lv_iload_n hx hb d_Board_hasSymbol_0 rfl (lv_at hl 1 rfl) ?_
  refine lv_if_lt (tgt := 16) hx hb d_Board_hasSymbol_1 (by decide) (fun c_1 => ?_) (fun c_1 => ?_)
  · replace hf := (if_pos c_1).symm.trans hf
    refine lv_iconst (v := 0) hx hb d_Board_hasSymbol_16 (by decide) ?_
    have hu := Option.some.inj hf
    exact m_retz () hx hb hr hlk hK hP hD hS hQ hAe rfl (by rw [← hu]) (Nat.le_of_ble_eq_true rfl) (Nat.le_of_ble_eq_true rfl) d_Board_hasSymbol_17
  · replace hf := (if_neg c_1).symm.trans hf
    refine lv_iload_n hx hb d_Board_hasSymbol_4 rfl (lv_at hl 1 rfl) ?_
    refine lv_aload_n hx hb d_Board_hasSymbol_5 rfl (lv_at hl 0 rfl) ?_
    refine va_get (D := D) (ci := 0) (v := .int t_symbolCount) (C := "RuleKernels$Board") (T := T_Board) (N := 6) hx hb hts w_i0 hown hK hP 0 rfl rfl 0 (by decide) w_f9 (fun _ h9 => h9) rfl d_Board_hasSymbol_6 ?_
    refine lv_icmp_ge (tgt := 16) hx hb d_Board_hasSymbol_9 (by decide) (fun c_9 => ?_) (fun c_9 => ?_)
    · replace hf := (if_pos c_9).symm.trans hf
      refine lv_iconst (v := 0) hx hb d_Board_hasSymbol_16 (by decide) ?_
      have hu := Option.some.inj hf
      exact m_retz () hx hb hr hlk hK hP hD hS hQ hAe rfl (by rw [← hu]) (Nat.le_of_ble_eq_true rfl) (Nat.le_of_ble_eq_true rfl) d_Board_hasSymbol_17
    · replace hf := (if_neg c_9).symm.trans hf
      refine lv_iconst (v := 1) hx hb d_Board_hasSymbol_12 (by decide) ?_
      refine lv_goto (tgt := 17) hx hb d_Board_hasSymbol_13 (by decide) ?_
      have hu := Option.some.inj hf
      exact m_retz () hx hb hr hlk hK hP hD hS hQ hAe rfl (by rw [← hu]) (Nat.le_of_ble_eq_true rfl) (Nat.le_of_ble_eq_true rfl) d_Board_hasSymbol_17
set_option maxHeartbeats 4000000 in
set_option maxRecDepth 100000 in
theorem c_Board_isCandidate {l : Launch} {D : va_G} {tys : List (ClassId × FieldType)} {kI kL kZ kR kM : ClassId} {N : Nat} {h_t h_t_candidates h_t_reasons h_t_trail : Nat} {n_t_candidates : Nat} {t_symbolCount : Int32} {t_gone : Int32} {t_emptyPlaces : Int32} {t_candidates : Nat → Int64} {a1 : Int32} {a2 : Int32} {u : Int32} (TY : mTy tys kI kL kZ kR kM) (hf : p_Board_isCandidate N n_t_candidates t_symbolCount t_candidates a1 a2 = some u) (sz : Nat) : Met l y_Board_isCandidate ws_Board_isCandidate { frames := 1, cells := 0, slots := 0, locals := 22 } (mPre D tys [.ref h_t, .int a1, .int a2] [(h_t, .inr (0, [.int t_symbolCount, .ref h_t_candidates, .ref h_t_reasons, .ref h_t_trail, .int t_gone, .int t_emptyPlaces])), (h_t_candidates, .inl (kL, n_t_candidates, .inr (.inl t_candidates)))] sz) (mPost D tys (fun _ : Unit => some (.int u)) [(h_t, .inr (0, [.int t_symbolCount, .ref h_t_candidates, .ref h_t_reasons, .ref h_t_trail, .int t_gone, .int t_emptyPlaces])), (h_t_candidates, .inl (kL, n_t_candidates, .inr (.inl t_candidates)))] (fun x : Unit => [(h_t, .inr (0, [.int t_symbolCount, .ref h_t_candidates, .ref h_t_reasons, .ref h_t_trail, .int t_gone, .int t_emptyPlaces])), (h_t_candidates, .inl (kL, n_t_candidates, .inr (.inl t_candidates)))]) sz) 0 0 (va_A [(h_t, .inr (0, [.int t_symbolCount, .ref h_t_candidates, .ref h_t_reasons, .ref h_t_trail, .int t_gone, .int t_emptyPlaces])), (h_t_candidates, .inl (kL, n_t_candidates, .inr (.inl t_candidates)))] sz) := by
  refine m_ofW (cc := b_Board_isCandidate) (maxL := 3) (ret := (some .boolean)) (by decide) rfl (Nat.le_of_ble_eq_true rfl) ?_ sz
  intro p e s m args below meth c ls Q A hx hb hml hr hts hown hin hlk hK hN hP hD hA hS hl hQ hAe
  have hown : s.vm.findClass "RuleKernels$Board" = some m.cls := hown
  have hl : lv_has ls 3 [(0, .ref h_t), (1, .int a1), (2, .int a2)] := hl
  have w_f15 := (hts _ (List.mem_cons_of_mem _ tw_80))
  have w_i0 := (fun q h => List.mem_cons_of_mem _ (i_Board q h) : ∀ q ∈ u_ws "RuleKernels$Board" T_Board 6, q ∈ ws_Board_isCandidate)
  unfold p_Board_isCandidate at hf
  refine lv_aload_n hx hb d_Board_isCandidate_0 rfl (lv_at hl 0 rfl) ?_
  refine lv_iload_n hx hb d_Board_isCandidate_1 rfl (lv_at hl 1 rfl) ?_
  obtain ⟨r_2, hc_2, hf⟩ := jb hf
  refine m_call (wc := [(h_t, .inr (0, [.int t_symbolCount, .ref h_t_candidates, .ref h_t_reasons, .ref h_t_trail, .int t_gone, .int t_emptyPlaces])), (h_t_candidates, .inl (kL, n_t_candidates, .inr (.inl t_candidates)))]) (wr := []) (w1 := fun x : Unit => [(h_t, .inr (0, [.int t_symbolCount, .ref h_t_candidates, .ref h_t_reasons, .ref h_t_trail, .int t_gone, .int t_emptyPlaces])), (h_t_candidates, .inl (kL, n_t_candidates, .inr (.inl t_candidates)))]) (wn := fun x : Unit => [(h_t, .inr (0, [.int t_symbolCount, .ref h_t_candidates, .ref h_t_reasons, .ref h_t_trail, .int t_gone, .int t_emptyPlaces])), (h_t_candidates, .inl (kL, n_t_candidates, .inr (.inl t_candidates)))]) (o := fun _ : Unit => some (.int r_2)) (va_runV (As := [.int a1]) (rest := []) ⟨hx, hb, hml, hown, hts⟩ (c_Board_hasPlace (h_t := h_t) (h_t_candidates := h_t_candidates) (h_t_reasons := h_t_reasons) (h_t_trail := h_t_trail) (n_t_candidates := n_t_candidates) (t_symbolCount := t_symbolCount) (t_gone := t_gone) (t_emptyPlaces := t_emptyPlaces) (t_candidates := t_candidates) (a1 := a1) (u := r_2) TY hc_2 _) (cwV 1 hts (gV tw_312 tw_268 tw_269 tw_43 tc_Board_hasPlace) rfl rfl rfl (by decide +kernel) ⟨Nat.le_of_ble_eq_true rfl, Nat.le_of_ble_eq_true rfl⟩) (m_preV hK hN hP hD [0, 1] rfl (by decide) (ci := 0) (q0 := 0) rfl rfl _) rfl rfl hl.1 rfl (lv_room (Nat.le_of_ble_eq_true rfl)) d_Board_isCandidate_2 ⟨Nat.le_of_ble_eq_true rfl, Nat.le_of_ble_eq_true rfl⟩) hP hD hS hA [0, 1] [] [0, 1] rfl rfl (by decide) (by decide) (by decide) (fun _ => rfl) (fun x H locs hP hD hS => ?_)
  have hP : va_P D vwCl [(h_t, .inr (0, [.int t_symbolCount, .ref h_t_candidates, .ref h_t_reasons, .ref h_t_trail, .int t_gone, .int t_emptyPlaces])), (h_t_candidates, .inl (kL, n_t_candidates, .inr (.inl t_candidates)))] H := hP
  have hD : va_D A [(h_t, .inr (0, [.int t_symbolCount, .ref h_t_candidates, .ref h_t_reasons, .ref h_t_trail, .int t_gone, .int t_emptyPlaces])), (h_t_candidates, .inl (kL, n_t_candidates, .inr (.inl t_candidates)))] := hD
  refine W.eq (g2 := F0 m 5 ls [.int r_2]) rfl ?_
  refine lv_if_eq (tgt := 33) hx hb d_Board_isCandidate_5 (by decide) (fun c_5 => ?_) (fun c_5 => ?_)
  · replace hf := (if_pos c_5).symm.trans hf
    refine lv_iconst (v := 0) hx hb d_Board_isCandidate_33 (by decide) ?_
    have hu := Option.some.inj hf
    exact m_retz () hx hb hr hlk hK hP hD hS hQ hAe rfl (by rw [← hu]) (Nat.le_of_ble_eq_true rfl) (Nat.le_of_ble_eq_true rfl) d_Board_isCandidate_34
  · replace hf := (if_neg c_5).symm.trans hf
    refine lv_aload_n hx hb d_Board_isCandidate_8 rfl (lv_at hl 0 rfl) ?_
    refine lv_iload_n hx hb d_Board_isCandidate_9 rfl (lv_at hl 2 rfl) ?_
    obtain ⟨r_10, hc_10, hf⟩ := jb hf
    refine m_call (wc := [(h_t, .inr (0, [.int t_symbolCount, .ref h_t_candidates, .ref h_t_reasons, .ref h_t_trail, .int t_gone, .int t_emptyPlaces]))]) (wr := [(h_t_candidates, .inl (kL, n_t_candidates, .inr (.inl t_candidates)))]) (w1 := fun x : Unit => [(h_t, .inr (0, [.int t_symbolCount, .ref h_t_candidates, .ref h_t_reasons, .ref h_t_trail, .int t_gone, .int t_emptyPlaces]))]) (wn := fun x : Unit => [(h_t, .inr (0, [.int t_symbolCount, .ref h_t_candidates, .ref h_t_reasons, .ref h_t_trail, .int t_gone, .int t_emptyPlaces])), (h_t_candidates, .inl (kL, n_t_candidates, .inr (.inl t_candidates)))]) (o := fun _ : Unit => some (.int r_10)) (va_runV (As := [.int a2]) (rest := []) ⟨hx, hb, hml, hown, hts⟩ (c_Board_hasSymbol (h_t := h_t) (h_t_candidates := h_t_candidates) (h_t_reasons := h_t_reasons) (h_t_trail := h_t_trail) (t_symbolCount := t_symbolCount) (t_gone := t_gone) (t_emptyPlaces := t_emptyPlaces) (a1 := a2) (u := r_10) TY hc_10 _) (cwV 1 hts (gV tw_313 tw_294 tw_295 tw_43 tc_Board_hasSymbol) rfl rfl rfl (by decide +kernel) ⟨Nat.le_of_ble_eq_true rfl, Nat.le_of_ble_eq_true rfl⟩) (m_preV hK hN hP hD [0] rfl (by decide) (ci := 0) (q0 := 0) rfl rfl _) rfl rfl hl.1 rfl (lv_room (Nat.le_of_ble_eq_true rfl)) d_Board_isCandidate_10 ⟨Nat.le_of_ble_eq_true rfl, Nat.le_of_ble_eq_true rfl⟩) hP hD hS hA [0] [1] [1, 0] rfl rfl (by decide) (by decide) (by decide) (fun _ => rfl) (fun x H locs hP hD hS => ?_)
    have hP : va_P D vwCl [(h_t, .inr (0, [.int t_symbolCount, .ref h_t_candidates, .ref h_t_reasons, .ref h_t_trail, .int t_gone, .int t_emptyPlaces])), (h_t_candidates, .inl (kL, n_t_candidates, .inr (.inl t_candidates)))] H := hP
    have hD : va_D A [(h_t, .inr (0, [.int t_symbolCount, .ref h_t_candidates, .ref h_t_reasons, .ref h_t_trail, .int t_gone, .int t_emptyPlaces])), (h_t_candidates, .inl (kL, n_t_candidates, .inr (.inl t_candidates)))] := hD
    refine W.eq (g2 := F0 m 13 ls [.int r_10]) rfl ?_
    refine lv_if_eq (tgt := 33) hx hb d_Board_isCandidate_13 (by decide) (fun c_13 => ?_) (fun c_13 => ?_)
    · replace hf := (if_pos c_13).symm.trans hf
      refine lv_iconst (v := 0) hx hb d_Board_isCandidate_33 (by decide) ?_
      have hu := Option.some.inj hf
      exact m_retz () hx hb hr hlk hK hP hD hS hQ hAe rfl (by rw [← hu]) (Nat.le_of_ble_eq_true rfl) (Nat.le_of_ble_eq_true rfl) d_Board_isCandidate_34
    · replace hf := (if_neg c_13).symm.trans hf
      refine lv_aload_n hx hb d_Board_isCandidate_16 rfl (lv_at hl 0 rfl) ?_
      refine va_get (D := D) (ci := 0) (v := .ref h_t_candidates) (C := "RuleKernels$Board") (T := T_Board) (N := 6) hx hb hts w_i0 hown hK hP 0 rfl rfl 1 (by decide) w_f15 (fun _ h9 => h9) rfl d_Board_isCandidate_17 ?_
      refine lv_iload_n hx hb d_Board_isCandidate_20 rfl (lv_at hl 1 rfl) ?_
      obtain ⟨h_21, hf⟩ := jin_some hf
      refine va_lald hx hb hK hP 1 1 rfl TY.2.1 h_21 d_Board_isCandidate_21 ?_
      refine lv_iload_n hx hb d_Board_isCandidate_22 rfl (lv_at hl 2 rfl) ?_
      obtain ⟨r_23, hc_23, hf⟩ := jb hf
      refine m_call (wc := []) (wr := [(h_t, .inr (0, [.int t_symbolCount, .ref h_t_candidates, .ref h_t_reasons, .ref h_t_trail, .int t_gone, .int t_emptyPlaces])), (h_t_candidates, .inl (kL, n_t_candidates, .inr (.inl t_candidates)))]) (w1 := fun x : Unit => []) (wn := fun x : Unit => [(h_t, .inr (0, [.int t_symbolCount, .ref h_t_candidates, .ref h_t_reasons, .ref h_t_trail, .int t_gone, .int t_emptyPlaces])), (h_t_candidates, .inl (kL, n_t_candidates, .inr (.inl t_candidates)))]) (o := fun _ : Unit => some (.int r_23)) (va_runSN (As := [.long (t_candidates a1.toNatClampNeg), .int a2]) (rest := []) ⟨hx, hb, hml, hown, hts⟩ (c_RK_has (a0 := (t_candidates a1.toNatClampNeg)) (a2 := a2) (u := r_23) TY hc_23 _) ⟨va_cnB 2 hts (gT tc_RK_has) rfl rfl rfl (mN_0 hN) (hts _ (List.mem_cons_of_mem _ tw_41)) (by decide +kernel) ⟨Nat.le_of_ble_eq_true rfl, Nat.le_of_ble_eq_true rfl⟩, (hts _ (List.mem_cons_of_mem _ tw_302)), trivial⟩ (m_preS hK hN hP hD [] rfl (by decide) _) rfl rfl hl.1 rfl (lv_room (Nat.le_of_ble_eq_true rfl)) d_Board_isCandidate_23 ⟨Nat.le_of_ble_eq_true rfl, Nat.le_of_ble_eq_true rfl⟩) hP hD hS hA [] [0, 1] [0, 1] rfl rfl (by decide) (by decide) (by decide) (fun _ => rfl) (fun x H locs hP hD hS => ?_)
      have hP : va_P D vwCl [(h_t, .inr (0, [.int t_symbolCount, .ref h_t_candidates, .ref h_t_reasons, .ref h_t_trail, .int t_gone, .int t_emptyPlaces])), (h_t_candidates, .inl (kL, n_t_candidates, .inr (.inl t_candidates)))] H := hP
      have hD : va_D A [(h_t, .inr (0, [.int t_symbolCount, .ref h_t_candidates, .ref h_t_reasons, .ref h_t_trail, .int t_gone, .int t_emptyPlaces])), (h_t_candidates, .inl (kL, n_t_candidates, .inr (.inl t_candidates)))] := hD
      refine W.eq (g2 := F0 m 26 ls [.int r_23]) rfl ?_
      refine lv_if_eq (tgt := 33) hx hb d_Board_isCandidate_26 (by decide) (fun c_26 => ?_) (fun c_26 => ?_)
      · replace hf := (if_pos c_26).symm.trans hf
        refine lv_iconst (v := 0) hx hb d_Board_isCandidate_33 (by decide) ?_
        have hu := Option.some.inj hf
        exact m_retz () hx hb hr hlk hK hP hD hS hQ hAe rfl (by rw [← hu]) (Nat.le_of_ble_eq_true rfl) (Nat.le_of_ble_eq_true rfl) d_Board_isCandidate_34
      · replace hf := (if_neg c_26).symm.trans hf
        refine lv_iconst (v := 1) hx hb d_Board_isCandidate_29 (by decide) ?_
        refine lv_goto (tgt := 34) hx hb d_Board_isCandidate_30 (by decide) ?_
        have hu := Option.some.inj hf
        exact m_retz () hx hb hr hlk hK hP hD hS hQ hAe rfl (by rw [← hu]) (Nat.le_of_ble_eq_true rfl) (Nat.le_of_ble_eq_true rfl) d_Board_isCandidate_34
set_option maxHeartbeats 4000000 in
set_option maxRecDepth 100000 in
theorem c_Board_reasonFor {l : Launch} {D : va_G} {tys : List (ClassId × FieldType)} {kI kL kZ kR kM : ClassId} {N : Nat} {h_t h_t_candidates h_t_reasons h_t_trail : Nat} {n_t_candidates : Nat} {n_t_reasons : Nat} {t_symbolCount : Int32} {t_gone : Int32} {t_emptyPlaces : Int32} {t_candidates : Nat → Int64} {t_reasons : Nat → Int32} {a1 : Int32} {a2 : Int32} {u : Int32} (TY : mTy tys kI kL kZ kR kM) (hf : p_Board_reasonFor N n_t_candidates n_t_reasons t_symbolCount t_candidates t_reasons a1 a2 = some u) (sz : Nat) : Met l y_Board_reasonFor ws_Board_reasonFor { frames := 1, cells := 0, slots := 0, locals := 22 } (mPre D tys [.ref h_t, .int a1, .int a2] [(h_t, .inr (0, [.int t_symbolCount, .ref h_t_candidates, .ref h_t_reasons, .ref h_t_trail, .int t_gone, .int t_emptyPlaces])), (h_t_candidates, .inl (kL, n_t_candidates, .inr (.inl t_candidates))), (h_t_reasons, .inl (kI, n_t_reasons, .inl t_reasons))] sz) (mPost D tys (fun _ : Unit => some (.int u)) [(h_t, .inr (0, [.int t_symbolCount, .ref h_t_candidates, .ref h_t_reasons, .ref h_t_trail, .int t_gone, .int t_emptyPlaces])), (h_t_candidates, .inl (kL, n_t_candidates, .inr (.inl t_candidates))), (h_t_reasons, .inl (kI, n_t_reasons, .inl t_reasons))] (fun x : Unit => [(h_t, .inr (0, [.int t_symbolCount, .ref h_t_candidates, .ref h_t_reasons, .ref h_t_trail, .int t_gone, .int t_emptyPlaces])), (h_t_candidates, .inl (kL, n_t_candidates, .inr (.inl t_candidates))), (h_t_reasons, .inl (kI, n_t_reasons, .inl t_reasons))]) sz) 0 0 (va_A [(h_t, .inr (0, [.int t_symbolCount, .ref h_t_candidates, .ref h_t_reasons, .ref h_t_trail, .int t_gone, .int t_emptyPlaces])), (h_t_candidates, .inl (kL, n_t_candidates, .inr (.inl t_candidates))), (h_t_reasons, .inl (kI, n_t_reasons, .inl t_reasons))] sz) := by
  refine m_ofW (cc := b_Board_reasonFor) (maxL := 3) (ret := (some .int)) (by decide) rfl (Nat.le_of_ble_eq_true rfl) ?_ sz
  intro p e s m args below meth c ls Q A hx hb hml hr hts hown hin hlk hK hN hP hD hA hS hl hQ hAe
  have hown : s.vm.findClass "RuleKernels$Board" = some m.cls := hown
  have hl : lv_has ls 3 [(0, .ref h_t), (1, .int a1), (2, .int a2)] := hl
  have w_f15 := (hts _ (List.mem_cons_of_mem _ tw_80))
  have w_f25 := (hts _ (List.mem_cons_of_mem _ tw_82))
  have w_i0 := (fun q h => List.mem_cons_of_mem _ (i_Board q h) : ∀ q ∈ u_ws "RuleKernels$Board" T_Board 6, q ∈ ws_Board_reasonFor)
  unfold p_Board_reasonFor at hf
  refine lv_aload_n hx hb d_Board_reasonFor_0 rfl (lv_at hl 0 rfl) ?_
  refine lv_iload_n hx hb d_Board_reasonFor_1 rfl (lv_at hl 1 rfl) ?_
  obtain ⟨r_2, hc_2, hf⟩ := jb hf
  refine m_call (wc := [(h_t, .inr (0, [.int t_symbolCount, .ref h_t_candidates, .ref h_t_reasons, .ref h_t_trail, .int t_gone, .int t_emptyPlaces])), (h_t_candidates, .inl (kL, n_t_candidates, .inr (.inl t_candidates)))]) (wr := [(h_t_reasons, .inl (kI, n_t_reasons, .inl t_reasons))]) (w1 := fun x : Unit => [(h_t, .inr (0, [.int t_symbolCount, .ref h_t_candidates, .ref h_t_reasons, .ref h_t_trail, .int t_gone, .int t_emptyPlaces])), (h_t_candidates, .inl (kL, n_t_candidates, .inr (.inl t_candidates)))]) (wn := fun x : Unit => [(h_t, .inr (0, [.int t_symbolCount, .ref h_t_candidates, .ref h_t_reasons, .ref h_t_trail, .int t_gone, .int t_emptyPlaces])), (h_t_candidates, .inl (kL, n_t_candidates, .inr (.inl t_candidates))), (h_t_reasons, .inl (kI, n_t_reasons, .inl t_reasons))]) (o := fun _ : Unit => some (.int r_2)) (va_runV (As := [.int a1]) (rest := []) ⟨hx, hb, hml, hown, hts⟩ (c_Board_hasPlace (h_t := h_t) (h_t_candidates := h_t_candidates) (h_t_reasons := h_t_reasons) (h_t_trail := h_t_trail) (n_t_candidates := n_t_candidates) (t_symbolCount := t_symbolCount) (t_gone := t_gone) (t_emptyPlaces := t_emptyPlaces) (t_candidates := t_candidates) (a1 := a1) (u := r_2) TY hc_2 _) (cwV 1 hts (gV tw_312 tw_268 tw_269 tw_43 tc_Board_hasPlace) rfl rfl rfl (by decide +kernel) ⟨Nat.le_of_ble_eq_true rfl, Nat.le_of_ble_eq_true rfl⟩) (m_preV hK hN hP hD [0, 1] rfl (by decide) (ci := 0) (q0 := 0) rfl rfl _) rfl rfl hl.1 rfl (lv_room (Nat.le_of_ble_eq_true rfl)) d_Board_reasonFor_2 ⟨Nat.le_of_ble_eq_true rfl, Nat.le_of_ble_eq_true rfl⟩) hP hD hS hA [0, 1] [2] [1, 2, 0] rfl rfl (by decide) (by decide) (by decide) (fun _ => rfl) (fun x H locs hP hD hS => ?_)
  have hP : va_P D vwCl [(h_t, .inr (0, [.int t_symbolCount, .ref h_t_candidates, .ref h_t_reasons, .ref h_t_trail, .int t_gone, .int t_emptyPlaces])), (h_t_candidates, .inl (kL, n_t_candidates, .inr (.inl t_candidates))), (h_t_reasons, .inl (kI, n_t_reasons, .inl t_reasons))] H := hP
  have hD : va_D A [(h_t, .inr (0, [.int t_symbolCount, .ref h_t_candidates, .ref h_t_reasons, .ref h_t_trail, .int t_gone, .int t_emptyPlaces])), (h_t_candidates, .inl (kL, n_t_candidates, .inr (.inl t_candidates))), (h_t_reasons, .inl (kI, n_t_reasons, .inl t_reasons))] := hD
  refine W.eq (g2 := F0 m 5 ls [.int r_2]) rfl ?_
  refine lv_if_eq (tgt := 29) hx hb d_Board_reasonFor_5 (by decide) (fun c_5 => ?_) (fun c_5 => ?_)
  · replace hf := (if_pos c_5).symm.trans hf
    refine lv_iconst (v := -1) hx hb d_Board_reasonFor_29 (by decide) ?_
    have hu := Option.some.inj hf
    exact m_reti () hx hb hr hlk hK hP hD hS hQ hAe (by rw [← hu]) (Nat.le_of_ble_eq_true rfl) (Nat.le_of_ble_eq_true rfl) d_Board_reasonFor_30
  · replace hf := (if_neg c_5).symm.trans hf
    refine lv_aload_n hx hb d_Board_reasonFor_8 rfl (lv_at hl 0 rfl) ?_
    refine lv_iload_n hx hb d_Board_reasonFor_9 rfl (lv_at hl 2 rfl) ?_
    obtain ⟨r_10, hc_10, hf⟩ := jb hf
    refine m_call (wc := [(h_t, .inr (0, [.int t_symbolCount, .ref h_t_candidates, .ref h_t_reasons, .ref h_t_trail, .int t_gone, .int t_emptyPlaces]))]) (wr := [(h_t_candidates, .inl (kL, n_t_candidates, .inr (.inl t_candidates))), (h_t_reasons, .inl (kI, n_t_reasons, .inl t_reasons))]) (w1 := fun x : Unit => [(h_t, .inr (0, [.int t_symbolCount, .ref h_t_candidates, .ref h_t_reasons, .ref h_t_trail, .int t_gone, .int t_emptyPlaces]))]) (wn := fun x : Unit => [(h_t, .inr (0, [.int t_symbolCount, .ref h_t_candidates, .ref h_t_reasons, .ref h_t_trail, .int t_gone, .int t_emptyPlaces])), (h_t_candidates, .inl (kL, n_t_candidates, .inr (.inl t_candidates))), (h_t_reasons, .inl (kI, n_t_reasons, .inl t_reasons))]) (o := fun _ : Unit => some (.int r_10)) (va_runV (As := [.int a2]) (rest := []) ⟨hx, hb, hml, hown, hts⟩ (c_Board_hasSymbol (h_t := h_t) (h_t_candidates := h_t_candidates) (h_t_reasons := h_t_reasons) (h_t_trail := h_t_trail) (t_symbolCount := t_symbolCount) (t_gone := t_gone) (t_emptyPlaces := t_emptyPlaces) (a1 := a2) (u := r_10) TY hc_10 _) (cwV 1 hts (gV tw_313 tw_294 tw_295 tw_43 tc_Board_hasSymbol) rfl rfl rfl (by decide +kernel) ⟨Nat.le_of_ble_eq_true rfl, Nat.le_of_ble_eq_true rfl⟩) (m_preV hK hN hP hD [0] rfl (by decide) (ci := 0) (q0 := 0) rfl rfl _) rfl rfl hl.1 rfl (lv_room (Nat.le_of_ble_eq_true rfl)) d_Board_reasonFor_10 ⟨Nat.le_of_ble_eq_true rfl, Nat.le_of_ble_eq_true rfl⟩) hP hD hS hA [0] [1, 2] [2, 0, 1] rfl rfl (by decide) (by decide) (by decide) (fun _ => rfl) (fun x H locs hP hD hS => ?_)
    have hP : va_P D vwCl [(h_t, .inr (0, [.int t_symbolCount, .ref h_t_candidates, .ref h_t_reasons, .ref h_t_trail, .int t_gone, .int t_emptyPlaces])), (h_t_candidates, .inl (kL, n_t_candidates, .inr (.inl t_candidates))), (h_t_reasons, .inl (kI, n_t_reasons, .inl t_reasons))] H := hP
    have hD : va_D A [(h_t, .inr (0, [.int t_symbolCount, .ref h_t_candidates, .ref h_t_reasons, .ref h_t_trail, .int t_gone, .int t_emptyPlaces])), (h_t_candidates, .inl (kL, n_t_candidates, .inr (.inl t_candidates))), (h_t_reasons, .inl (kI, n_t_reasons, .inl t_reasons))] := hD
    refine W.eq (g2 := F0 m 13 ls [.int r_10]) rfl ?_
    refine lv_if_eq (tgt := 29) hx hb d_Board_reasonFor_13 (by decide) (fun c_13 => ?_) (fun c_13 => ?_)
    · replace hf := (if_pos c_13).symm.trans hf
      refine lv_iconst (v := -1) hx hb d_Board_reasonFor_29 (by decide) ?_
      have hu := Option.some.inj hf
      exact m_reti () hx hb hr hlk hK hP hD hS hQ hAe (by rw [← hu]) (Nat.le_of_ble_eq_true rfl) (Nat.le_of_ble_eq_true rfl) d_Board_reasonFor_30
    · replace hf := (if_neg c_13).symm.trans hf
      refine lv_aload_n hx hb d_Board_reasonFor_16 rfl (lv_at hl 0 rfl) ?_
      refine va_get (D := D) (ci := 0) (v := .ref h_t_candidates) (C := "RuleKernels$Board") (T := T_Board) (N := 6) hx hb hts w_i0 hown hK hP 0 rfl rfl 1 (by decide) w_f15 (fun _ h9 => h9) rfl d_Board_reasonFor_17 ?_
      refine lv_iload_n hx hb d_Board_reasonFor_20 rfl (lv_at hl 1 rfl) ?_
      obtain ⟨h_21, hf⟩ := jin_some hf
      refine va_lald hx hb hK hP 1 1 rfl TY.2.1 h_21 d_Board_reasonFor_21 ?_
      refine lv_iload_n hx hb d_Board_reasonFor_22 rfl (lv_at hl 2 rfl) ?_
      obtain ⟨r_23, hc_23, hf⟩ := jb hf
      refine m_call (wc := []) (wr := [(h_t, .inr (0, [.int t_symbolCount, .ref h_t_candidates, .ref h_t_reasons, .ref h_t_trail, .int t_gone, .int t_emptyPlaces])), (h_t_candidates, .inl (kL, n_t_candidates, .inr (.inl t_candidates))), (h_t_reasons, .inl (kI, n_t_reasons, .inl t_reasons))]) (w1 := fun x : Unit => []) (wn := fun x : Unit => [(h_t, .inr (0, [.int t_symbolCount, .ref h_t_candidates, .ref h_t_reasons, .ref h_t_trail, .int t_gone, .int t_emptyPlaces])), (h_t_candidates, .inl (kL, n_t_candidates, .inr (.inl t_candidates))), (h_t_reasons, .inl (kI, n_t_reasons, .inl t_reasons))]) (o := fun _ : Unit => some (.int r_23)) (va_runSN (As := [.long (t_candidates a1.toNatClampNeg), .int a2]) (rest := []) ⟨hx, hb, hml, hown, hts⟩ (c_RK_has (a0 := (t_candidates a1.toNatClampNeg)) (a2 := a2) (u := r_23) TY hc_23 _) ⟨va_cnB 2 hts (gT tc_RK_has) rfl rfl rfl (mN_0 hN) (hts _ (List.mem_cons_of_mem _ tw_41)) (by decide +kernel) ⟨Nat.le_of_ble_eq_true rfl, Nat.le_of_ble_eq_true rfl⟩, (hts _ (List.mem_cons_of_mem _ tw_302)), trivial⟩ (m_preS hK hN hP hD [] rfl (by decide) _) rfl rfl hl.1 rfl (lv_room (Nat.le_of_ble_eq_true rfl)) d_Board_reasonFor_23 ⟨Nat.le_of_ble_eq_true rfl, Nat.le_of_ble_eq_true rfl⟩) hP hD hS hA [] [0, 1, 2] [0, 1, 2] rfl rfl (by decide) (by decide) (by decide) (fun _ => rfl) (fun x H locs hP hD hS => ?_)
      have hP : va_P D vwCl [(h_t, .inr (0, [.int t_symbolCount, .ref h_t_candidates, .ref h_t_reasons, .ref h_t_trail, .int t_gone, .int t_emptyPlaces])), (h_t_candidates, .inl (kL, n_t_candidates, .inr (.inl t_candidates))), (h_t_reasons, .inl (kI, n_t_reasons, .inl t_reasons))] H := hP
      have hD : va_D A [(h_t, .inr (0, [.int t_symbolCount, .ref h_t_candidates, .ref h_t_reasons, .ref h_t_trail, .int t_gone, .int t_emptyPlaces])), (h_t_candidates, .inl (kL, n_t_candidates, .inr (.inl t_candidates))), (h_t_reasons, .inl (kI, n_t_reasons, .inl t_reasons))] := hD
      refine W.eq (g2 := F0 m 26 ls [.int r_23]) rfl ?_
      refine lv_if_eq (tgt := 31) hx hb d_Board_reasonFor_26 (by decide) (fun c_26 => ?_) (fun c_26 => ?_)
      · replace hf := (if_pos c_26).symm.trans hf
        refine lv_aload_n hx hb d_Board_reasonFor_31 rfl (lv_at hl 0 rfl) ?_
        refine va_get (D := D) (ci := 0) (v := .ref h_t_reasons) (C := "RuleKernels$Board") (T := T_Board) (N := 6) hx hb hts w_i0 hown hK hP 0 rfl rfl 2 (by decide) w_f25 (fun _ h9 => h9) rfl d_Board_reasonFor_32 ?_
        refine lv_iload_n hx hb d_Board_reasonFor_35 rfl (lv_at hl 1 rfl) ?_
        refine lv_bipush (v := 6) hx hb d_Board_reasonFor_36 (by decide) ?_
        refine lv_ishl hx hb d_Board_reasonFor_38 ?_
        refine lv_iload_n hx hb d_Board_reasonFor_39 rfl (lv_at hl 2 rfl) ?_
        refine lv_ior hx hb d_Board_reasonFor_40 ?_
        obtain ⟨h_41, hf⟩ := jin_some hf
        refine va_iald hx hb hK hP 2 0 rfl TY.1 h_41 d_Board_reasonFor_41 ?_
        have hu := Option.some.inj hf
        exact m_reti () hx hb hr hlk hK hP hD hS hQ hAe (by rw [← hu]) (Nat.le_of_ble_eq_true rfl) (Nat.le_of_ble_eq_true rfl) d_Board_reasonFor_42
      · replace hf := (if_neg c_26).symm.trans hf
        refine lv_iconst (v := -1) hx hb d_Board_reasonFor_29 (by decide) ?_
        have hu := Option.some.inj hf
        exact m_reti () hx hb hr hlk hK hP hD hS hQ hAe (by rw [← hu]) (Nat.le_of_ble_eq_true rfl) (Nat.le_of_ble_eq_true rfl) d_Board_reasonFor_30
set_option maxHeartbeats 4000000 in
set_option maxRecDepth 100000 in
theorem c_Board_remove {l : Launch} {D : va_G} {tys : List (ClassId × FieldType)} {kI kL kZ kR kM : ClassId} {N : Nat} {h_t h_t_candidates h_t_reasons h_t_trail : Nat} {n_t_candidates : Nat} {n_t_reasons : Nat} {n_t_trail : Nat} {t_symbolCount : Int32} {t_gone : Int32} {t_emptyPlaces : Int32} {t_candidates : Nat → Int64} {t_reasons : Nat → Int32} {t_trail : Nat → Int32} {a1 : Int32} {a2 : Int64} {a4 : Int32} {u : Int32 × Int32 × Int32 × (Nat → Int64) × (Nat → Int32) × (Nat → Int32)} (TY : mTy tys kI kL kZ kR kM) (hf : p_Board_remove N n_t_candidates n_t_reasons n_t_trail t_symbolCount t_gone t_emptyPlaces t_candidates t_reasons t_trail a1 a2 a4 = some u) (sz : Nat) : Met l y_Board_remove ws_Board_remove { frames := 1, cells := 0, slots := 0, locals := 22 } (mPre D tys [.ref h_t, .int a1, .long a2, .int a4] [(h_t, .inr (0, [.int t_symbolCount, .ref h_t_candidates, .ref h_t_reasons, .ref h_t_trail, .int t_gone, .int t_emptyPlaces])), (h_t_candidates, .inl (kL, n_t_candidates, .inr (.inl t_candidates))), (h_t_reasons, .inl (kI, n_t_reasons, .inl t_reasons)), (h_t_trail, .inl (kI, n_t_trail, .inl t_trail))] sz) (mPost D tys (fun _ : Unit => some (.int u.1)) [(h_t, .inr (0, [.int t_symbolCount, .ref h_t_candidates, .ref h_t_reasons, .ref h_t_trail, .int t_gone, .int t_emptyPlaces])), (h_t_candidates, .inl (kL, n_t_candidates, .inr (.inl t_candidates))), (h_t_reasons, .inl (kI, n_t_reasons, .inl t_reasons)), (h_t_trail, .inl (kI, n_t_trail, .inl t_trail))] (fun x : Unit => [(h_t, .inr (0, [.int t_symbolCount, .ref h_t_candidates, .ref h_t_reasons, .ref h_t_trail, .int u.2.1, .int u.2.2.1])), (h_t_candidates, .inl (kL, n_t_candidates, .inr (.inl u.2.2.2.1))), (h_t_reasons, .inl (kI, n_t_reasons, .inl u.2.2.2.2.1)), (h_t_trail, .inl (kI, n_t_trail, .inl u.2.2.2.2.2))]) sz) 0 0 (va_A [(h_t, .inr (0, [.int t_symbolCount, .ref h_t_candidates, .ref h_t_reasons, .ref h_t_trail, .int t_gone, .int t_emptyPlaces])), (h_t_candidates, .inl (kL, n_t_candidates, .inr (.inl t_candidates))), (h_t_reasons, .inl (kI, n_t_reasons, .inl t_reasons)), (h_t_trail, .inl (kI, n_t_trail, .inl t_trail))] sz) := by
  refine m_ofW (cc := b_Board_remove) (maxL := 9) (ret := (some .boolean)) (by decide) rfl (Nat.le_of_ble_eq_true rfl) ?_ sz
  intro p e s m args below meth c ls Q A hx hb hml hr hts hown hin hlk hK hN hP hD hA hS hl hQ hAe
  have hown : s.vm.findClass "RuleKernels$Board" = some m.cls := hown
  have hl : lv_has ls 9 [(0, .ref h_t), (1, .int a1), (2, .long a2), (4, .int a4)] := hl
  have w_f15 := (hts _ (List.mem_cons_of_mem _ tw_80))
  have w_f25 := (hts _ (List.mem_cons_of_mem _ tw_82))
  have w_f29 := (hts _ (List.mem_cons_of_mem _ tw_83))
  have w_f32 := (hts _ (List.mem_cons_of_mem _ tw_84))
  have w_f35 := (hts _ (List.mem_cons_of_mem _ tw_86))
  have w_f9 := (hts _ (List.mem_cons_of_mem _ tw_78))
  have w_i0 := (fun q h => List.mem_cons_of_mem _ (i_Board q h) : ∀ q ∈ u_ws "RuleKernels$Board" T_Board 6, q ∈ ws_Board_remove)
  have w_k49 := (hts _ (List.mem_cons_of_mem _ tw_323))
  have L98 : ∀ (x5 : Int64) (t_gone : Int32) (t_emptyPlaces : Int32) (t_candidates : Nat → Int64) (t_reasons : Nat → Int32) (t_trail : Nat → Int32), q_Board_remove_98 N n_t_candidates a1 x5 t_gone t_emptyPlaces t_candidates t_reasons t_trail = some u → ∀ (H : Heap) (locs : List Loc), va_P D vwCl [(h_t, .inr (0, [.int t_symbolCount, .ref h_t_candidates, .ref h_t_reasons, .ref h_t_trail, .int t_gone, .int t_emptyPlaces])), (h_t_candidates, .inl (kL, n_t_candidates, .inr (.inl t_candidates))), (h_t_reasons, .inl (kI, n_t_reasons, .inl t_reasons)), (h_t_trail, .inl (kI, n_t_trail, .inl t_trail))] H → va_D A [(h_t, .inr (0, [.int t_symbolCount, .ref h_t_candidates, .ref h_t_reasons, .ref h_t_trail, .int t_gone, .int t_emptyPlaces])), (h_t_candidates, .inl (kL, n_t_candidates, .inr (.inl t_candidates))), (h_t_reasons, .inl (kI, n_t_reasons, .inl t_reasons)), (h_t_trail, .inl (kI, n_t_trail, .inl t_trail))] → va_S A s.heap H locs → ∀ ls : Array Slot, lv_has ls 9 [(0, .ref h_t), (1, .int a1), (5, .long x5)] → W p l e { frames := 1, cells := 0, slots := 0, locals := 22 } s m args below meth c H locs 0 0 Q (F0 m 98 ls []) := by
    intro x5 t_gone t_emptyPlaces t_candidates t_reasons t_trail hf H locs hP hD hS ls hl
    unfold q_Board_remove_98 at hf
    refine lv_aload_n hx hb d_Board_remove_98 rfl (lv_at hl 0 rfl) ?_
    refine va_get (D := D) (ci := 0) (v := .ref h_t_candidates) (C := "RuleKernels$Board") (T := T_Board) (N := 6) hx hb hts w_i0 hown hK hP 0 rfl rfl 1 (by decide) w_f15 (fun _ h9 => h9) rfl d_Board_remove_99 ?_
    refine lv_iload_n hx hb d_Board_remove_102 rfl (lv_at hl 1 rfl) ?_
    refine lv_dup2_11 hx hb d_Board_remove_103 rfl rfl ?_
    obtain ⟨h_104, hf⟩ := jin_some hf
    refine va_lald hx hb hK hP 1 1 rfl TY.2.1 h_104 d_Board_remove_104 ?_
    refine lv_lload hx hb d_Board_remove_105 (lv_at hl 2 rfl) ?_
    refine lv_ldc2 (v := -1) hx hb hown w_k49 d_Board_remove_107 ?_
    refine lv_lxor hx hb d_Board_remove_110 ?_
    refine lv_land hx hb d_Board_remove_111 ?_
    obtain ⟨h_112, hf⟩ := jin_some hf
    refine va_last hx hb hK hP hD hS 1 1 rfl TY.2.1 h_112 d_Board_remove_112 (fun H locs hP hD hS => ?_)
    have hP : va_P D vwCl [(h_t, .inr (0, [.int t_symbolCount, .ref h_t_candidates, .ref h_t_reasons, .ref h_t_trail, .int t_gone, .int t_emptyPlaces])), (h_t_candidates, .inl (kL, n_t_candidates, .inr (.inl (vp_updL t_candidates a1.toNatClampNeg ((t_candidates a1.toNatClampNeg) &&& (x5 ^^^ (-1 : Int64))))))), (h_t_reasons, .inl (kI, n_t_reasons, .inl t_reasons)), (h_t_trail, .inl (kI, n_t_trail, .inl t_trail))] H := hP
    have hD : va_D A [(h_t, .inr (0, [.int t_symbolCount, .ref h_t_candidates, .ref h_t_reasons, .ref h_t_trail, .int t_gone, .int t_emptyPlaces])), (h_t_candidates, .inl (kL, n_t_candidates, .inr (.inl (vp_updL t_candidates a1.toNatClampNeg ((t_candidates a1.toNatClampNeg) &&& (x5 ^^^ (-1 : Int64))))))), (h_t_reasons, .inl (kI, n_t_reasons, .inl t_reasons)), (h_t_trail, .inl (kI, n_t_trail, .inl t_trail))] := hD
    refine lv_aload_n hx hb d_Board_remove_113 rfl (lv_at hl 0 rfl) ?_
    refine va_get (D := D) (ci := 0) (v := .ref h_t_candidates) (C := "RuleKernels$Board") (T := T_Board) (N := 6) hx hb hts w_i0 hown hK hP 0 rfl rfl 1 (by decide) w_f15 (fun _ h9 => h9) rfl d_Board_remove_114 ?_
    refine lv_iload_n hx hb d_Board_remove_117 rfl (lv_at hl 1 rfl) ?_
    obtain ⟨h_118, hf⟩ := jin_some hf
    refine va_lald hx hb hK hP 1 1 rfl TY.2.1 h_118 d_Board_remove_118 ?_
    refine lv_lconst (v := 0) hx hb d_Board_remove_119 (by decide) ?_
    refine W.lcmp hx hb d_Board_remove_120 ?_
    refine lv_if_ne (tgt := 134) hx hb d_Board_remove_121 (by decide) (fun c_121 => ?_) (fun c_121 => ?_)
    · replace hf := (if_neg c_121).symm.trans hf
      refine lv_iconst (v := 1) hx hb d_Board_remove_134 (by decide) ?_
      have hu := Option.some.inj hf
      exact m_retz () hx hb hr hlk hK (by rw [← hu]; exact hP) (by rw [← hu]; exact hD) hS hQ hAe rfl (by rw [← hu]) (Nat.le_of_ble_eq_true rfl) (Nat.le_of_ble_eq_true rfl) d_Board_remove_135
    · replace hf := (if_pos c_121).symm.trans hf
      refine lv_aload_n hx hb d_Board_remove_124 rfl (lv_at hl 0 rfl) ?_
      refine lv_dup hx hb d_Board_remove_125 rfl ?_
      refine va_get (D := D) (ci := 0) (v := .int t_emptyPlaces) (C := "RuleKernels$Board") (T := T_Board) (N := 6) hx hb hts w_i0 hown hK hP 0 rfl rfl 5 (by decide) w_f35 (fun _ h9 => h9) rfl d_Board_remove_126 ?_
      refine lv_iconst (v := 1) hx hb d_Board_remove_129 (by decide) ?_
      refine lv_iadd hx hb d_Board_remove_130 ?_
      refine va_put (D := D) (ci := 0) (v := .int (t_emptyPlaces + (1 : Int32))) (ty := .int) (C := "RuleKernels$Board") (T := T_Board) (N := 6) hx hb hts w_i0 ty_Board ty_Board_ok nm_Board hown hK hP hD hS 0 rfl rfl 5 (by decide) w_f35 (fun _ h9 => h9) rfl (by decide +kernel) rfl rfl (Nat.le_of_ble_eq_true rfl) d_Board_remove_131 (fun H locs hP hD hS => ?_)
      have hP : va_P D vwCl [(h_t, .inr (0, [.int t_symbolCount, .ref h_t_candidates, .ref h_t_reasons, .ref h_t_trail, .int t_gone, .int (t_emptyPlaces + (1 : Int32))])), (h_t_candidates, .inl (kL, n_t_candidates, .inr (.inl (vp_updL t_candidates a1.toNatClampNeg ((t_candidates a1.toNatClampNeg) &&& (x5 ^^^ (-1 : Int64))))))), (h_t_reasons, .inl (kI, n_t_reasons, .inl t_reasons)), (h_t_trail, .inl (kI, n_t_trail, .inl t_trail))] H := hP
      have hD : va_D A [(h_t, .inr (0, [.int t_symbolCount, .ref h_t_candidates, .ref h_t_reasons, .ref h_t_trail, .int t_gone, .int (t_emptyPlaces + (1 : Int32))])), (h_t_candidates, .inl (kL, n_t_candidates, .inr (.inl (vp_updL t_candidates a1.toNatClampNeg ((t_candidates a1.toNatClampNeg) &&& (x5 ^^^ (-1 : Int64))))))), (h_t_reasons, .inl (kI, n_t_reasons, .inl t_reasons)), (h_t_trail, .inl (kI, n_t_trail, .inl t_trail))] := hD
      refine lv_iconst (v := 1) hx hb d_Board_remove_134 (by decide) ?_
      have hu := Option.some.inj hf
      exact m_retz () hx hb hr hlk hK (by rw [← hu]; exact hP) (by rw [← hu]; exact hD) hS hQ hAe rfl (by rw [← hu]) (Nat.le_of_ble_eq_true rfl) (Nat.le_of_ble_eq_true rfl) d_Board_remove_135
  have L92 : ∀ (K22 : Int64 → Int32 → Int32 → Int32 → (Nat → Int64) → (Nat → Int32) → (Nat → Int32) → Option (Int32 × Int32 × Int32 × (Nat → Int64) × (Nat → Int32) × (Nat → Int32))), (∀ (x5 : Int64) (x7 : Int32) (t_gone : Int32) (t_emptyPlaces : Int32) (t_candidates : Nat → Int64) (t_reasons : Nat → Int32) (t_trail : Nat → Int32), K22 x5 x7 t_gone t_emptyPlaces t_candidates t_reasons t_trail = some u → ∀ (H : Heap) (locs : List Loc), va_P D vwCl [(h_t, .inr (0, [.int t_symbolCount, .ref h_t_candidates, .ref h_t_reasons, .ref h_t_trail, .int t_gone, .int t_emptyPlaces])), (h_t_candidates, .inl (kL, n_t_candidates, .inr (.inl t_candidates))), (h_t_reasons, .inl (kI, n_t_reasons, .inl t_reasons)), (h_t_trail, .inl (kI, n_t_trail, .inl t_trail))] H → va_D A [(h_t, .inr (0, [.int t_symbolCount, .ref h_t_candidates, .ref h_t_reasons, .ref h_t_trail, .int t_gone, .int t_emptyPlaces])), (h_t_candidates, .inl (kL, n_t_candidates, .inr (.inl t_candidates))), (h_t_reasons, .inl (kI, n_t_reasons, .inl t_reasons)), (h_t_trail, .inl (kI, n_t_trail, .inl t_trail))] → va_S A s.heap H locs → ∀ ls : Array Slot, lv_has ls 9 [(0, .ref h_t), (1, .int a1), (4, .int a4), (5, .long x5), (7, .int x7)] → W p l e { frames := 1, cells := 0, slots := 0, locals := 22 } s m args below meth c H locs 0 0 Q (F0 m 22 ls [])) → ∀ (x5 : Int64) (x7 : Int32) (t_gone : Int32) (t_emptyPlaces : Int32) (t_candidates : Nat → Int64) (t_reasons : Nat → Int32) (t_trail : Nat → Int32), q_Board_remove_92 N K22 x5 x7 t_gone t_emptyPlaces t_candidates t_reasons t_trail = some u → ∀ (H : Heap) (locs : List Loc), va_P D vwCl [(h_t, .inr (0, [.int t_symbolCount, .ref h_t_candidates, .ref h_t_reasons, .ref h_t_trail, .int t_gone, .int t_emptyPlaces])), (h_t_candidates, .inl (kL, n_t_candidates, .inr (.inl t_candidates))), (h_t_reasons, .inl (kI, n_t_reasons, .inl t_reasons)), (h_t_trail, .inl (kI, n_t_trail, .inl t_trail))] H → va_D A [(h_t, .inr (0, [.int t_symbolCount, .ref h_t_candidates, .ref h_t_reasons, .ref h_t_trail, .int t_gone, .int t_emptyPlaces])), (h_t_candidates, .inl (kL, n_t_candidates, .inr (.inl t_candidates))), (h_t_reasons, .inl (kI, n_t_reasons, .inl t_reasons)), (h_t_trail, .inl (kI, n_t_trail, .inl t_trail))] → va_S A s.heap H locs → ∀ ls : Array Slot, lv_has ls 9 [(0, .ref h_t), (1, .int a1), (4, .int a4), (5, .long x5), (7, .int x7)] → W p l e { frames := 1, cells := 0, slots := 0, locals := 22 } s m args below meth c H locs 0 0 Q (F0 m 92 ls []) := by
    intro K22 hK22 x5 x7 t_gone t_emptyPlaces t_candidates t_reasons t_trail hf H locs hP hD hS ls hl
    unfold q_Board_remove_92 at hf
    refine lv_iinc (v := (x7 + 1)) (lv' := [(7, .int (x7 + 1)), (0, .ref h_t), (1, .int a1), (4, .int a4), (5, .long x5)]) hx hb d_Board_remove_92 hl (k := 4) rfl rfl (by decide) rfl (fun ls hl => ?_)
    refine lv_goto (tgt := 22) hx hb d_Board_remove_95 (by decide) ?_
    exact hK22 x5 (x7 + 1) t_gone t_emptyPlaces t_candidates t_reasons t_trail hf _ _ hP hD hS ls (lv_sub hl [1, 2, 3, 4, 0] rfl)
  have L22 : ∀ n : Nat, ∀ (x5 : Int64) (x7 : Int32) (t_gone : Int32) (t_emptyPlaces : Int32) (t_candidates : Nat → Int64) (t_reasons : Nat → Int32) (t_trail : Nat → Int32), q_Board_remove_22 N n_t_candidates n_t_reasons n_t_trail t_symbolCount a1 a4 n x5 x7 t_gone t_emptyPlaces t_candidates t_reasons t_trail = some u → ∀ (H : Heap) (locs : List Loc), va_P D vwCl [(h_t, .inr (0, [.int t_symbolCount, .ref h_t_candidates, .ref h_t_reasons, .ref h_t_trail, .int t_gone, .int t_emptyPlaces])), (h_t_candidates, .inl (kL, n_t_candidates, .inr (.inl t_candidates))), (h_t_reasons, .inl (kI, n_t_reasons, .inl t_reasons)), (h_t_trail, .inl (kI, n_t_trail, .inl t_trail))] H → va_D A [(h_t, .inr (0, [.int t_symbolCount, .ref h_t_candidates, .ref h_t_reasons, .ref h_t_trail, .int t_gone, .int t_emptyPlaces])), (h_t_candidates, .inl (kL, n_t_candidates, .inr (.inl t_candidates))), (h_t_reasons, .inl (kI, n_t_reasons, .inl t_reasons)), (h_t_trail, .inl (kI, n_t_trail, .inl t_trail))] → va_S A s.heap H locs → ∀ ls : Array Slot, lv_has ls 9 [(0, .ref h_t), (1, .int a1), (4, .int a4), (5, .long x5), (7, .int x7)] → W p l e { frames := 1, cells := 0, slots := 0, locals := 22 } s m args below meth c H locs 0 0 Q (F0 m 22 ls []) := by
    intro n
    induction n with
    | zero =>
      intro x5 x7 t_gone t_emptyPlaces t_candidates t_reasons t_trail hf
      exact nomatch (show (none : Option (Int32 × Int32 × Int32 × (Nat → Int64) × (Nat → Int32) × (Nat → Int32))) = some _ from hf)
    | succ n ih =>
      intro x5 x7 t_gone t_emptyPlaces t_candidates t_reasons t_trail hf H locs hP hD hS ls hl
      rw [q_Board_remove_22] at hf
      refine lv_iload hx hb d_Board_remove_22 (lv_at hl 4 rfl) ?_
      refine lv_aload_n hx hb d_Board_remove_24 rfl (lv_at hl 0 rfl) ?_
      refine va_get (D := D) (ci := 0) (v := .int t_symbolCount) (C := "RuleKernels$Board") (T := T_Board) (N := 6) hx hb hts w_i0 hown hK hP 0 rfl rfl 0 (by decide) w_f9 (fun _ h9 => h9) rfl d_Board_remove_25 ?_
      refine lv_icmp_ge (tgt := 98) hx hb d_Board_remove_28 (by decide) (fun c_28 => ?_) (fun c_28 => ?_)
      · replace hf := (if_pos c_28).symm.trans hf
        exact L98  x5 t_gone t_emptyPlaces t_candidates t_reasons t_trail hf _ _ hP hD hS ls (lv_sub hl [0, 1, 3] rfl)
      · replace hf := (if_neg c_28).symm.trans hf
        refine lv_lload hx hb d_Board_remove_31 (lv_at hl 3 rfl) ?_
        refine lv_iload hx hb d_Board_remove_33 (lv_at hl 4 rfl) ?_
        obtain ⟨r_35, hc_35, hf⟩ := jb hf
        refine m_call (wc := []) (wr := [(h_t, .inr (0, [.int t_symbolCount, .ref h_t_candidates, .ref h_t_reasons, .ref h_t_trail, .int t_gone, .int t_emptyPlaces])), (h_t_candidates, .inl (kL, n_t_candidates, .inr (.inl t_candidates))), (h_t_reasons, .inl (kI, n_t_reasons, .inl t_reasons)), (h_t_trail, .inl (kI, n_t_trail, .inl t_trail))]) (w1 := fun x : Unit => []) (wn := fun x : Unit => [(h_t, .inr (0, [.int t_symbolCount, .ref h_t_candidates, .ref h_t_reasons, .ref h_t_trail, .int t_gone, .int t_emptyPlaces])), (h_t_candidates, .inl (kL, n_t_candidates, .inr (.inl t_candidates))), (h_t_reasons, .inl (kI, n_t_reasons, .inl t_reasons)), (h_t_trail, .inl (kI, n_t_trail, .inl t_trail))]) (o := fun _ : Unit => some (.int r_35)) (va_runSN (As := [.long x5, .int x7]) (rest := []) ⟨hx, hb, hml, hown, hts⟩ (c_RK_has (a0 := x5) (a2 := x7) (u := r_35) TY hc_35 _) ⟨va_cnB 2 hts (gT tc_RK_has) rfl rfl rfl (mN_0 hN) (hts _ (List.mem_cons_of_mem _ tw_41)) (by decide +kernel) ⟨Nat.le_of_ble_eq_true rfl, Nat.le_of_ble_eq_true rfl⟩, (hts _ (List.mem_cons_of_mem _ tw_302)), trivial⟩ (m_preS hK hN hP hD [] rfl (by decide) _) rfl rfl hl.1 rfl (lv_room (Nat.le_of_ble_eq_true rfl)) d_Board_remove_35 ⟨Nat.le_of_ble_eq_true rfl, Nat.le_of_ble_eq_true rfl⟩) hP hD hS hA [] [0, 1, 2, 3] [0, 1, 2, 3] rfl rfl (by decide) (by decide) (by decide) (fun _ => rfl) (fun x H locs hP hD hS => ?_)
        have hP : va_P D vwCl [(h_t, .inr (0, [.int t_symbolCount, .ref h_t_candidates, .ref h_t_reasons, .ref h_t_trail, .int t_gone, .int t_emptyPlaces])), (h_t_candidates, .inl (kL, n_t_candidates, .inr (.inl t_candidates))), (h_t_reasons, .inl (kI, n_t_reasons, .inl t_reasons)), (h_t_trail, .inl (kI, n_t_trail, .inl t_trail))] H := hP
        have hD : va_D A [(h_t, .inr (0, [.int t_symbolCount, .ref h_t_candidates, .ref h_t_reasons, .ref h_t_trail, .int t_gone, .int t_emptyPlaces])), (h_t_candidates, .inl (kL, n_t_candidates, .inr (.inl t_candidates))), (h_t_reasons, .inl (kI, n_t_reasons, .inl t_reasons)), (h_t_trail, .inl (kI, n_t_trail, .inl t_trail))] := hD
        refine W.eq (g2 := F0 m 38 ls [.int r_35]) rfl ?_
        refine lv_if_eq (tgt := 92) hx hb d_Board_remove_38 (by decide) (fun c_38 => ?_) (fun c_38 => ?_)
        · replace hf := (if_pos c_38).symm.trans hf
          exact L92 _ ih x5 x7 t_gone t_emptyPlaces t_candidates t_reasons t_trail hf _ _ hP hD hS ls (lv_sub hl [0, 1, 2, 3, 4] rfl)
        · replace hf := (if_neg c_38).symm.trans hf
          refine lv_aload_n hx hb d_Board_remove_41 rfl (lv_at hl 0 rfl) ?_
          refine va_get (D := D) (ci := 0) (v := .int t_gone) (C := "RuleKernels$Board") (T := T_Board) (N := 6) hx hb hts w_i0 hown hK hP 0 rfl rfl 4 (by decide) w_f32 (fun _ h9 => h9) rfl d_Board_remove_42 ?_
          refine lv_aload_n hx hb d_Board_remove_45 rfl (lv_at hl 0 rfl) ?_
          refine va_get (D := D) (ci := 0) (v := .ref h_t_trail) (C := "RuleKernels$Board") (T := T_Board) (N := 6) hx hb hts w_i0 hown hK hP 0 rfl rfl 3 (by decide) w_f29 (fun _ h9 => h9) rfl d_Board_remove_46 ?_
          refine va_alen (v := nI n_t_trail) hx hb hK hP 3 0 rfl TY.1 rfl d_Board_remove_49 ?_
          refine lv_icmp_ge (tgt := 92) hx hb d_Board_remove_50 (by decide) (fun c_50 => ?_) (fun c_50 => ?_)
          · replace hf := (if_pos c_50).symm.trans hf
            exact L92 _ ih x5 x7 t_gone t_emptyPlaces t_candidates t_reasons t_trail hf _ _ hP hD hS ls (lv_sub hl [0, 1, 2, 3, 4] rfl)
          · replace hf := (if_neg c_50).symm.trans hf
            refine lv_iload_n hx hb d_Board_remove_53 rfl (lv_at hl 1 rfl) ?_
            refine lv_bipush (v := 6) hx hb d_Board_remove_54 (by decide) ?_
            refine lv_ishl hx hb d_Board_remove_56 ?_
            refine lv_iload hx hb d_Board_remove_57 (lv_at hl 4 rfl) ?_
            refine lv_ior hx hb d_Board_remove_59 ?_
            refine lv_istore (lv' := [(8, .int ((a1 <<< ((6 : Int32) &&& 31)) ||| x7)), (0, .ref h_t), (1, .int a1), (4, .int a4), (5, .long x5), (7, .int x7)]) hx hb d_Board_remove_60 hl (by decide) rfl (fun ls hl => ?_)
            refine lv_aload_n hx hb d_Board_remove_62 rfl (lv_at hl 1 rfl) ?_
            refine va_get (D := D) (ci := 0) (v := .ref h_t_reasons) (C := "RuleKernels$Board") (T := T_Board) (N := 6) hx hb hts w_i0 hown hK hP 0 rfl rfl 2 (by decide) w_f25 (fun _ h9 => h9) rfl d_Board_remove_63 ?_
            refine lv_iload hx hb d_Board_remove_66 (lv_at hl 0 rfl) ?_
            refine lv_iload hx hb d_Board_remove_68 (lv_at hl 3 rfl) ?_
            obtain ⟨h_70, hf⟩ := jin_some hf
            refine va_iast hx hb hK hP hD hS 2 0 rfl TY.1 h_70 d_Board_remove_70 (fun H locs hP hD hS => ?_)
            have hP : va_P D vwCl [(h_t, .inr (0, [.int t_symbolCount, .ref h_t_candidates, .ref h_t_reasons, .ref h_t_trail, .int t_gone, .int t_emptyPlaces])), (h_t_candidates, .inl (kL, n_t_candidates, .inr (.inl t_candidates))), (h_t_reasons, .inl (kI, n_t_reasons, .inl (upd t_reasons ((a1 <<< ((6 : Int32) &&& 31)) ||| x7).toNatClampNeg a4))), (h_t_trail, .inl (kI, n_t_trail, .inl t_trail))] H := hP
            have hD : va_D A [(h_t, .inr (0, [.int t_symbolCount, .ref h_t_candidates, .ref h_t_reasons, .ref h_t_trail, .int t_gone, .int t_emptyPlaces])), (h_t_candidates, .inl (kL, n_t_candidates, .inr (.inl t_candidates))), (h_t_reasons, .inl (kI, n_t_reasons, .inl (upd t_reasons ((a1 <<< ((6 : Int32) &&& 31)) ||| x7).toNatClampNeg a4))), (h_t_trail, .inl (kI, n_t_trail, .inl t_trail))] := hD
            refine lv_aload_n hx hb d_Board_remove_71 rfl (lv_at hl 1 rfl) ?_
            refine va_get (D := D) (ci := 0) (v := .ref h_t_trail) (C := "RuleKernels$Board") (T := T_Board) (N := 6) hx hb hts w_i0 hown hK hP 0 rfl rfl 3 (by decide) w_f29 (fun _ h9 => h9) rfl d_Board_remove_72 ?_
            refine lv_aload_n hx hb d_Board_remove_75 rfl (lv_at hl 1 rfl) ?_
            refine va_get (D := D) (ci := 0) (v := .int t_gone) (C := "RuleKernels$Board") (T := T_Board) (N := 6) hx hb hts w_i0 hown hK hP 0 rfl rfl 4 (by decide) w_f32 (fun _ h9 => h9) rfl d_Board_remove_76 ?_
            refine lv_iload hx hb d_Board_remove_79 (lv_at hl 0 rfl) ?_
            obtain ⟨h_81, hf⟩ := jin_some hf
            refine va_iast hx hb hK hP hD hS 3 0 rfl TY.1 h_81 d_Board_remove_81 (fun H locs hP hD hS => ?_)
            have hP : va_P D vwCl [(h_t, .inr (0, [.int t_symbolCount, .ref h_t_candidates, .ref h_t_reasons, .ref h_t_trail, .int t_gone, .int t_emptyPlaces])), (h_t_candidates, .inl (kL, n_t_candidates, .inr (.inl t_candidates))), (h_t_reasons, .inl (kI, n_t_reasons, .inl (upd t_reasons ((a1 <<< ((6 : Int32) &&& 31)) ||| x7).toNatClampNeg a4))), (h_t_trail, .inl (kI, n_t_trail, .inl (upd t_trail t_gone.toNatClampNeg ((a1 <<< ((6 : Int32) &&& 31)) ||| x7))))] H := hP
            have hD : va_D A [(h_t, .inr (0, [.int t_symbolCount, .ref h_t_candidates, .ref h_t_reasons, .ref h_t_trail, .int t_gone, .int t_emptyPlaces])), (h_t_candidates, .inl (kL, n_t_candidates, .inr (.inl t_candidates))), (h_t_reasons, .inl (kI, n_t_reasons, .inl (upd t_reasons ((a1 <<< ((6 : Int32) &&& 31)) ||| x7).toNatClampNeg a4))), (h_t_trail, .inl (kI, n_t_trail, .inl (upd t_trail t_gone.toNatClampNeg ((a1 <<< ((6 : Int32) &&& 31)) ||| x7))))] := hD
            refine lv_aload_n hx hb d_Board_remove_82 rfl (lv_at hl 1 rfl) ?_
            refine lv_dup hx hb d_Board_remove_83 rfl ?_
            refine va_get (D := D) (ci := 0) (v := .int t_gone) (C := "RuleKernels$Board") (T := T_Board) (N := 6) hx hb hts w_i0 hown hK hP 0 rfl rfl 4 (by decide) w_f32 (fun _ h9 => h9) rfl d_Board_remove_84 ?_
            refine lv_iconst (v := 1) hx hb d_Board_remove_87 (by decide) ?_
            refine lv_iadd hx hb d_Board_remove_88 ?_
            refine va_put (D := D) (ci := 0) (v := .int (t_gone + (1 : Int32))) (ty := .int) (C := "RuleKernels$Board") (T := T_Board) (N := 6) hx hb hts w_i0 ty_Board ty_Board_ok nm_Board hown hK hP hD hS 0 rfl rfl 4 (by decide) w_f32 (fun _ h9 => h9) rfl (by decide +kernel) rfl rfl (Nat.le_of_ble_eq_true rfl) d_Board_remove_89 (fun H locs hP hD hS => ?_)
            have hP : va_P D vwCl [(h_t, .inr (0, [.int t_symbolCount, .ref h_t_candidates, .ref h_t_reasons, .ref h_t_trail, .int (t_gone + (1 : Int32)), .int t_emptyPlaces])), (h_t_candidates, .inl (kL, n_t_candidates, .inr (.inl t_candidates))), (h_t_reasons, .inl (kI, n_t_reasons, .inl (upd t_reasons ((a1 <<< ((6 : Int32) &&& 31)) ||| x7).toNatClampNeg a4))), (h_t_trail, .inl (kI, n_t_trail, .inl (upd t_trail t_gone.toNatClampNeg ((a1 <<< ((6 : Int32) &&& 31)) ||| x7))))] H := hP
            have hD : va_D A [(h_t, .inr (0, [.int t_symbolCount, .ref h_t_candidates, .ref h_t_reasons, .ref h_t_trail, .int (t_gone + (1 : Int32)), .int t_emptyPlaces])), (h_t_candidates, .inl (kL, n_t_candidates, .inr (.inl t_candidates))), (h_t_reasons, .inl (kI, n_t_reasons, .inl (upd t_reasons ((a1 <<< ((6 : Int32) &&& 31)) ||| x7).toNatClampNeg a4))), (h_t_trail, .inl (kI, n_t_trail, .inl (upd t_trail t_gone.toNatClampNeg ((a1 <<< ((6 : Int32) &&& 31)) ||| x7))))] := hD
            exact L92 _ ih x5 x7 (t_gone + (1 : Int32)) t_emptyPlaces t_candidates (upd t_reasons ((a1 <<< ((6 : Int32) &&& 31)) ||| x7).toNatClampNeg a4) (upd t_trail t_gone.toNatClampNeg ((a1 <<< ((6 : Int32) &&& 31)) ||| x7)) hf _ _ hP hD hS ls (lv_sub hl [1, 2, 3, 4, 5] rfl)
  unfold p_Board_remove at hf
  refine lv_aload_n hx hb d_Board_remove_0 rfl (lv_at hl 0 rfl) ?_
  refine va_get (D := D) (ci := 0) (v := .ref h_t_candidates) (C := "RuleKernels$Board") (T := T_Board) (N := 6) hx hb hts w_i0 hown hK hP 0 rfl rfl 1 (by decide) w_f15 (fun _ h9 => h9) rfl d_Board_remove_1 ?_
  refine lv_iload_n hx hb d_Board_remove_4 rfl (lv_at hl 1 rfl) ?_
  obtain ⟨h_5, hf⟩ := jin_some hf
  refine va_lald hx hb hK hP 1 1 rfl TY.2.1 h_5 d_Board_remove_5 ?_
  refine lv_lload_n hx hb d_Board_remove_6 rfl (lv_at hl 2 rfl) ?_
  refine lv_land hx hb d_Board_remove_7 ?_
  refine lv_lstore (lv' := [(5, .long ((t_candidates a1.toNatClampNeg) &&& a2)), (0, .ref h_t), (1, .int a1), (2, .long a2), (4, .int a4)]) hx hb d_Board_remove_8 hl (by decide) rfl (fun ls hl => ?_)
  refine lv_lload hx hb d_Board_remove_10 (lv_at hl 0 rfl) ?_
  refine lv_lconst (v := 0) hx hb d_Board_remove_12 (by decide) ?_
  refine W.lcmp hx hb d_Board_remove_13 ?_
  refine lv_if_ne (tgt := 19) hx hb d_Board_remove_14 (by decide) (fun c_14 => ?_) (fun c_14 => ?_)
  · replace hf := (if_neg c_14).symm.trans hf
    refine lv_iconst (v := 0) hx hb d_Board_remove_19 (by decide) ?_
    refine lv_istore (lv' := [(7, .int (0 : Int32)), (5, .long ((t_candidates a1.toNatClampNeg) &&& a2)), (0, .ref h_t), (1, .int a1), (2, .long a2), (4, .int a4)]) hx hb d_Board_remove_20 hl (by decide) rfl (fun ls hl => ?_)
    exact L22  N ((t_candidates a1.toNatClampNeg) &&& a2) (0 : Int32) t_gone t_emptyPlaces t_candidates t_reasons t_trail hf _ _ hP hD hS ls (lv_sub hl [2, 3, 5, 1, 0] rfl)
  · replace hf := (if_pos c_14).symm.trans hf
    refine lv_iconst (v := 0) hx hb d_Board_remove_17 (by decide) ?_
    have hu := Option.some.inj hf
    exact m_retz () hx hb hr hlk hK (by rw [← hu]; exact hP) (by rw [← hu]; exact hD) hS hQ hAe rfl (by rw [← hu]) (Nat.le_of_ble_eq_true rfl) (Nat.le_of_ble_eq_true rfl) d_Board_remove_18
set_option maxHeartbeats 4000000 in
set_option maxRecDepth 100000 in
theorem c_Board_returnTo {l : Launch} {D : va_G} {tys : List (ClassId × FieldType)} {kI kL kZ kR kM : ClassId} {N : Nat} {h_t h_t_candidates h_t_trail h_t_reasons : Nat} {n_t_candidates : Nat} {n_t_trail : Nat} {t_symbolCount : Int32} {t_gone : Int32} {t_emptyPlaces : Int32} {t_candidates : Nat → Int64} {t_trail : Nat → Int32} {a1 : Int32} {u : Int32 × Int32 × (Nat → Int64)} (TY : mTy tys kI kL kZ kR kM) (hf : p_Board_returnTo N n_t_candidates n_t_trail t_gone t_emptyPlaces t_candidates t_trail a1 = some u) (sz : Nat) : Met l y_Board_returnTo ws_Board_returnTo { frames := 0, cells := 0, slots := 0, locals := 0 } (mPre D tys [.ref h_t, .int a1] [(h_t, .inr (0, [.int t_symbolCount, .ref h_t_candidates, .ref h_t_reasons, .ref h_t_trail, .int t_gone, .int t_emptyPlaces])), (h_t_candidates, .inl (kL, n_t_candidates, .inr (.inl t_candidates))), (h_t_trail, .inl (kI, n_t_trail, .inl t_trail))] sz) (mPost D tys (fun _ : Unit => none) [(h_t, .inr (0, [.int t_symbolCount, .ref h_t_candidates, .ref h_t_reasons, .ref h_t_trail, .int t_gone, .int t_emptyPlaces])), (h_t_candidates, .inl (kL, n_t_candidates, .inr (.inl t_candidates))), (h_t_trail, .inl (kI, n_t_trail, .inl t_trail))] (fun x : Unit => [(h_t, .inr (0, [.int t_symbolCount, .ref h_t_candidates, .ref h_t_reasons, .ref h_t_trail, .int u.1, .int u.2.1])), (h_t_candidates, .inl (kL, n_t_candidates, .inr (.inl u.2.2))), (h_t_trail, .inl (kI, n_t_trail, .inl t_trail))]) sz) 0 0 (va_A [(h_t, .inr (0, [.int t_symbolCount, .ref h_t_candidates, .ref h_t_reasons, .ref h_t_trail, .int t_gone, .int t_emptyPlaces])), (h_t_candidates, .inl (kL, n_t_candidates, .inr (.inl t_candidates))), (h_t_trail, .inl (kI, n_t_trail, .inl t_trail))] sz) := by
  refine m_ofW (cc := b_Board_returnTo) (maxL := 4) (ret := none) (by decide) rfl (Nat.le_of_ble_eq_true rfl) ?_ sz
  intro p e s m args below meth c ls Q A hx hb hml hr hts hown hin hlk hK hN hP hD hA hS hl hQ hAe
  have hown : s.vm.findClass "RuleKernels$Board" = some m.cls := hown
  have hl : lv_has ls 4 [(0, .ref h_t), (1, .int a1)] := hl
  have w_f15 := (hts _ (List.mem_cons_of_mem _ tw_80))
  have w_f29 := (hts _ (List.mem_cons_of_mem _ tw_83))
  have w_f32 := (hts _ (List.mem_cons_of_mem _ tw_84))
  have w_f35 := (hts _ (List.mem_cons_of_mem _ tw_86))
  have w_i0 := (fun q h => List.mem_cons_of_mem _ (i_Board q h) : ∀ q ∈ u_ws "RuleKernels$Board" T_Board 6, q ∈ ws_Board_returnTo)
  have L73 : ∀ (t_gone : Int32) (t_emptyPlaces : Int32) (t_candidates : Nat → Int64), q_Board_returnTo_73 N a1 t_gone t_emptyPlaces t_candidates = some u → ∀ (H : Heap) (locs : List Loc), va_P D vwCl [(h_t, .inr (0, [.int t_symbolCount, .ref h_t_candidates, .ref h_t_reasons, .ref h_t_trail, .int t_gone, .int t_emptyPlaces])), (h_t_candidates, .inl (kL, n_t_candidates, .inr (.inl t_candidates))), (h_t_trail, .inl (kI, n_t_trail, .inl t_trail))] H → va_D A [(h_t, .inr (0, [.int t_symbolCount, .ref h_t_candidates, .ref h_t_reasons, .ref h_t_trail, .int t_gone, .int t_emptyPlaces])), (h_t_candidates, .inl (kL, n_t_candidates, .inr (.inl t_candidates))), (h_t_trail, .inl (kI, n_t_trail, .inl t_trail))] → va_S A s.heap H locs → ∀ ls : Array Slot, lv_has ls 4 [(0, .ref h_t), (1, .int a1)] → W p l e { frames := 0, cells := 0, slots := 0, locals := 0 } s m args below meth c H locs 0 0 Q (F0 m 73 ls []) := by
    intro t_gone t_emptyPlaces t_candidates hf H locs hP hD hS ls hl
    unfold q_Board_returnTo_73 at hf
    refine lv_aload_n hx hb d_Board_returnTo_73 rfl (lv_at hl 0 rfl) ?_
    refine lv_iload_n hx hb d_Board_returnTo_74 rfl (lv_at hl 1 rfl) ?_
    refine va_put (D := D) (ci := 0) (v := .int a1) (ty := .int) (C := "RuleKernels$Board") (T := T_Board) (N := 6) hx hb hts w_i0 ty_Board ty_Board_ok nm_Board hown hK hP hD hS 0 rfl rfl 4 (by decide) w_f32 (fun _ h9 => h9) rfl (by decide +kernel) rfl rfl (Nat.le_of_ble_eq_true rfl) d_Board_returnTo_75 (fun H locs hP hD hS => ?_)
    have hP : va_P D vwCl [(h_t, .inr (0, [.int t_symbolCount, .ref h_t_candidates, .ref h_t_reasons, .ref h_t_trail, .int a1, .int t_emptyPlaces])), (h_t_candidates, .inl (kL, n_t_candidates, .inr (.inl t_candidates))), (h_t_trail, .inl (kI, n_t_trail, .inl t_trail))] H := hP
    have hD : va_D A [(h_t, .inr (0, [.int t_symbolCount, .ref h_t_candidates, .ref h_t_reasons, .ref h_t_trail, .int a1, .int t_emptyPlaces])), (h_t_candidates, .inl (kL, n_t_candidates, .inr (.inl t_candidates))), (h_t_trail, .inl (kI, n_t_trail, .inl t_trail))] := hD
    have hu := Option.some.inj hf
    exact m_retv () hx hb hr hlk hK (by rw [← hu]; exact hP) (by rw [← hu]; exact hD) hS hQ hAe rfl (Nat.le_of_ble_eq_true rfl) (Nat.le_of_ble_eq_true rfl) d_Board_returnTo_78
  have L47 : ∀ (K7 : Int32 → Int32 → Int32 → (Nat → Int64) → Option (Int32 × Int32 × (Nat → Int64))), (∀ (x2 : Int32) (t_gone : Int32) (t_emptyPlaces : Int32) (t_candidates : Nat → Int64), K7 x2 t_gone t_emptyPlaces t_candidates = some u → ∀ (H : Heap) (locs : List Loc), va_P D vwCl [(h_t, .inr (0, [.int t_symbolCount, .ref h_t_candidates, .ref h_t_reasons, .ref h_t_trail, .int t_gone, .int t_emptyPlaces])), (h_t_candidates, .inl (kL, n_t_candidates, .inr (.inl t_candidates))), (h_t_trail, .inl (kI, n_t_trail, .inl t_trail))] H → va_D A [(h_t, .inr (0, [.int t_symbolCount, .ref h_t_candidates, .ref h_t_reasons, .ref h_t_trail, .int t_gone, .int t_emptyPlaces])), (h_t_candidates, .inl (kL, n_t_candidates, .inr (.inl t_candidates))), (h_t_trail, .inl (kI, n_t_trail, .inl t_trail))] → va_S A s.heap H locs → ∀ ls : Array Slot, lv_has ls 4 [(0, .ref h_t), (1, .int a1), (2, .int x2)] → W p l e { frames := 0, cells := 0, slots := 0, locals := 0 } s m args below meth c H locs 0 0 Q (F0 m 7 ls [])) → ∀ (x2 : Int32) (x3 : Int32) (t_gone : Int32) (t_emptyPlaces : Int32) (t_candidates : Nat → Int64), q_Board_returnTo_47 N n_t_candidates n_t_trail t_trail K7 x2 x3 t_gone t_emptyPlaces t_candidates = some u → ∀ (H : Heap) (locs : List Loc), va_P D vwCl [(h_t, .inr (0, [.int t_symbolCount, .ref h_t_candidates, .ref h_t_reasons, .ref h_t_trail, .int t_gone, .int t_emptyPlaces])), (h_t_candidates, .inl (kL, n_t_candidates, .inr (.inl t_candidates))), (h_t_trail, .inl (kI, n_t_trail, .inl t_trail))] H → va_D A [(h_t, .inr (0, [.int t_symbolCount, .ref h_t_candidates, .ref h_t_reasons, .ref h_t_trail, .int t_gone, .int t_emptyPlaces])), (h_t_candidates, .inl (kL, n_t_candidates, .inr (.inl t_candidates))), (h_t_trail, .inl (kI, n_t_trail, .inl t_trail))] → va_S A s.heap H locs → ∀ ls : Array Slot, lv_has ls 4 [(0, .ref h_t), (1, .int a1), (2, .int x2), (3, .int x3)] → W p l e { frames := 0, cells := 0, slots := 0, locals := 0 } s m args below meth c H locs 0 0 Q (F0 m 47 ls []) := by
    intro K7 hK7 x2 x3 t_gone t_emptyPlaces t_candidates hf H locs hP hD hS ls hl
    unfold q_Board_returnTo_47 at hf
    refine lv_aload_n hx hb d_Board_returnTo_47 rfl (lv_at hl 0 rfl) ?_
    refine va_get (D := D) (ci := 0) (v := .ref h_t_candidates) (C := "RuleKernels$Board") (T := T_Board) (N := 6) hx hb hts w_i0 hown hK hP 0 rfl rfl 1 (by decide) w_f15 (fun _ h9 => h9) rfl d_Board_returnTo_48 ?_
    refine lv_iload_n hx hb d_Board_returnTo_51 rfl (lv_at hl 3 rfl) ?_
    refine lv_dup2_11 hx hb d_Board_returnTo_52 rfl rfl ?_
    obtain ⟨h_53, hf⟩ := jin_some hf
    refine va_lald hx hb hK hP 1 1 rfl TY.2.1 h_53 d_Board_returnTo_53 ?_
    refine lv_lconst (v := 1) hx hb d_Board_returnTo_54 (by decide) ?_
    refine lv_aload_n hx hb d_Board_returnTo_55 rfl (lv_at hl 0 rfl) ?_
    refine va_get (D := D) (ci := 0) (v := .ref h_t_trail) (C := "RuleKernels$Board") (T := T_Board) (N := 6) hx hb hts w_i0 hown hK hP 0 rfl rfl 3 (by decide) w_f29 (fun _ h9 => h9) rfl d_Board_returnTo_56 ?_
    refine lv_iload_n hx hb d_Board_returnTo_59 rfl (lv_at hl 2 rfl) ?_
    obtain ⟨h_60, hf⟩ := jin_some hf
    refine va_iald hx hb hK hP 2 0 rfl TY.1 h_60 d_Board_returnTo_60 ?_
    refine lv_bipush (v := 63) hx hb d_Board_returnTo_61 (by decide) ?_
    refine lv_iand hx hb d_Board_returnTo_63 ?_
    refine lv_lshl (v := (j_lshl (1 : Int64) ((t_trail x2.toNatClampNeg) &&& (63 : Int32)))) hx hb d_Board_returnTo_64 rfl ?_
    refine lv_lor hx hb d_Board_returnTo_65 ?_
    obtain ⟨h_66, hf⟩ := jin_some hf
    refine va_last hx hb hK hP hD hS 1 1 rfl TY.2.1 h_66 d_Board_returnTo_66 (fun H locs hP hD hS => ?_)
    have hP : va_P D vwCl [(h_t, .inr (0, [.int t_symbolCount, .ref h_t_candidates, .ref h_t_reasons, .ref h_t_trail, .int t_gone, .int t_emptyPlaces])), (h_t_candidates, .inl (kL, n_t_candidates, .inr (.inl (vp_updL t_candidates x3.toNatClampNeg ((t_candidates x3.toNatClampNeg) ||| (j_lshl (1 : Int64) ((t_trail x2.toNatClampNeg) &&& (63 : Int32)))))))), (h_t_trail, .inl (kI, n_t_trail, .inl t_trail))] H := hP
    have hD : va_D A [(h_t, .inr (0, [.int t_symbolCount, .ref h_t_candidates, .ref h_t_reasons, .ref h_t_trail, .int t_gone, .int t_emptyPlaces])), (h_t_candidates, .inl (kL, n_t_candidates, .inr (.inl (vp_updL t_candidates x3.toNatClampNeg ((t_candidates x3.toNatClampNeg) ||| (j_lshl (1 : Int64) ((t_trail x2.toNatClampNeg) &&& (63 : Int32)))))))), (h_t_trail, .inl (kI, n_t_trail, .inl t_trail))] := hD
    refine lv_iinc (v := (x2 + (-1))) (lv' := [(2, .int (x2 + (-1))), (0, .ref h_t), (1, .int a1), (3, .int x3)]) hx hb d_Board_returnTo_67 hl (k := 2) rfl rfl (by decide) rfl (fun ls hl => ?_)
    refine lv_goto (tgt := 7) hx hb d_Board_returnTo_70 (by decide) ?_
    exact hK7 (x2 + (-1)) t_gone t_emptyPlaces (vp_updL t_candidates x3.toNatClampNeg ((t_candidates x3.toNatClampNeg) ||| (j_lshl (1 : Int64) ((t_trail x2.toNatClampNeg) &&& (63 : Int32))))) hf _ _ hP hD hS ls (lv_sub hl [1, 2, 0] rfl)
  have L7 : ∀ n : Nat, ∀ (x2 : Int32) (t_gone : Int32) (t_emptyPlaces : Int32) (t_candidates : Nat → Int64), q_Board_returnTo_7 N n_t_candidates n_t_trail t_trail a1 n x2 t_gone t_emptyPlaces t_candidates = some u → ∀ (H : Heap) (locs : List Loc), va_P D vwCl [(h_t, .inr (0, [.int t_symbolCount, .ref h_t_candidates, .ref h_t_reasons, .ref h_t_trail, .int t_gone, .int t_emptyPlaces])), (h_t_candidates, .inl (kL, n_t_candidates, .inr (.inl t_candidates))), (h_t_trail, .inl (kI, n_t_trail, .inl t_trail))] H → va_D A [(h_t, .inr (0, [.int t_symbolCount, .ref h_t_candidates, .ref h_t_reasons, .ref h_t_trail, .int t_gone, .int t_emptyPlaces])), (h_t_candidates, .inl (kL, n_t_candidates, .inr (.inl t_candidates))), (h_t_trail, .inl (kI, n_t_trail, .inl t_trail))] → va_S A s.heap H locs → ∀ ls : Array Slot, lv_has ls 4 [(0, .ref h_t), (1, .int a1), (2, .int x2)] → W p l e { frames := 0, cells := 0, slots := 0, locals := 0 } s m args below meth c H locs 0 0 Q (F0 m 7 ls []) := by
    intro n
    induction n with
    | zero =>
      intro x2 t_gone t_emptyPlaces t_candidates hf
      exact nomatch (show (none : Option (Int32 × Int32 × (Nat → Int64))) = some _ from hf)
    | succ n ih =>
      intro x2 t_gone t_emptyPlaces t_candidates hf H locs hP hD hS ls hl
      rw [q_Board_returnTo_7] at hf
      refine lv_iload_n hx hb d_Board_returnTo_7 rfl (lv_at hl 2 rfl) ?_
      refine lv_iload_n hx hb d_Board_returnTo_8 rfl (lv_at hl 1 rfl) ?_
      refine lv_icmp_lt (tgt := 73) hx hb d_Board_returnTo_9 (by decide) (fun c_9 => ?_) (fun c_9 => ?_)
      · replace hf := (if_pos c_9).symm.trans hf
        exact L73  t_gone t_emptyPlaces t_candidates hf _ _ hP hD hS ls (lv_sub hl [0, 1] rfl)
      · replace hf := (if_neg c_9).symm.trans hf
        refine lv_iload_n hx hb d_Board_returnTo_12 rfl (lv_at hl 2 rfl) ?_
        refine lv_if_lt (tgt := 73) hx hb d_Board_returnTo_13 (by decide) (fun c_13 => ?_) (fun c_13 => ?_)
        · replace hf := (if_pos c_13).symm.trans hf
          exact L73  t_gone t_emptyPlaces t_candidates hf _ _ hP hD hS ls (lv_sub hl [0, 1] rfl)
        · replace hf := (if_neg c_13).symm.trans hf
          refine lv_aload_n hx hb d_Board_returnTo_16 rfl (lv_at hl 0 rfl) ?_
          refine va_get (D := D) (ci := 0) (v := .ref h_t_trail) (C := "RuleKernels$Board") (T := T_Board) (N := 6) hx hb hts w_i0 hown hK hP 0 rfl rfl 3 (by decide) w_f29 (fun _ h9 => h9) rfl d_Board_returnTo_17 ?_
          refine lv_iload_n hx hb d_Board_returnTo_20 rfl (lv_at hl 2 rfl) ?_
          obtain ⟨h_21, hf⟩ := jin_some hf
          refine va_iald hx hb hK hP 2 0 rfl TY.1 h_21 d_Board_returnTo_21 ?_
          refine lv_bipush (v := 6) hx hb d_Board_returnTo_22 (by decide) ?_
          refine lv_iushr (v := (j_iushr (t_trail x2.toNatClampNeg) (6 : Int32))) hx hb d_Board_returnTo_24 rfl ?_
          refine lv_istore_n (lv' := [(3, .int (j_iushr (t_trail x2.toNatClampNeg) (6 : Int32))), (0, .ref h_t), (1, .int a1), (2, .int x2)]) hx hb d_Board_returnTo_25 rfl hl (by decide) rfl (fun ls hl => ?_)
          refine lv_aload_n hx hb d_Board_returnTo_26 rfl (lv_at hl 1 rfl) ?_
          refine va_get (D := D) (ci := 0) (v := .ref h_t_candidates) (C := "RuleKernels$Board") (T := T_Board) (N := 6) hx hb hts w_i0 hown hK hP 0 rfl rfl 1 (by decide) w_f15 (fun _ h9 => h9) rfl d_Board_returnTo_27 ?_
          refine lv_iload_n hx hb d_Board_returnTo_30 rfl (lv_at hl 0 rfl) ?_
          obtain ⟨h_31, hf⟩ := jin_some hf
          refine va_lald hx hb hK hP 1 1 rfl TY.2.1 h_31 d_Board_returnTo_31 ?_
          refine lv_lconst (v := 0) hx hb d_Board_returnTo_32 (by decide) ?_
          refine W.lcmp hx hb d_Board_returnTo_33 ?_
          refine lv_if_ne (tgt := 47) hx hb d_Board_returnTo_34 (by decide) (fun c_34 => ?_) (fun c_34 => ?_)
          · replace hf := (if_neg c_34).symm.trans hf
            exact L47 _ ih x2 (j_iushr (t_trail x2.toNatClampNeg) (6 : Int32)) t_gone t_emptyPlaces t_candidates hf _ _ hP hD hS ls (lv_sub hl [1, 2, 3, 0] rfl)
          · replace hf := (if_pos c_34).symm.trans hf
            refine lv_aload_n hx hb d_Board_returnTo_37 rfl (lv_at hl 1 rfl) ?_
            refine lv_dup hx hb d_Board_returnTo_38 rfl ?_
            refine va_get (D := D) (ci := 0) (v := .int t_emptyPlaces) (C := "RuleKernels$Board") (T := T_Board) (N := 6) hx hb hts w_i0 hown hK hP 0 rfl rfl 5 (by decide) w_f35 (fun _ h9 => h9) rfl d_Board_returnTo_39 ?_
            refine lv_iconst (v := 1) hx hb d_Board_returnTo_42 (by decide) ?_
            refine lv_isub hx hb d_Board_returnTo_43 ?_
            refine va_put (D := D) (ci := 0) (v := .int (t_emptyPlaces - (1 : Int32))) (ty := .int) (C := "RuleKernels$Board") (T := T_Board) (N := 6) hx hb hts w_i0 ty_Board ty_Board_ok nm_Board hown hK hP hD hS 0 rfl rfl 5 (by decide) w_f35 (fun _ h9 => h9) rfl (by decide +kernel) rfl rfl (Nat.le_of_ble_eq_true rfl) d_Board_returnTo_44 (fun H locs hP hD hS => ?_)
            have hP : va_P D vwCl [(h_t, .inr (0, [.int t_symbolCount, .ref h_t_candidates, .ref h_t_reasons, .ref h_t_trail, .int t_gone, .int (t_emptyPlaces - (1 : Int32))])), (h_t_candidates, .inl (kL, n_t_candidates, .inr (.inl t_candidates))), (h_t_trail, .inl (kI, n_t_trail, .inl t_trail))] H := hP
            have hD : va_D A [(h_t, .inr (0, [.int t_symbolCount, .ref h_t_candidates, .ref h_t_reasons, .ref h_t_trail, .int t_gone, .int (t_emptyPlaces - (1 : Int32))])), (h_t_candidates, .inl (kL, n_t_candidates, .inr (.inl t_candidates))), (h_t_trail, .inl (kI, n_t_trail, .inl t_trail))] := hD
            exact L47 _ ih x2 (j_iushr (t_trail x2.toNatClampNeg) (6 : Int32)) t_gone (t_emptyPlaces - (1 : Int32)) t_candidates hf _ _ hP hD hS ls (lv_sub hl [1, 2, 3, 0] rfl)
  unfold p_Board_returnTo at hf
  refine lv_aload_n hx hb d_Board_returnTo_0 rfl (lv_at hl 0 rfl) ?_
  refine va_get (D := D) (ci := 0) (v := .int t_gone) (C := "RuleKernels$Board") (T := T_Board) (N := 6) hx hb hts w_i0 hown hK hP 0 rfl rfl 4 (by decide) w_f32 (fun _ h9 => h9) rfl d_Board_returnTo_1 ?_
  refine lv_iconst (v := 1) hx hb d_Board_returnTo_4 (by decide) ?_
  refine lv_isub hx hb d_Board_returnTo_5 ?_
  refine lv_istore_n (lv' := [(2, .int (t_gone - (1 : Int32))), (0, .ref h_t), (1, .int a1)]) hx hb d_Board_returnTo_6 rfl hl (by decide) rfl (fun ls hl => ?_)
  exact L7  N (t_gone - (1 : Int32)) t_gone t_emptyPlaces t_candidates hf _ _ hP hD hS ls (lv_sub hl [1, 2, 0] rfl)
set_option maxHeartbeats 4000000 in
set_option maxRecDepth 100000 in
theorem c_Board_leastEmptyPlace {l : Launch} {D : va_G} {tys : List (ClassId × FieldType)} {kI kL kZ kR kM : ClassId} {N : Nat} {h_t h_t_candidates h_t_reasons h_t_trail : Nat} {n_t_candidates : Nat} {t_symbolCount : Int32} {t_gone : Int32} {t_emptyPlaces : Int32} {t_candidates : Nat → Int64} {u : Int32} (TY : mTy tys kI kL kZ kR kM) (hf : p_Board_leastEmptyPlace N n_t_candidates t_emptyPlaces t_candidates = some u) (sz : Nat) : Met l y_Board_leastEmptyPlace ws_Board_leastEmptyPlace { frames := 0, cells := 0, slots := 0, locals := 0 } (mPre D tys [.ref h_t] [(h_t, .inr (0, [.int t_symbolCount, .ref h_t_candidates, .ref h_t_reasons, .ref h_t_trail, .int t_gone, .int t_emptyPlaces])), (h_t_candidates, .inl (kL, n_t_candidates, .inr (.inl t_candidates)))] sz) (mPost D tys (fun _ : Unit => some (.int u)) [(h_t, .inr (0, [.int t_symbolCount, .ref h_t_candidates, .ref h_t_reasons, .ref h_t_trail, .int t_gone, .int t_emptyPlaces])), (h_t_candidates, .inl (kL, n_t_candidates, .inr (.inl t_candidates)))] (fun x : Unit => [(h_t, .inr (0, [.int t_symbolCount, .ref h_t_candidates, .ref h_t_reasons, .ref h_t_trail, .int t_gone, .int t_emptyPlaces])), (h_t_candidates, .inl (kL, n_t_candidates, .inr (.inl t_candidates)))]) sz) 0 0 (va_A [(h_t, .inr (0, [.int t_symbolCount, .ref h_t_candidates, .ref h_t_reasons, .ref h_t_trail, .int t_gone, .int t_emptyPlaces])), (h_t_candidates, .inl (kL, n_t_candidates, .inr (.inl t_candidates)))] sz) := by
  refine m_ofW (cc := b_Board_leastEmptyPlace) (maxL := 2) (ret := (some .int)) (by decide) rfl (Nat.le_of_ble_eq_true rfl) ?_ sz
  intro p e s m args below meth c ls Q A hx hb hml hr hts hown hin hlk hK hN hP hD hA hS hl hQ hAe
  have hown : s.vm.findClass "RuleKernels$Board" = some m.cls := hown
  have hl : lv_has ls 2 [(0, .ref h_t)] := hl
  have w_f15 := (hts _ (List.mem_cons_of_mem _ tw_80))
  have w_f35 := (hts _ (List.mem_cons_of_mem _ tw_86))
  have w_i0 := (fun q h => List.mem_cons_of_mem _ (i_Board q h) : ∀ q ∈ u_ws "RuleKernels$Board" T_Board 6, q ∈ ws_Board_leastEmptyPlace)
  have L11 : ∀ n : Nat, ∀ (x1 : Int32), q_Board_leastEmptyPlace_11 N n_t_candidates t_candidates n x1 = some u → ∀ (H : Heap) (locs : List Loc), va_P D vwCl [(h_t, .inr (0, [.int t_symbolCount, .ref h_t_candidates, .ref h_t_reasons, .ref h_t_trail, .int t_gone, .int t_emptyPlaces])), (h_t_candidates, .inl (kL, n_t_candidates, .inr (.inl t_candidates)))] H → va_D A [(h_t, .inr (0, [.int t_symbolCount, .ref h_t_candidates, .ref h_t_reasons, .ref h_t_trail, .int t_gone, .int t_emptyPlaces])), (h_t_candidates, .inl (kL, n_t_candidates, .inr (.inl t_candidates)))] → va_S A s.heap H locs → ∀ ls : Array Slot, lv_has ls 2 [(0, .ref h_t), (1, .int x1)] → W p l e { frames := 0, cells := 0, slots := 0, locals := 0 } s m args below meth c H locs 0 0 Q (F0 m 11 ls []) := by
    intro n
    induction n with
    | zero =>
      intro x1 hf
      exact nomatch (show (none : Option (Int32)) = some _ from hf)
    | succ n ih =>
      intro x1 hf H locs hP hD hS ls hl
      rw [q_Board_leastEmptyPlace_11] at hf
      refine lv_iload_n hx hb d_Board_leastEmptyPlace_11 rfl (lv_at hl 1 rfl) ?_
      refine lv_aload_n hx hb d_Board_leastEmptyPlace_12 rfl (lv_at hl 0 rfl) ?_
      refine va_get (D := D) (ci := 0) (v := .ref h_t_candidates) (C := "RuleKernels$Board") (T := T_Board) (N := 6) hx hb hts w_i0 hown hK hP 0 rfl rfl 1 (by decide) w_f15 (fun _ h9 => h9) rfl d_Board_leastEmptyPlace_13 ?_
      refine va_alen (v := nI n_t_candidates) hx hb hK hP 1 1 rfl TY.2.1 rfl d_Board_leastEmptyPlace_16 ?_
      refine lv_icmp_ge (tgt := 39) hx hb d_Board_leastEmptyPlace_17 (by decide) (fun c_17 => ?_) (fun c_17 => ?_)
      · replace hf := (if_pos c_17).symm.trans hf
        refine lv_iconst (v := -1) hx hb d_Board_leastEmptyPlace_39 (by decide) ?_
        have hu := Option.some.inj hf
        exact m_reti () hx hb hr hlk hK hP hD hS hQ hAe (by rw [← hu]) (Nat.le_of_ble_eq_true rfl) (Nat.le_of_ble_eq_true rfl) d_Board_leastEmptyPlace_40
      · replace hf := (if_neg c_17).symm.trans hf
        refine lv_aload_n hx hb d_Board_leastEmptyPlace_20 rfl (lv_at hl 0 rfl) ?_
        refine va_get (D := D) (ci := 0) (v := .ref h_t_candidates) (C := "RuleKernels$Board") (T := T_Board) (N := 6) hx hb hts w_i0 hown hK hP 0 rfl rfl 1 (by decide) w_f15 (fun _ h9 => h9) rfl d_Board_leastEmptyPlace_21 ?_
        refine lv_iload_n hx hb d_Board_leastEmptyPlace_24 rfl (lv_at hl 1 rfl) ?_
        obtain ⟨h_25, hf⟩ := jin_some hf
        refine va_lald hx hb hK hP 1 1 rfl TY.2.1 h_25 d_Board_leastEmptyPlace_25 ?_
        refine lv_lconst (v := 0) hx hb d_Board_leastEmptyPlace_26 (by decide) ?_
        refine W.lcmp hx hb d_Board_leastEmptyPlace_27 ?_
        refine lv_if_ne (tgt := 33) hx hb d_Board_leastEmptyPlace_28 (by decide) (fun c_28 => ?_) (fun c_28 => ?_)
        · replace hf := (if_neg c_28).symm.trans hf
          refine lv_iinc (v := (x1 + 1)) (lv' := [(1, .int (x1 + 1)), (0, .ref h_t)]) hx hb d_Board_leastEmptyPlace_33 hl (k := 1) rfl rfl (by decide) rfl (fun ls hl => ?_)
          refine lv_goto (tgt := 11) hx hb d_Board_leastEmptyPlace_36 (by decide) ?_
          exact ih (x1 + 1) hf _ _ hP hD hS ls (lv_sub hl [1, 0] rfl)
        · replace hf := (if_pos c_28).symm.trans hf
          refine lv_iload_n hx hb d_Board_leastEmptyPlace_31 rfl (lv_at hl 1 rfl) ?_
          have hu := Option.some.inj hf
          exact m_reti () hx hb hr hlk hK hP hD hS hQ hAe (by rw [← hu]) (Nat.le_of_ble_eq_true rfl) (Nat.le_of_ble_eq_true rfl) d_Board_leastEmptyPlace_32
  unfold p_Board_leastEmptyPlace at hf
  refine lv_aload_n hx hb d_Board_leastEmptyPlace_0 rfl (lv_at hl 0 rfl) ?_
  refine va_get (D := D) (ci := 0) (v := .int t_emptyPlaces) (C := "RuleKernels$Board") (T := T_Board) (N := 6) hx hb hts w_i0 hown hK hP 0 rfl rfl 5 (by decide) w_f35 (fun _ h9 => h9) rfl d_Board_leastEmptyPlace_1 ?_
  refine lv_if_ne (tgt := 9) hx hb d_Board_leastEmptyPlace_4 (by decide) (fun c_4 => ?_) (fun c_4 => ?_)
  · replace hf := (if_neg c_4).symm.trans hf
    refine lv_iconst (v := 0) hx hb d_Board_leastEmptyPlace_9 (by decide) ?_
    refine lv_istore_n (lv' := [(1, .int (0 : Int32)), (0, .ref h_t)]) hx hb d_Board_leastEmptyPlace_10 rfl hl (by decide) rfl (fun ls hl => ?_)
    exact L11  N (0 : Int32) hf _ _ hP hD hS ls (lv_sub hl [1, 0] rfl)
  · replace hf := (if_pos c_4).symm.trans hf
    refine lv_iconst (v := -1) hx hb d_Board_leastEmptyPlace_7 (by decide) ?_
    have hu := Option.some.inj hf
    exact m_reti () hx hb hr hlk hK hP hD hS hQ hAe (by rw [← hu]) (Nat.le_of_ble_eq_true rfl) (Nat.le_of_ble_eq_true rfl) d_Board_leastEmptyPlace_8
set_option maxHeartbeats 4000000 in
set_option maxRecDepth 100000 in
theorem c_Board_init {l : Launch} {D : va_G} {tys : List (ClassId × FieldType)} {kI kL kZ kR kM : ClassId} {N : Nat} {h_t : Nat} {a1 : Int32} {a2 : Int32} {u : Nat × Nat × Nat × Int32 × Int32 × Int32 × (Nat → Int64) × (Nat → Int32) × (Nat → Int32)} (TY : mTy tys kI kL kZ kR kM) (hf : p_Board_init N a1 a2 = some u) (sz : Nat) : Met l y_Board_init ws_Board_init { frames := 1, cells := 3, slots := 16000, locals := 24 } (mPre D tys [.ref h_t, .int a1, .int a2] [(h_t, .inr (0, [.int (0 : Int32), .null, .null, .null, .int (0 : Int32), .int (0 : Int32)]))] sz) (mPost D tys (fun _ : Nat × Nat × Nat => none) [(h_t, .inr (0, [.int (0 : Int32), .null, .null, .null, .int (0 : Int32), .int (0 : Int32)]))] (fun x : Nat × Nat × Nat => [(h_t, .inr (0, [.int u.2.2.2.1, .ref x.1, .ref x.2.1, .ref x.2.2, .int u.2.2.2.2.1, .int u.2.2.2.2.2.1])), (x.1, .inl (kL, u.1, .inr (.inl u.2.2.2.2.2.2.1))), (x.2.1, .inl (kI, u.2.1, .inl u.2.2.2.2.2.2.2.1)), (x.2.2, .inl (kI, u.2.2.1, .inl u.2.2.2.2.2.2.2.2))]) sz) 3 16000 (va_A [(h_t, .inr (0, [.int (0 : Int32), .null, .null, .null, .int (0 : Int32), .int (0 : Int32)]))] sz) := by
  refine m_ofW (cc := b_Board_init) (maxL := 3) (ret := none) (by decide) rfl (Nat.le_of_ble_eq_true rfl) ?_ sz
  intro p e s m args below meth c ls Q A hx hb hml hr hts hown hin hlk hK hN hP hD hA hS hl hQ hAe
  have hown : s.vm.findClass "RuleKernels$Board" = some m.cls := hown
  have hl : lv_has ls 3 [(0, .ref h_t), (1, .int a1), (2, .int a2)] := hl
  have w_f15 := (hts _ (List.mem_cons_of_mem _ tw_80))
  have w_f25 := (hts _ (List.mem_cons_of_mem _ tw_82))
  have w_f29 := (hts _ (List.mem_cons_of_mem _ tw_83))
  have w_f32 := (hts _ (List.mem_cons_of_mem _ tw_84))
  have w_f35 := (hts _ (List.mem_cons_of_mem _ tw_86))
  have w_f9 := (hts _ (List.mem_cons_of_mem _ tw_78))
  have w_i0 := (fun q h => List.mem_cons_of_mem _ (i_Board q h) : ∀ q ∈ u_ws "RuleKernels$Board" T_Board 6, q ∈ ws_Board_init)
  unfold p_Board_init at hf
  refine lv_aload_n hx hb d_Board_init_0 rfl (lv_at hl 0 rfl) ?_
  refine W.objInit hx hb hown (hts _ (List.mem_cons_of_mem _ tw_74)) (hts _ (List.mem_cons_of_mem _ tw_61)) (hts _ (List.mem_cons_of_mem _ tc_objinit)) rfl (by rw [hml]; exact hl.1) rfl d_Board_init_1 (Nat.le_of_ble_eq_true rfl) (Nat.le_of_ble_eq_true rfl) ?_
  refine W.eq (g2 := F0 m 4 ls []) rfl ?_
  refine lv_aload_n hx hb d_Board_init_4 rfl (lv_at hl 0 rfl) ?_
  refine lv_iload_n hx hb d_Board_init_5 rfl (lv_at hl 2 rfl) ?_
  refine va_putF (D := D) (ci := 0) (v := .int a2) (ty := .int) (C := "RuleKernels$Board") (T := T_Board) (N := 6) hx hb hts w_i0 ty_Board ty_Board_ok nm_Board hown hK hP hD hS 0 rfl rfl 0 (by decide) w_f9 (fun _ h9 => h9) rfl hin rfl (by decide +kernel) rfl rfl (Nat.le_of_ble_eq_true rfl) d_Board_init_6 (fun H locs hP hD hS => ?_)
  have hP : va_P D vwCl [(h_t, .inr (0, [.int a2, .null, .null, .null, .int (0 : Int32), .int (0 : Int32)]))] H := hP
  have hD : va_D A [(h_t, .inr (0, [.int a2, .null, .null, .null, .int (0 : Int32), .int (0 : Int32)]))] := hD
  refine lv_aload_n hx hb d_Board_init_9 rfl (lv_at hl 0 rfl) ?_
  refine lv_iload_n hx hb d_Board_init_10 rfl (lv_at hl 1 rfl) ?_
  obtain ⟨h_11, hf⟩ := jnw_some hf
  refine m_newJ (N' := a1.toNatClampNeg) hx hb (hts _ (List.mem_cons_of_mem _ tw_101)) TY hK hP hD hS hA h_11.1 rfl (Nat.le_trans (Nat.mul_le_mul_right _ h_11.2) (Nat.le_of_ble_eq_true rfl)) (Nat.le_of_ble_eq_true rfl) (Nat.le_trans (Nat.add_le_add_left h_11.2 _) (Nat.le_of_ble_eq_true rfl)) d_Board_init_11 (fun q11 H hP hD hS => ?_)
  have hP : va_P D vwCl [(h_t, .inr (0, [.int a2, .null, .null, .null, .int (0 : Int32), .int (0 : Int32)])), (q11, .inl (kL, a1.toNatClampNeg, .inr (.inl (fun _ => 0))))] H := hP
  have hD : va_D A [(h_t, .inr (0, [.int a2, .null, .null, .null, .int (0 : Int32), .int (0 : Int32)])), (q11, .inl (kL, a1.toNatClampNeg, .inr (.inl (fun _ => 0))))] := hD
  refine W.widen (k := 1) (n := 128) (Nat.le_of_ble_eq_true rfl) (Nat.le_trans (Nat.add_le_add_left h_11.2 _) (Nat.le_of_ble_eq_true rfl)) ?_
  refine va_putF (D := D) (ci := 0) (v := .ref q11) (ty := (.array .long)) (C := "RuleKernels$Board") (T := T_Board) (N := 6) hx hb hts w_i0 ty_Board ty_Board_ok nm_Board hown hK hP hD hS 0 rfl rfl 1 (by decide) w_f15 (fun _ h9 => h9) rfl hin rfl (by decide +kernel) rfl rfl (Nat.le_of_ble_eq_true rfl) d_Board_init_13 (fun H locs hP hD hS => ?_)
  have hP : va_P D vwCl [(h_t, .inr (0, [.int a2, .ref q11, .null, .null, .int (0 : Int32), .int (0 : Int32)])), (q11, .inl (kL, a1.toNatClampNeg, .inr (.inl (fun _ => 0))))] H := hP
  have hD : va_D A [(h_t, .inr (0, [.int a2, .ref q11, .null, .null, .int (0 : Int32), .int (0 : Int32)])), (q11, .inl (kL, a1.toNatClampNeg, .inr (.inl (fun _ => 0))))] := hD
  refine lv_aload_n hx hb d_Board_init_16 rfl (lv_at hl 0 rfl) ?_
  refine va_get (D := D) (ci := 0) (v := .ref q11) (C := "RuleKernels$Board") (T := T_Board) (N := 6) hx hb hts w_i0 hown hK hP 0 rfl rfl 1 (by decide) w_f15 (fun _ h9 => h9) rfl d_Board_init_17 ?_
  refine lv_lconst (v := 1) hx hb d_Board_init_20 (by decide) ?_
  refine lv_iload_n hx hb d_Board_init_21 rfl (lv_at hl 2 rfl) ?_
  refine lv_lshl (v := (j_lshl (1 : Int64) a2)) hx hb d_Board_init_22 rfl ?_
  refine lv_lconst (v := 1) hx hb d_Board_init_23 (by decide) ?_
  refine lv_lsub hx hb d_Board_init_24 ?_
  obtain ⟨p0_f_25, hc_25, hf⟩ := jb hf
  refine m_call (wc := [(q11, .inl (kL, a1.toNatClampNeg, .inr (.inl (fun _ => 0))))]) (wr := [(h_t, .inr (0, [.int a2, .ref q11, .null, .null, .int (0 : Int32), .int (0 : Int32)]))]) (w1 := fun x : Unit => [(q11, .inl (kL, a1.toNatClampNeg, .inr (.inl p0_f_25)))]) (wn := fun x : Unit => [(h_t, .inr (0, [.int a2, .ref q11, .null, .null, .int (0 : Int32), .int (0 : Int32)])), (q11, .inl (kL, a1.toNatClampNeg, .inr (.inl p0_f_25)))]) (o := fun _ : Unit => none) (va_runS (As := [.ref q11, .long ((j_lshl (1 : Int64) a2) - (1 : Int64))]) (rest := []) ⟨hx, hb, hml, hown, hts⟩ (c_Arr_fill (h_p0 := q11) (n_p0 := a1.toNatClampNeg) (p0_f := (fun _ => 0)) (a1 := ((j_lshl (1 : Int64) a2) - (1 : Int64))) (u := p0_f_25) TY hc_25 _) (va_cwS 2 hts (gS tw_75 tw_76 tw_44 tc_Arr_fill) rfl rfl rfl (by decide +kernel) ⟨Nat.le_of_ble_eq_true rfl, Nat.le_of_ble_eq_true rfl⟩) (m_preS hK hN hP hD [1] rfl (by decide) _) rfl rfl hl.1 rfl (lv_room (Nat.le_of_ble_eq_true rfl)) d_Board_init_25 ⟨Nat.le_of_ble_eq_true rfl, Nat.le_of_ble_eq_true rfl⟩) hP hD hS hA [1] [0] [0, 1] rfl rfl (by decide) (by decide) (by decide) (fun _ => rfl) (fun x H locs hP hD hS => ?_)
  have hP : va_P D vwCl [(h_t, .inr (0, [.int a2, .ref q11, .null, .null, .int (0 : Int32), .int (0 : Int32)])), (q11, .inl (kL, a1.toNatClampNeg, .inr (.inl p0_f_25)))] H := hP
  have hD : va_D A [(h_t, .inr (0, [.int a2, .ref q11, .null, .null, .int (0 : Int32), .int (0 : Int32)])), (q11, .inl (kL, a1.toNatClampNeg, .inr (.inl p0_f_25)))] := hD
  refine W.eq (g2 := F0 m 28 ls []) rfl ?_
  refine lv_aload_n hx hb d_Board_init_28 rfl (lv_at hl 0 rfl) ?_
  refine lv_iload_n hx hb d_Board_init_29 rfl (lv_at hl 1 rfl) ?_
  refine lv_bipush (v := 6) hx hb d_Board_init_30 (by decide) ?_
  refine lv_ishl hx hb d_Board_init_32 ?_
  obtain ⟨h_33, hf⟩ := jnw_some hf
  refine m_newI (N' := (a1 <<< ((6 : Int32) &&& 31)).toNatClampNeg) hx hb (hts _ (List.mem_cons_of_mem _ tw_102)) TY hK hP hD hS hA h_33.1 rfl (Nat.le_trans (Nat.mul_le_mul_right _ h_33.2) (Nat.le_of_ble_eq_true rfl)) (Nat.le_of_ble_eq_true rfl) (Nat.le_trans (Nat.add_le_add_left h_33.2 _) (Nat.le_of_ble_eq_true rfl)) d_Board_init_33 (fun q33 H hP hD hS => ?_)
  have hP : va_P D vwCl [(h_t, .inr (0, [.int a2, .ref q11, .null, .null, .int (0 : Int32), .int (0 : Int32)])), (q11, .inl (kL, a1.toNatClampNeg, .inr (.inl p0_f_25))), (q33, .inl (kI, (a1 <<< ((6 : Int32) &&& 31)).toNatClampNeg, .inl (fun _ => 0)))] H := hP
  have hD : va_D A [(h_t, .inr (0, [.int a2, .ref q11, .null, .null, .int (0 : Int32), .int (0 : Int32)])), (q11, .inl (kL, a1.toNatClampNeg, .inr (.inl p0_f_25))), (q33, .inl (kI, (a1 <<< ((6 : Int32) &&& 31)).toNatClampNeg, .inl (fun _ => 0)))] := hD
  refine W.widen (k := 2) (n := 8320) (Nat.le_of_ble_eq_true rfl) (Nat.le_trans (Nat.add_le_add_left h_33.2 _) (Nat.le_of_ble_eq_true rfl)) ?_
  refine va_putF (D := D) (ci := 0) (v := .ref q33) (ty := (.array .int)) (C := "RuleKernels$Board") (T := T_Board) (N := 6) hx hb hts w_i0 ty_Board ty_Board_ok nm_Board hown hK hP hD hS 0 rfl rfl 2 (by decide) w_f25 (fun _ h9 => h9) rfl hin rfl (by decide +kernel) rfl rfl (Nat.le_of_ble_eq_true rfl) d_Board_init_35 (fun H locs hP hD hS => ?_)
  have hP : va_P D vwCl [(h_t, .inr (0, [.int a2, .ref q11, .ref q33, .null, .int (0 : Int32), .int (0 : Int32)])), (q11, .inl (kL, a1.toNatClampNeg, .inr (.inl p0_f_25))), (q33, .inl (kI, (a1 <<< ((6 : Int32) &&& 31)).toNatClampNeg, .inl (fun _ => 0)))] H := hP
  have hD : va_D A [(h_t, .inr (0, [.int a2, .ref q11, .ref q33, .null, .int (0 : Int32), .int (0 : Int32)])), (q11, .inl (kL, a1.toNatClampNeg, .inr (.inl p0_f_25))), (q33, .inl (kI, (a1 <<< ((6 : Int32) &&& 31)).toNatClampNeg, .inl (fun _ => 0)))] := hD
  refine lv_aload_n hx hb d_Board_init_38 rfl (lv_at hl 0 rfl) ?_
  refine lv_iload_n hx hb d_Board_init_39 rfl (lv_at hl 1 rfl) ?_
  refine lv_iload_n hx hb d_Board_init_40 rfl (lv_at hl 2 rfl) ?_
  refine lv_imul hx hb d_Board_init_41 ?_
  obtain ⟨h_42, hf⟩ := jnw_some hf
  refine m_newI (N' := (a1 * a2).toNatClampNeg) hx hb (hts _ (List.mem_cons_of_mem _ tw_102)) TY hK hP hD hS hA h_42.1 rfl (Nat.le_trans (Nat.mul_le_mul_right _ h_42.2) (Nat.le_of_ble_eq_true rfl)) (Nat.le_of_ble_eq_true rfl) (Nat.le_trans (Nat.add_le_add_left h_42.2 _) (Nat.le_of_ble_eq_true rfl)) d_Board_init_42 (fun q42 H hP hD hS => ?_)
  have hP : va_P D vwCl [(h_t, .inr (0, [.int a2, .ref q11, .ref q33, .null, .int (0 : Int32), .int (0 : Int32)])), (q11, .inl (kL, a1.toNatClampNeg, .inr (.inl p0_f_25))), (q33, .inl (kI, (a1 <<< ((6 : Int32) &&& 31)).toNatClampNeg, .inl (fun _ => 0))), (q42, .inl (kI, (a1 * a2).toNatClampNeg, .inl (fun _ => 0)))] H := hP
  have hD : va_D A [(h_t, .inr (0, [.int a2, .ref q11, .ref q33, .null, .int (0 : Int32), .int (0 : Int32)])), (q11, .inl (kL, a1.toNatClampNeg, .inr (.inl p0_f_25))), (q33, .inl (kI, (a1 <<< ((6 : Int32) &&& 31)).toNatClampNeg, .inl (fun _ => 0))), (q42, .inl (kI, (a1 * a2).toNatClampNeg, .inl (fun _ => 0)))] := hD
  refine W.widen (k := 3) (n := 16000) (Nat.le_of_ble_eq_true rfl) (Nat.le_trans (Nat.add_le_add_left h_42.2 _) (Nat.le_of_ble_eq_true rfl)) ?_
  refine va_putF (D := D) (ci := 0) (v := .ref q42) (ty := (.array .int)) (C := "RuleKernels$Board") (T := T_Board) (N := 6) hx hb hts w_i0 ty_Board ty_Board_ok nm_Board hown hK hP hD hS 0 rfl rfl 3 (by decide) w_f29 (fun _ h9 => h9) rfl hin rfl (by decide +kernel) rfl rfl (Nat.le_of_ble_eq_true rfl) d_Board_init_44 (fun H locs hP hD hS => ?_)
  have hP : va_P D vwCl [(h_t, .inr (0, [.int a2, .ref q11, .ref q33, .ref q42, .int (0 : Int32), .int (0 : Int32)])), (q11, .inl (kL, a1.toNatClampNeg, .inr (.inl p0_f_25))), (q33, .inl (kI, (a1 <<< ((6 : Int32) &&& 31)).toNatClampNeg, .inl (fun _ => 0))), (q42, .inl (kI, (a1 * a2).toNatClampNeg, .inl (fun _ => 0)))] H := hP
  have hD : va_D A [(h_t, .inr (0, [.int a2, .ref q11, .ref q33, .ref q42, .int (0 : Int32), .int (0 : Int32)])), (q11, .inl (kL, a1.toNatClampNeg, .inr (.inl p0_f_25))), (q33, .inl (kI, (a1 <<< ((6 : Int32) &&& 31)).toNatClampNeg, .inl (fun _ => 0))), (q42, .inl (kI, (a1 * a2).toNatClampNeg, .inl (fun _ => 0)))] := hD
  refine lv_aload_n hx hb d_Board_init_47 rfl (lv_at hl 0 rfl) ?_
  refine lv_iconst (v := 0) hx hb d_Board_init_48 (by decide) ?_
  refine va_put (D := D) (ci := 0) (v := .int (0 : Int32)) (ty := .int) (C := "RuleKernels$Board") (T := T_Board) (N := 6) hx hb hts w_i0 ty_Board ty_Board_ok nm_Board hown hK hP hD hS 0 rfl rfl 4 (by decide) w_f32 (fun _ h9 => h9) rfl (by decide +kernel) rfl rfl (Nat.le_of_ble_eq_true rfl) d_Board_init_49 (fun H locs hP hD hS => ?_)
  have hP : va_P D vwCl [(h_t, .inr (0, [.int a2, .ref q11, .ref q33, .ref q42, .int (0 : Int32), .int (0 : Int32)])), (q11, .inl (kL, a1.toNatClampNeg, .inr (.inl p0_f_25))), (q33, .inl (kI, (a1 <<< ((6 : Int32) &&& 31)).toNatClampNeg, .inl (fun _ => 0))), (q42, .inl (kI, (a1 * a2).toNatClampNeg, .inl (fun _ => 0)))] H := hP
  have hD : va_D A [(h_t, .inr (0, [.int a2, .ref q11, .ref q33, .ref q42, .int (0 : Int32), .int (0 : Int32)])), (q11, .inl (kL, a1.toNatClampNeg, .inr (.inl p0_f_25))), (q33, .inl (kI, (a1 <<< ((6 : Int32) &&& 31)).toNatClampNeg, .inl (fun _ => 0))), (q42, .inl (kI, (a1 * a2).toNatClampNeg, .inl (fun _ => 0)))] := hD
  refine lv_aload_n hx hb d_Board_init_52 rfl (lv_at hl 0 rfl) ?_
  refine lv_iconst (v := 0) hx hb d_Board_init_53 (by decide) ?_
  refine va_put (D := D) (ci := 0) (v := .int (0 : Int32)) (ty := .int) (C := "RuleKernels$Board") (T := T_Board) (N := 6) hx hb hts w_i0 ty_Board ty_Board_ok nm_Board hown hK hP hD hS 0 rfl rfl 5 (by decide) w_f35 (fun _ h9 => h9) rfl (by decide +kernel) rfl rfl (Nat.le_of_ble_eq_true rfl) d_Board_init_54 (fun H locs hP hD hS => ?_)
  have hP : va_P D vwCl [(h_t, .inr (0, [.int a2, .ref q11, .ref q33, .ref q42, .int (0 : Int32), .int (0 : Int32)])), (q11, .inl (kL, a1.toNatClampNeg, .inr (.inl p0_f_25))), (q33, .inl (kI, (a1 <<< ((6 : Int32) &&& 31)).toNatClampNeg, .inl (fun _ => 0))), (q42, .inl (kI, (a1 * a2).toNatClampNeg, .inl (fun _ => 0)))] H := hP
  have hD : va_D A [(h_t, .inr (0, [.int a2, .ref q11, .ref q33, .ref q42, .int (0 : Int32), .int (0 : Int32)])), (q11, .inl (kL, a1.toNatClampNeg, .inr (.inl p0_f_25))), (q33, .inl (kI, (a1 <<< ((6 : Int32) &&& 31)).toNatClampNeg, .inl (fun _ => 0))), (q42, .inl (kI, (a1 * a2).toNatClampNeg, .inl (fun _ => 0)))] := hD
  have hu := Option.some.inj hf
  exact m_retv (q11, q33, q42) hx hb hr hlk hK (by rw [← hu]; exact m_subP hP [0, 1, 2, 3] rfl) (by rw [← hu]; exact hD.sub [0, 1, 2, 3] (by decide) rfl) hS hQ hAe rfl (Nat.le_of_ble_eq_true rfl) (Nat.le_of_ble_eq_true rfl) d_Board_init_57
set_option maxHeartbeats 4000000 in
set_option maxRecDepth 100000 in
theorem c_Rule_holds {l : Launch} {D : va_G} {tys : List (ClassId × FieldType)} {kI kL kZ kR kM : ClassId} {N : Nat} {h_t h_t_places h_t_factors h_t_partners : Nat} {t_kind : Int32} {t_right : Int64} {t_size : Int32} {t_pairs : Int32} {t_places : Nat → Int32} {a1 : Int32} {u : Int32} (TY : mTy tys kI kL kZ kR kM) (hf : p_Rule_holds N t_size t_places a1 = some u) (sz : Nat) : Met l y_Rule_holds ws_Rule_holds { frames := 0, cells := 0, slots := 0, locals := 0 } (mPre D tys [.ref h_t, .int a1] [(h_t, .inr (5, [.int t_kind, .long t_right, .ref h_t_places, .ref h_t_factors, .ref h_t_partners, .int t_size, .int t_pairs])), (h_t_places, .inl (kI, 16, .inl t_places))] sz) (mPost D tys (fun _ : Unit => some (.int u)) [(h_t, .inr (5, [.int t_kind, .long t_right, .ref h_t_places, .ref h_t_factors, .ref h_t_partners, .int t_size, .int t_pairs])), (h_t_places, .inl (kI, 16, .inl t_places))] (fun x : Unit => [(h_t, .inr (5, [.int t_kind, .long t_right, .ref h_t_places, .ref h_t_factors, .ref h_t_partners, .int t_size, .int t_pairs])), (h_t_places, .inl (kI, 16, .inl t_places))]) sz) 0 0 (va_A [(h_t, .inr (5, [.int t_kind, .long t_right, .ref h_t_places, .ref h_t_factors, .ref h_t_partners, .int t_size, .int t_pairs])), (h_t_places, .inl (kI, 16, .inl t_places))] sz) := by
  refine m_ofW (cc := b_Rule_holds) (maxL := 3) (ret := (some .boolean)) (by decide) rfl (Nat.le_of_ble_eq_true rfl) ?_ sz
  intro p e s m args below meth c ls Q A hx hb hml hr hts hown hin hlk hK hN hP hD hA hS hl hQ hAe
  have hown : s.vm.findClass "RuleKernels$Rule" = some m.cls := hown
  have hl : lv_has ls 3 [(0, .ref h_t), (1, .int a1)] := hl
  have w_f19 := (hts _ (List.mem_cons_of_mem _ tw_234))
  have w_f30 := (hts _ (List.mem_cons_of_mem _ tw_240))
  have w_i5 := (fun q h => List.mem_cons_of_mem _ (i_Rule q h) : ∀ q ∈ u_ws "RuleKernels$Rule" T_Rule 7, q ∈ ws_Rule_holds)
  have L2 : ∀ n : Nat, ∀ (x2 : Int32), q_Rule_holds_2 N t_size t_places a1 n x2 = some u → ∀ (H : Heap) (locs : List Loc), va_P D vwCl [(h_t, .inr (5, [.int t_kind, .long t_right, .ref h_t_places, .ref h_t_factors, .ref h_t_partners, .int t_size, .int t_pairs])), (h_t_places, .inl (kI, 16, .inl t_places))] H → va_D A [(h_t, .inr (5, [.int t_kind, .long t_right, .ref h_t_places, .ref h_t_factors, .ref h_t_partners, .int t_size, .int t_pairs])), (h_t_places, .inl (kI, 16, .inl t_places))] → va_S A s.heap H locs → ∀ ls : Array Slot, lv_has ls 3 [(0, .ref h_t), (1, .int a1), (2, .int x2)] → W p l e { frames := 0, cells := 0, slots := 0, locals := 0 } s m args below meth c H locs 0 0 Q (F0 m 2 ls []) := by
    intro n
    induction n with
    | zero =>
      intro x2 hf
      exact nomatch (show (none : Option (Int32)) = some _ from hf)
    | succ n ih =>
      intro x2 hf H locs hP hD hS ls hl
      rw [q_Rule_holds_2] at hf
      refine lv_iload_n hx hb d_Rule_holds_2 rfl (lv_at hl 2 rfl) ?_
      refine lv_aload_n hx hb d_Rule_holds_3 rfl (lv_at hl 0 rfl) ?_
      refine va_get (D := D) (ci := 5) (v := .int t_size) (C := "RuleKernels$Rule") (T := T_Rule) (N := 7) hx hb hts w_i5 hown hK hP 0 rfl rfl 5 (by decide) w_f30 (fun _ h9 => h9) rfl d_Rule_holds_4 ?_
      refine lv_icmp_ge (tgt := 28) hx hb d_Rule_holds_7 (by decide) (fun c_7 => ?_) (fun c_7 => ?_)
      · replace hf := (if_pos c_7).symm.trans hf
        refine lv_iconst (v := 0) hx hb d_Rule_holds_28 (by decide) ?_
        have hu := Option.some.inj hf
        exact m_retz () hx hb hr hlk hK hP hD hS hQ hAe rfl (by rw [← hu]) (Nat.le_of_ble_eq_true rfl) (Nat.le_of_ble_eq_true rfl) d_Rule_holds_29
      · replace hf := (if_neg c_7).symm.trans hf
        refine lv_aload_n hx hb d_Rule_holds_10 rfl (lv_at hl 0 rfl) ?_
        refine va_get (D := D) (ci := 5) (v := .ref h_t_places) (C := "RuleKernels$Rule") (T := T_Rule) (N := 7) hx hb hts w_i5 hown hK hP 0 rfl rfl 2 (by decide) w_f19 (fun _ h9 => h9) rfl d_Rule_holds_11 ?_
        refine lv_iload_n hx hb d_Rule_holds_14 rfl (lv_at hl 2 rfl) ?_
        obtain ⟨h_15, hf⟩ := jin_some hf
        refine va_iald hx hb hK hP 1 0 rfl TY.1 h_15 d_Rule_holds_15 ?_
        refine lv_iload_n hx hb d_Rule_holds_16 rfl (lv_at hl 1 rfl) ?_
        refine lv_icmp_ne (tgt := 22) hx hb d_Rule_holds_17 (by decide) (fun c_17 => ?_) (fun c_17 => ?_)
        · replace hf := (if_neg c_17).symm.trans hf
          refine lv_iinc (v := (x2 + 1)) (lv' := [(2, .int (x2 + 1)), (0, .ref h_t), (1, .int a1)]) hx hb d_Rule_holds_22 hl (k := 2) rfl rfl (by decide) rfl (fun ls hl => ?_)
          refine lv_goto (tgt := 2) hx hb d_Rule_holds_25 (by decide) ?_
          exact ih (x2 + 1) hf _ _ hP hD hS ls (lv_sub hl [1, 2, 0] rfl)
        · replace hf := (if_pos c_17).symm.trans hf
          refine lv_iconst (v := 1) hx hb d_Rule_holds_20 (by decide) ?_
          have hu := Option.some.inj hf
          exact m_retz () hx hb hr hlk hK hP hD hS hQ hAe rfl (by rw [← hu]) (Nat.le_of_ble_eq_true rfl) (Nat.le_of_ble_eq_true rfl) d_Rule_holds_21
  unfold p_Rule_holds at hf
  refine lv_iconst (v := 0) hx hb d_Rule_holds_0 (by decide) ?_
  refine lv_istore_n (lv' := [(2, .int (0 : Int32)), (0, .ref h_t), (1, .int a1)]) hx hb d_Rule_holds_1 rfl hl (by decide) rfl (fun ls hl => ?_)
  exact L2  N (0 : Int32) hf _ _ hP hD hS ls (lv_sub hl [1, 2, 0] rfl)
set_option maxHeartbeats 4000000 in
set_option maxRecDepth 100000 in
theorem c_Rule_addPlace {l : Launch} {D : va_G} {tys : List (ClassId × FieldType)} {kI kL kZ kR kM : ClassId} {N : Nat} {h_t h_t_places h_t_factors h_t_partners : Nat} {t_kind : Int32} {t_right : Int64} {t_size : Int32} {t_pairs : Int32} {t_places : Nat → Int32} {t_factors : Nat → Int32} {a1 : Int32} {a2 : Int32} {u : Int32 × Int32 × (Nat → Int32) × (Nat → Int32)} (TY : mTy tys kI kL kZ kR kM) (hf : p_Rule_addPlace N t_size t_places t_factors a1 a2 = some u) (sz : Nat) : Met l y_Rule_addPlace ws_Rule_addPlace { frames := 1, cells := 0, slots := 0, locals := 22 } (mPre D tys [.ref h_t, .int a1, .int a2] [(h_t, .inr (5, [.int t_kind, .long t_right, .ref h_t_places, .ref h_t_factors, .ref h_t_partners, .int t_size, .int t_pairs])), (h_t_places, .inl (kI, 16, .inl t_places)), (h_t_factors, .inl (kI, 16, .inl t_factors))] sz) (mPost D tys (fun _ : Unit => some (.int u.1)) [(h_t, .inr (5, [.int t_kind, .long t_right, .ref h_t_places, .ref h_t_factors, .ref h_t_partners, .int t_size, .int t_pairs])), (h_t_places, .inl (kI, 16, .inl t_places)), (h_t_factors, .inl (kI, 16, .inl t_factors))] (fun x : Unit => [(h_t, .inr (5, [.int t_kind, .long t_right, .ref h_t_places, .ref h_t_factors, .ref h_t_partners, .int u.2.1, .int t_pairs])), (h_t_places, .inl (kI, 16, .inl u.2.2.1)), (h_t_factors, .inl (kI, 16, .inl u.2.2.2))]) sz) 0 0 (va_A [(h_t, .inr (5, [.int t_kind, .long t_right, .ref h_t_places, .ref h_t_factors, .ref h_t_partners, .int t_size, .int t_pairs])), (h_t_places, .inl (kI, 16, .inl t_places)), (h_t_factors, .inl (kI, 16, .inl t_factors))] sz) := by
  refine m_ofW (cc := b_Rule_addPlace) (maxL := 3) (ret := (some .boolean)) (by decide) rfl (Nat.le_of_ble_eq_true rfl) ?_ sz
  intro p e s m args below meth c ls Q A hx hb hml hr hts hown hin hlk hK hN hP hD hA hS hl hQ hAe
  have hown : s.vm.findClass "RuleKernels$Rule" = some m.cls := hown
  have hl : lv_has ls 3 [(0, .ref h_t), (1, .int a1), (2, .int a2)] := hl
  have w_f19 := (hts _ (List.mem_cons_of_mem _ tw_234))
  have w_f23 := (hts _ (List.mem_cons_of_mem _ tw_236))
  have w_f30 := (hts _ (List.mem_cons_of_mem _ tw_240))
  have w_i5 := (fun q h => List.mem_cons_of_mem _ (i_Rule q h) : ∀ q ∈ u_ws "RuleKernels$Rule" T_Rule 7, q ∈ ws_Rule_addPlace)
  unfold p_Rule_addPlace at hf
  refine lv_aload_n hx hb d_Rule_addPlace_0 rfl (lv_at hl 0 rfl) ?_
  refine va_get (D := D) (ci := 5) (v := .int t_size) (C := "RuleKernels$Rule") (T := T_Rule) (N := 7) hx hb hts w_i5 hown hK hP 0 rfl rfl 5 (by decide) w_f30 (fun _ h9 => h9) rfl d_Rule_addPlace_1 ?_
  refine lv_bipush (v := 16) hx hb d_Rule_addPlace_4 (by decide) ?_
  refine lv_icmp_ge (tgt := 17) hx hb d_Rule_addPlace_6 (by decide) (fun c_6 => ?_) (fun c_6 => ?_)
  · replace hf := (if_pos c_6).symm.trans hf
    refine lv_iconst (v := 0) hx hb d_Rule_addPlace_17 (by decide) ?_
    have hu := Option.some.inj hf
    exact m_retz () hx hb hr hlk hK (by rw [← hu]; exact hP) (by rw [← hu]; exact hD) hS hQ hAe rfl (by rw [← hu]) (Nat.le_of_ble_eq_true rfl) (Nat.le_of_ble_eq_true rfl) d_Rule_addPlace_18
  · replace hf := (if_neg c_6).symm.trans hf
    refine lv_aload_n hx hb d_Rule_addPlace_9 rfl (lv_at hl 0 rfl) ?_
    refine lv_iload_n hx hb d_Rule_addPlace_10 rfl (lv_at hl 1 rfl) ?_
    obtain ⟨r_11, hc_11, hf⟩ := jb hf
    refine m_call (wc := [(h_t, .inr (5, [.int t_kind, .long t_right, .ref h_t_places, .ref h_t_factors, .ref h_t_partners, .int t_size, .int t_pairs])), (h_t_places, .inl (kI, 16, .inl t_places))]) (wr := [(h_t_factors, .inl (kI, 16, .inl t_factors))]) (w1 := fun x : Unit => [(h_t, .inr (5, [.int t_kind, .long t_right, .ref h_t_places, .ref h_t_factors, .ref h_t_partners, .int t_size, .int t_pairs])), (h_t_places, .inl (kI, 16, .inl t_places))]) (wn := fun x : Unit => [(h_t, .inr (5, [.int t_kind, .long t_right, .ref h_t_places, .ref h_t_factors, .ref h_t_partners, .int t_size, .int t_pairs])), (h_t_places, .inl (kI, 16, .inl t_places)), (h_t_factors, .inl (kI, 16, .inl t_factors))]) (o := fun _ : Unit => some (.int r_11)) (va_runV (As := [.int a1]) (rest := []) ⟨hx, hb, hml, hown, hts⟩ (c_Rule_holds (h_t := h_t) (h_t_places := h_t_places) (h_t_factors := h_t_factors) (h_t_partners := h_t_partners) (t_kind := t_kind) (t_right := t_right) (t_size := t_size) (t_pairs := t_pairs) (t_places := t_places) (a1 := a1) (u := r_11) TY hc_11 _) (cwV 1 hts (gV tw_277 tw_279 tw_1 tw_50 tc_Rule_holds) rfl rfl rfl (by decide +kernel) ⟨Nat.le_of_ble_eq_true rfl, Nat.le_of_ble_eq_true rfl⟩) (m_preV hK hN hP hD [0, 1] rfl (by decide) (ci := 5) (q0 := 0) rfl rfl _) rfl rfl hl.1 rfl (lv_room (Nat.le_of_ble_eq_true rfl)) d_Rule_addPlace_11 ⟨Nat.le_of_ble_eq_true rfl, Nat.le_of_ble_eq_true rfl⟩) hP hD hS hA [0, 1] [2] [1, 2, 0] rfl rfl (by decide) (by decide) (by decide) (fun _ => rfl) (fun x H locs hP hD hS => ?_)
    have hP : va_P D vwCl [(h_t, .inr (5, [.int t_kind, .long t_right, .ref h_t_places, .ref h_t_factors, .ref h_t_partners, .int t_size, .int t_pairs])), (h_t_places, .inl (kI, 16, .inl t_places)), (h_t_factors, .inl (kI, 16, .inl t_factors))] H := hP
    have hD : va_D A [(h_t, .inr (5, [.int t_kind, .long t_right, .ref h_t_places, .ref h_t_factors, .ref h_t_partners, .int t_size, .int t_pairs])), (h_t_places, .inl (kI, 16, .inl t_places)), (h_t_factors, .inl (kI, 16, .inl t_factors))] := hD
    refine W.eq (g2 := F0 m 14 ls [.int r_11]) rfl ?_
    refine lv_if_eq (tgt := 19) hx hb d_Rule_addPlace_14 (by decide) (fun c_14 => ?_) (fun c_14 => ?_)
    · replace hf := (if_pos c_14).symm.trans hf
      refine lv_aload_n hx hb d_Rule_addPlace_19 rfl (lv_at hl 0 rfl) ?_
      refine va_get (D := D) (ci := 5) (v := .ref h_t_places) (C := "RuleKernels$Rule") (T := T_Rule) (N := 7) hx hb hts w_i5 hown hK hP 0 rfl rfl 2 (by decide) w_f19 (fun _ h9 => h9) rfl d_Rule_addPlace_20 ?_
      refine lv_aload_n hx hb d_Rule_addPlace_23 rfl (lv_at hl 0 rfl) ?_
      refine va_get (D := D) (ci := 5) (v := .int t_size) (C := "RuleKernels$Rule") (T := T_Rule) (N := 7) hx hb hts w_i5 hown hK hP 0 rfl rfl 5 (by decide) w_f30 (fun _ h9 => h9) rfl d_Rule_addPlace_24 ?_
      refine lv_iload_n hx hb d_Rule_addPlace_27 rfl (lv_at hl 1 rfl) ?_
      obtain ⟨h_28, hf⟩ := jin_some hf
      refine va_iast hx hb hK hP hD hS 1 0 rfl TY.1 h_28 d_Rule_addPlace_28 (fun H locs hP hD hS => ?_)
      have hP : va_P D vwCl [(h_t, .inr (5, [.int t_kind, .long t_right, .ref h_t_places, .ref h_t_factors, .ref h_t_partners, .int t_size, .int t_pairs])), (h_t_places, .inl (kI, 16, .inl (upd t_places t_size.toNatClampNeg a1))), (h_t_factors, .inl (kI, 16, .inl t_factors))] H := hP
      have hD : va_D A [(h_t, .inr (5, [.int t_kind, .long t_right, .ref h_t_places, .ref h_t_factors, .ref h_t_partners, .int t_size, .int t_pairs])), (h_t_places, .inl (kI, 16, .inl (upd t_places t_size.toNatClampNeg a1))), (h_t_factors, .inl (kI, 16, .inl t_factors))] := hD
      refine lv_aload_n hx hb d_Rule_addPlace_29 rfl (lv_at hl 0 rfl) ?_
      refine va_get (D := D) (ci := 5) (v := .ref h_t_factors) (C := "RuleKernels$Rule") (T := T_Rule) (N := 7) hx hb hts w_i5 hown hK hP 0 rfl rfl 3 (by decide) w_f23 (fun _ h9 => h9) rfl d_Rule_addPlace_30 ?_
      refine lv_aload_n hx hb d_Rule_addPlace_33 rfl (lv_at hl 0 rfl) ?_
      refine va_get (D := D) (ci := 5) (v := .int t_size) (C := "RuleKernels$Rule") (T := T_Rule) (N := 7) hx hb hts w_i5 hown hK hP 0 rfl rfl 5 (by decide) w_f30 (fun _ h9 => h9) rfl d_Rule_addPlace_34 ?_
      refine lv_iload_n hx hb d_Rule_addPlace_37 rfl (lv_at hl 2 rfl) ?_
      obtain ⟨h_38, hf⟩ := jin_some hf
      refine va_iast hx hb hK hP hD hS 2 0 rfl TY.1 h_38 d_Rule_addPlace_38 (fun H locs hP hD hS => ?_)
      have hP : va_P D vwCl [(h_t, .inr (5, [.int t_kind, .long t_right, .ref h_t_places, .ref h_t_factors, .ref h_t_partners, .int t_size, .int t_pairs])), (h_t_places, .inl (kI, 16, .inl (upd t_places t_size.toNatClampNeg a1))), (h_t_factors, .inl (kI, 16, .inl (upd t_factors t_size.toNatClampNeg a2)))] H := hP
      have hD : va_D A [(h_t, .inr (5, [.int t_kind, .long t_right, .ref h_t_places, .ref h_t_factors, .ref h_t_partners, .int t_size, .int t_pairs])), (h_t_places, .inl (kI, 16, .inl (upd t_places t_size.toNatClampNeg a1))), (h_t_factors, .inl (kI, 16, .inl (upd t_factors t_size.toNatClampNeg a2)))] := hD
      refine lv_aload_n hx hb d_Rule_addPlace_39 rfl (lv_at hl 0 rfl) ?_
      refine lv_dup hx hb d_Rule_addPlace_40 rfl ?_
      refine va_get (D := D) (ci := 5) (v := .int t_size) (C := "RuleKernels$Rule") (T := T_Rule) (N := 7) hx hb hts w_i5 hown hK hP 0 rfl rfl 5 (by decide) w_f30 (fun _ h9 => h9) rfl d_Rule_addPlace_41 ?_
      refine lv_iconst (v := 1) hx hb d_Rule_addPlace_44 (by decide) ?_
      refine lv_iadd hx hb d_Rule_addPlace_45 ?_
      refine va_put (D := D) (ci := 5) (v := .int (t_size + (1 : Int32))) (ty := .int) (C := "RuleKernels$Rule") (T := T_Rule) (N := 7) hx hb hts w_i5 ty_Rule ty_Rule_ok nm_Rule hown hK hP hD hS 0 rfl rfl 5 (by decide) w_f30 (fun _ h9 => h9) rfl (by decide +kernel) rfl rfl (Nat.le_of_ble_eq_true rfl) d_Rule_addPlace_46 (fun H locs hP hD hS => ?_)
      have hP : va_P D vwCl [(h_t, .inr (5, [.int t_kind, .long t_right, .ref h_t_places, .ref h_t_factors, .ref h_t_partners, .int (t_size + (1 : Int32)), .int t_pairs])), (h_t_places, .inl (kI, 16, .inl (upd t_places t_size.toNatClampNeg a1))), (h_t_factors, .inl (kI, 16, .inl (upd t_factors t_size.toNatClampNeg a2)))] H := hP
      have hD : va_D A [(h_t, .inr (5, [.int t_kind, .long t_right, .ref h_t_places, .ref h_t_factors, .ref h_t_partners, .int (t_size + (1 : Int32)), .int t_pairs])), (h_t_places, .inl (kI, 16, .inl (upd t_places t_size.toNatClampNeg a1))), (h_t_factors, .inl (kI, 16, .inl (upd t_factors t_size.toNatClampNeg a2)))] := hD
      refine lv_iconst (v := 1) hx hb d_Rule_addPlace_49 (by decide) ?_
      have hu := Option.some.inj hf
      exact m_retz () hx hb hr hlk hK (by rw [← hu]; exact hP) (by rw [← hu]; exact hD) hS hQ hAe rfl (by rw [← hu]) (Nat.le_of_ble_eq_true rfl) (Nat.le_of_ble_eq_true rfl) d_Rule_addPlace_50
    · replace hf := (if_neg c_14).symm.trans hf
      refine lv_iconst (v := 0) hx hb d_Rule_addPlace_17 (by decide) ?_
      have hu := Option.some.inj hf
      exact m_retz () hx hb hr hlk hK (by rw [← hu]; exact hP) (by rw [← hu]; exact hD) hS hQ hAe rfl (by rw [← hu]) (Nat.le_of_ble_eq_true rfl) (Nat.le_of_ble_eq_true rfl) d_Rule_addPlace_18
set_option maxHeartbeats 4000000 in
set_option maxRecDepth 100000 in
theorem c_Rule_addPair {l : Launch} {D : va_G} {tys : List (ClassId × FieldType)} {kI kL kZ kR kM : ClassId} {N : Nat} {h_t h_t_partners h_t_places h_t_factors : Nat} {n_t_partners : Nat} {t_kind : Int32} {t_right : Int64} {t_size : Int32} {t_pairs : Int32} {t_partners : Nat → Int64} {a1 : Int32} {a2 : Int32} {u : Int32 × Int32 × (Nat → Int64)} (TY : mTy tys kI kL kZ kR kM) (hf : p_Rule_addPair N n_t_partners t_pairs t_partners a1 a2 = some u) (sz : Nat) : Met l y_Rule_addPair ws_Rule_addPair { frames := 1, cells := 0, slots := 0, locals := 22 } (mPre D tys [.ref h_t, .int a1, .int a2] [(h_t, .inr (5, [.int t_kind, .long t_right, .ref h_t_places, .ref h_t_factors, .ref h_t_partners, .int t_size, .int t_pairs])), (h_t_partners, .inl (kL, n_t_partners, .inr (.inl t_partners)))] sz) (mPost D tys (fun _ : Unit => some (.int u.1)) [(h_t, .inr (5, [.int t_kind, .long t_right, .ref h_t_places, .ref h_t_factors, .ref h_t_partners, .int t_size, .int t_pairs])), (h_t_partners, .inl (kL, n_t_partners, .inr (.inl t_partners)))] (fun x : Unit => [(h_t, .inr (5, [.int t_kind, .long t_right, .ref h_t_places, .ref h_t_factors, .ref h_t_partners, .int t_size, .int u.2.1])), (h_t_partners, .inl (kL, n_t_partners, .inr (.inl u.2.2)))]) sz) 0 0 (va_A [(h_t, .inr (5, [.int t_kind, .long t_right, .ref h_t_places, .ref h_t_factors, .ref h_t_partners, .int t_size, .int t_pairs])), (h_t_partners, .inl (kL, n_t_partners, .inr (.inl t_partners)))] sz) := by
  refine m_ofW (cc := b_Rule_addPair) (maxL := 3) (ret := (some .boolean)) (by decide) rfl (Nat.le_of_ble_eq_true rfl) ?_ sz
  intro p e s m args below meth c ls Q A hx hb hml hr hts hown hin hlk hK hN hP hD hA hS hl hQ hAe
  have hown : s.vm.findClass "RuleKernels$Rule" = some m.cls := hown
  have hl : lv_has ls 3 [(0, .ref h_t), (1, .int a1), (2, .int a2)] := hl
  have w_f26 := (hts _ (List.mem_cons_of_mem _ tw_238))
  have w_f33 := (hts _ (List.mem_cons_of_mem _ tw_243))
  have w_i5 := (fun q h => List.mem_cons_of_mem _ (i_Rule q h) : ∀ q ∈ u_ws "RuleKernels$Rule" T_Rule 7, q ∈ ws_Rule_addPair)
  unfold p_Rule_addPair at hf
  refine lv_iload_n hx hb d_Rule_addPair_0 rfl (lv_at hl 1 rfl) ?_
  refine lv_if_lt (tgt := 23) hx hb d_Rule_addPair_1 (by decide) (fun c_1 => ?_) (fun c_1 => ?_)
  · replace hf := (if_pos c_1).symm.trans hf
    refine lv_iconst (v := 0) hx hb d_Rule_addPair_23 (by decide) ?_
    have hu := Option.some.inj hf
    exact m_retz () hx hb hr hlk hK (by rw [← hu]; exact hP) (by rw [← hu]; exact hD) hS hQ hAe rfl (by rw [← hu]) (Nat.le_of_ble_eq_true rfl) (Nat.le_of_ble_eq_true rfl) d_Rule_addPair_24
  · replace hf := (if_neg c_1).symm.trans hf
    refine lv_iload_n hx hb d_Rule_addPair_4 rfl (lv_at hl 1 rfl) ?_
    refine lv_aload_n hx hb d_Rule_addPair_5 rfl (lv_at hl 0 rfl) ?_
    refine va_get (D := D) (ci := 5) (v := .ref h_t_partners) (C := "RuleKernels$Rule") (T := T_Rule) (N := 7) hx hb hts w_i5 hown hK hP 0 rfl rfl 4 (by decide) w_f26 (fun _ h9 => h9) rfl d_Rule_addPair_6 ?_
    refine va_alen (v := nI n_t_partners) hx hb hK hP 1 1 rfl TY.2.1 rfl d_Rule_addPair_9 ?_
    refine lv_icmp_ge (tgt := 23) hx hb d_Rule_addPair_10 (by decide) (fun c_10 => ?_) (fun c_10 => ?_)
    · replace hf := (if_pos c_10).symm.trans hf
      refine lv_iconst (v := 0) hx hb d_Rule_addPair_23 (by decide) ?_
      have hu := Option.some.inj hf
      exact m_retz () hx hb hr hlk hK (by rw [← hu]; exact hP) (by rw [← hu]; exact hD) hS hQ hAe rfl (by rw [← hu]) (Nat.le_of_ble_eq_true rfl) (Nat.le_of_ble_eq_true rfl) d_Rule_addPair_24
    · replace hf := (if_neg c_10).symm.trans hf
      refine lv_aload_n hx hb d_Rule_addPair_13 rfl (lv_at hl 0 rfl) ?_
      refine va_get (D := D) (ci := 5) (v := .int t_pairs) (C := "RuleKernels$Rule") (T := T_Rule) (N := 7) hx hb hts w_i5 hown hK hP 0 rfl rfl 6 (by decide) w_f33 (fun _ h9 => h9) rfl d_Rule_addPair_14 ?_
      refine lv_sipush (v := 400) hx hb d_Rule_addPair_17 (by decide) ?_
      refine lv_icmp_lt (tgt := 25) hx hb d_Rule_addPair_20 (by decide) (fun c_20 => ?_) (fun c_20 => ?_)
      · replace hf := (if_pos c_20).symm.trans hf
        refine lv_aload_n hx hb d_Rule_addPair_25 rfl (lv_at hl 0 rfl) ?_
        refine va_get (D := D) (ci := 5) (v := .ref h_t_partners) (C := "RuleKernels$Rule") (T := T_Rule) (N := 7) hx hb hts w_i5 hown hK hP 0 rfl rfl 4 (by decide) w_f26 (fun _ h9 => h9) rfl d_Rule_addPair_26 ?_
        refine lv_iload_n hx hb d_Rule_addPair_29 rfl (lv_at hl 1 rfl) ?_
        obtain ⟨h_30, hf⟩ := jin_some hf
        refine va_lald hx hb hK hP 1 1 rfl TY.2.1 h_30 d_Rule_addPair_30 ?_
        refine lv_iload_n hx hb d_Rule_addPair_31 rfl (lv_at hl 2 rfl) ?_
        obtain ⟨r_32, hc_32, hf⟩ := jb hf
        refine m_call (wc := []) (wr := [(h_t, .inr (5, [.int t_kind, .long t_right, .ref h_t_places, .ref h_t_factors, .ref h_t_partners, .int t_size, .int t_pairs])), (h_t_partners, .inl (kL, n_t_partners, .inr (.inl t_partners)))]) (w1 := fun x : Unit => []) (wn := fun x : Unit => [(h_t, .inr (5, [.int t_kind, .long t_right, .ref h_t_places, .ref h_t_factors, .ref h_t_partners, .int t_size, .int t_pairs])), (h_t_partners, .inl (kL, n_t_partners, .inr (.inl t_partners)))]) (o := fun _ : Unit => some (.int r_32)) (va_runSN (As := [.long (t_partners a1.toNatClampNeg), .int a2]) (rest := []) ⟨hx, hb, hml, hown, hts⟩ (c_RK_has (a0 := (t_partners a1.toNatClampNeg)) (a2 := a2) (u := r_32) TY hc_32 _) ⟨va_cnB 2 hts (gT tc_RK_has) rfl rfl rfl (mN_3 hN) (hts _ (List.mem_cons_of_mem _ tw_41)) (by decide +kernel) ⟨Nat.le_of_ble_eq_true rfl, Nat.le_of_ble_eq_true rfl⟩, (hts _ (List.mem_cons_of_mem _ tw_302)), trivial⟩ (m_preS hK hN hP hD [] rfl (by decide) _) rfl rfl hl.1 rfl (lv_room (Nat.le_of_ble_eq_true rfl)) d_Rule_addPair_32 ⟨Nat.le_of_ble_eq_true rfl, Nat.le_of_ble_eq_true rfl⟩) hP hD hS hA [] [0, 1] [0, 1] rfl rfl (by decide) (by decide) (by decide) (fun _ => rfl) (fun x H locs hP hD hS => ?_)
        have hP : va_P D vwCl [(h_t, .inr (5, [.int t_kind, .long t_right, .ref h_t_places, .ref h_t_factors, .ref h_t_partners, .int t_size, .int t_pairs])), (h_t_partners, .inl (kL, n_t_partners, .inr (.inl t_partners)))] H := hP
        have hD : va_D A [(h_t, .inr (5, [.int t_kind, .long t_right, .ref h_t_places, .ref h_t_factors, .ref h_t_partners, .int t_size, .int t_pairs])), (h_t_partners, .inl (kL, n_t_partners, .inr (.inl t_partners)))] := hD
        refine W.eq (g2 := F0 m 35 ls [.int r_32]) rfl ?_
        refine lv_if_eq (tgt := 40) hx hb d_Rule_addPair_35 (by decide) (fun c_35 => ?_) (fun c_35 => ?_)
        · replace hf := (if_pos c_35).symm.trans hf
          refine lv_aload_n hx hb d_Rule_addPair_40 rfl (lv_at hl 0 rfl) ?_
          refine va_get (D := D) (ci := 5) (v := .ref h_t_partners) (C := "RuleKernels$Rule") (T := T_Rule) (N := 7) hx hb hts w_i5 hown hK hP 0 rfl rfl 4 (by decide) w_f26 (fun _ h9 => h9) rfl d_Rule_addPair_41 ?_
          refine lv_iload_n hx hb d_Rule_addPair_44 rfl (lv_at hl 1 rfl) ?_
          refine lv_dup2_11 hx hb d_Rule_addPair_45 rfl rfl ?_
          obtain ⟨h_46, hf⟩ := jin_some hf
          refine va_lald hx hb hK hP 1 1 rfl TY.2.1 h_46 d_Rule_addPair_46 ?_
          refine lv_lconst (v := 1) hx hb d_Rule_addPair_47 (by decide) ?_
          refine lv_iload_n hx hb d_Rule_addPair_48 rfl (lv_at hl 2 rfl) ?_
          refine lv_lshl (v := (j_lshl (1 : Int64) a2)) hx hb d_Rule_addPair_49 rfl ?_
          refine lv_lor hx hb d_Rule_addPair_50 ?_
          obtain ⟨h_51, hf⟩ := jin_some hf
          refine va_last hx hb hK hP hD hS 1 1 rfl TY.2.1 h_51 d_Rule_addPair_51 (fun H locs hP hD hS => ?_)
          have hP : va_P D vwCl [(h_t, .inr (5, [.int t_kind, .long t_right, .ref h_t_places, .ref h_t_factors, .ref h_t_partners, .int t_size, .int t_pairs])), (h_t_partners, .inl (kL, n_t_partners, .inr (.inl (vp_updL t_partners a1.toNatClampNeg ((t_partners a1.toNatClampNeg) ||| (j_lshl (1 : Int64) a2))))))] H := hP
          have hD : va_D A [(h_t, .inr (5, [.int t_kind, .long t_right, .ref h_t_places, .ref h_t_factors, .ref h_t_partners, .int t_size, .int t_pairs])), (h_t_partners, .inl (kL, n_t_partners, .inr (.inl (vp_updL t_partners a1.toNatClampNeg ((t_partners a1.toNatClampNeg) ||| (j_lshl (1 : Int64) a2))))))] := hD
          refine lv_aload_n hx hb d_Rule_addPair_52 rfl (lv_at hl 0 rfl) ?_
          refine lv_dup hx hb d_Rule_addPair_53 rfl ?_
          refine va_get (D := D) (ci := 5) (v := .int t_pairs) (C := "RuleKernels$Rule") (T := T_Rule) (N := 7) hx hb hts w_i5 hown hK hP 0 rfl rfl 6 (by decide) w_f33 (fun _ h9 => h9) rfl d_Rule_addPair_54 ?_
          refine lv_iconst (v := 1) hx hb d_Rule_addPair_57 (by decide) ?_
          refine lv_iadd hx hb d_Rule_addPair_58 ?_
          refine va_put (D := D) (ci := 5) (v := .int (t_pairs + (1 : Int32))) (ty := .int) (C := "RuleKernels$Rule") (T := T_Rule) (N := 7) hx hb hts w_i5 ty_Rule ty_Rule_ok nm_Rule hown hK hP hD hS 0 rfl rfl 6 (by decide) w_f33 (fun _ h9 => h9) rfl (by decide +kernel) rfl rfl (Nat.le_of_ble_eq_true rfl) d_Rule_addPair_59 (fun H locs hP hD hS => ?_)
          have hP : va_P D vwCl [(h_t, .inr (5, [.int t_kind, .long t_right, .ref h_t_places, .ref h_t_factors, .ref h_t_partners, .int t_size, .int (t_pairs + (1 : Int32))])), (h_t_partners, .inl (kL, n_t_partners, .inr (.inl (vp_updL t_partners a1.toNatClampNeg ((t_partners a1.toNatClampNeg) ||| (j_lshl (1 : Int64) a2))))))] H := hP
          have hD : va_D A [(h_t, .inr (5, [.int t_kind, .long t_right, .ref h_t_places, .ref h_t_factors, .ref h_t_partners, .int t_size, .int (t_pairs + (1 : Int32))])), (h_t_partners, .inl (kL, n_t_partners, .inr (.inl (vp_updL t_partners a1.toNatClampNeg ((t_partners a1.toNatClampNeg) ||| (j_lshl (1 : Int64) a2))))))] := hD
          refine lv_iconst (v := 1) hx hb d_Rule_addPair_62 (by decide) ?_
          have hu := Option.some.inj hf
          exact m_retz () hx hb hr hlk hK (by rw [← hu]; exact hP) (by rw [← hu]; exact hD) hS hQ hAe rfl (by rw [← hu]) (Nat.le_of_ble_eq_true rfl) (Nat.le_of_ble_eq_true rfl) d_Rule_addPair_63
        · replace hf := (if_neg c_35).symm.trans hf
          refine lv_iconst (v := 0) hx hb d_Rule_addPair_38 (by decide) ?_
          have hu := Option.some.inj hf
          exact m_retz () hx hb hr hlk hK (by rw [← hu]; exact hP) (by rw [← hu]; exact hD) hS hQ hAe rfl (by rw [← hu]) (Nat.le_of_ble_eq_true rfl) (Nat.le_of_ble_eq_true rfl) d_Rule_addPair_39
      · replace hf := (if_neg c_20).symm.trans hf
        refine lv_iconst (v := 0) hx hb d_Rule_addPair_23 (by decide) ?_
        have hu := Option.some.inj hf
        exact m_retz () hx hb hr hlk hK (by rw [← hu]; exact hP) (by rw [← hu]; exact hD) hS hQ hAe rfl (by rw [← hu]) (Nat.le_of_ble_eq_true rfl) (Nat.le_of_ble_eq_true rfl) d_Rule_addPair_24
set_option maxHeartbeats 4000000 in
set_option maxRecDepth 100000 in
theorem c_Rule_init {l : Launch} {D : va_G} {tys : List (ClassId × FieldType)} {kI kL kZ kR kM : ClassId} {N : Nat} {h_t : Nat} {a1 : Int32} {a2 : Int64} {a4 : Int32} {u : Nat × Int32 × Int64 × Int32 × Int32 × (Nat → Int32) × (Nat → Int32) × (Nat → Int64)} (TY : mTy tys kI kL kZ kR kM) (hf : p_Rule_init N a1 a2 a4 = some u) (sz : Nat) : Met l y_Rule_init ws_Rule_init { frames := 1, cells := 3, slots := 92, locals := 12 } (mPre D tys [.ref h_t, .int a1, .long a2, .int a4] [(h_t, .inr (5, [.int (0 : Int32), .long (0 : Int64), .null, .null, .null, .int (0 : Int32), .int (0 : Int32)]))] sz) (mPost D tys (fun _ : Nat × Nat × Nat => none) [(h_t, .inr (5, [.int (0 : Int32), .long (0 : Int64), .null, .null, .null, .int (0 : Int32), .int (0 : Int32)]))] (fun x : Nat × Nat × Nat => [(h_t, .inr (5, [.int u.2.1, .long u.2.2.1, .ref x.1, .ref x.2.1, .ref x.2.2, .int u.2.2.2.1, .int u.2.2.2.2.1])), (x.1, .inl (kI, 16, .inl u.2.2.2.2.2.1)), (x.2.1, .inl (kI, 16, .inl u.2.2.2.2.2.2.1)), (x.2.2, .inl (kL, u.1, .inr (.inl u.2.2.2.2.2.2.2)))]) sz) 3 92 (va_A [(h_t, .inr (5, [.int (0 : Int32), .long (0 : Int64), .null, .null, .null, .int (0 : Int32), .int (0 : Int32)]))] sz) := by
  refine m_ofW (cc := b_Rule_init) (maxL := 5) (ret := none) (by decide) rfl (Nat.le_of_ble_eq_true rfl) ?_ sz
  intro p e s m args below meth c ls Q A hx hb hml hr hts hown hin hlk hK hN hP hD hA hS hl hQ hAe
  have hown : s.vm.findClass "RuleKernels$Rule" = some m.cls := hown
  have hl : lv_has ls 5 [(0, .ref h_t), (1, .int a1), (2, .long a2), (4, .int a4)] := hl
  have w_f15 := (hts _ (List.mem_cons_of_mem _ tw_232))
  have w_f19 := (hts _ (List.mem_cons_of_mem _ tw_234))
  have w_f23 := (hts _ (List.mem_cons_of_mem _ tw_236))
  have w_f26 := (hts _ (List.mem_cons_of_mem _ tw_238))
  have w_f30 := (hts _ (List.mem_cons_of_mem _ tw_240))
  have w_f33 := (hts _ (List.mem_cons_of_mem _ tw_243))
  have w_f9 := (hts _ (List.mem_cons_of_mem _ tw_230))
  have w_i5 := (fun q h => List.mem_cons_of_mem _ (i_Rule q h) : ∀ q ∈ u_ws "RuleKernels$Rule" T_Rule 7, q ∈ ws_Rule_init)
  unfold p_Rule_init at hf
  refine lv_aload_n hx hb d_Rule_init_0 rfl (lv_at hl 0 rfl) ?_
  refine W.objInit hx hb hown (hts _ (List.mem_cons_of_mem _ tw_229)) (hts _ (List.mem_cons_of_mem _ tw_61)) (hts _ (List.mem_cons_of_mem _ tc_objinit)) rfl (by rw [hml]; exact hl.1) rfl d_Rule_init_1 (Nat.le_of_ble_eq_true rfl) (Nat.le_of_ble_eq_true rfl) ?_
  refine W.eq (g2 := F0 m 4 ls []) rfl ?_
  refine lv_aload_n hx hb d_Rule_init_4 rfl (lv_at hl 0 rfl) ?_
  refine lv_iload_n hx hb d_Rule_init_5 rfl (lv_at hl 1 rfl) ?_
  refine va_putF (D := D) (ci := 5) (v := .int a1) (ty := .int) (C := "RuleKernels$Rule") (T := T_Rule) (N := 7) hx hb hts w_i5 ty_Rule ty_Rule_ok nm_Rule hown hK hP hD hS 0 rfl rfl 0 (by decide) w_f9 (fun _ h9 => h9) rfl hin rfl (by decide +kernel) rfl rfl (Nat.le_of_ble_eq_true rfl) d_Rule_init_6 (fun H locs hP hD hS => ?_)
  have hP : va_P D vwCl [(h_t, .inr (5, [.int a1, .long (0 : Int64), .null, .null, .null, .int (0 : Int32), .int (0 : Int32)]))] H := hP
  have hD : va_D A [(h_t, .inr (5, [.int a1, .long (0 : Int64), .null, .null, .null, .int (0 : Int32), .int (0 : Int32)]))] := hD
  refine lv_aload_n hx hb d_Rule_init_9 rfl (lv_at hl 0 rfl) ?_
  refine lv_lload_n hx hb d_Rule_init_10 rfl (lv_at hl 2 rfl) ?_
  refine va_putF (D := D) (ci := 5) (v := .long a2) (ty := .long) (C := "RuleKernels$Rule") (T := T_Rule) (N := 7) hx hb hts w_i5 ty_Rule ty_Rule_ok nm_Rule hown hK hP hD hS 0 rfl rfl 1 (by decide) w_f15 (fun _ h9 => h9) rfl hin rfl (by decide +kernel) rfl rfl (Nat.le_of_ble_eq_true rfl) d_Rule_init_11 (fun H locs hP hD hS => ?_)
  have hP : va_P D vwCl [(h_t, .inr (5, [.int a1, .long a2, .null, .null, .null, .int (0 : Int32), .int (0 : Int32)]))] H := hP
  have hD : va_D A [(h_t, .inr (5, [.int a1, .long a2, .null, .null, .null, .int (0 : Int32), .int (0 : Int32)]))] := hD
  refine lv_aload_n hx hb d_Rule_init_14 rfl (lv_at hl 0 rfl) ?_
  refine lv_bipush (v := 16) hx hb d_Rule_init_15 (by decide) ?_
  refine m_newI (N' := 16) hx hb (hts _ (List.mem_cons_of_mem _ tw_102)) TY hK hP hD hS hA (by decide) (by decide) (by decide) (Nat.le_of_ble_eq_true rfl) (Nat.le_of_ble_eq_true rfl) d_Rule_init_17 (fun q17 H hP hD hS => ?_)
  have hP : va_P D vwCl [(h_t, .inr (5, [.int a1, .long a2, .null, .null, .null, .int (0 : Int32), .int (0 : Int32)])), (q17, .inl (kI, 16, .inl (fun _ => 0)))] H := hP
  have hD : va_D A [(h_t, .inr (5, [.int a1, .long a2, .null, .null, .null, .int (0 : Int32), .int (0 : Int32)])), (q17, .inl (kI, 16, .inl (fun _ => 0)))] := hD
  refine W.widen (k := 1) (n := 16) (Nat.le_of_ble_eq_true rfl) (Nat.le_of_ble_eq_true rfl) ?_
  refine va_putF (D := D) (ci := 5) (v := .ref q17) (ty := (.array .int)) (C := "RuleKernels$Rule") (T := T_Rule) (N := 7) hx hb hts w_i5 ty_Rule ty_Rule_ok nm_Rule hown hK hP hD hS 0 rfl rfl 2 (by decide) w_f19 (fun _ h9 => h9) rfl hin rfl (by decide +kernel) rfl rfl (Nat.le_of_ble_eq_true rfl) d_Rule_init_19 (fun H locs hP hD hS => ?_)
  have hP : va_P D vwCl [(h_t, .inr (5, [.int a1, .long a2, .ref q17, .null, .null, .int (0 : Int32), .int (0 : Int32)])), (q17, .inl (kI, 16, .inl (fun _ => 0)))] H := hP
  have hD : va_D A [(h_t, .inr (5, [.int a1, .long a2, .ref q17, .null, .null, .int (0 : Int32), .int (0 : Int32)])), (q17, .inl (kI, 16, .inl (fun _ => 0)))] := hD
  refine lv_aload_n hx hb d_Rule_init_22 rfl (lv_at hl 0 rfl) ?_
  refine lv_bipush (v := 16) hx hb d_Rule_init_23 (by decide) ?_
  refine m_newI (N' := 16) hx hb (hts _ (List.mem_cons_of_mem _ tw_102)) TY hK hP hD hS hA (by decide) (by decide) (by decide) (Nat.le_of_ble_eq_true rfl) (Nat.le_of_ble_eq_true rfl) d_Rule_init_25 (fun q25 H hP hD hS => ?_)
  have hP : va_P D vwCl [(h_t, .inr (5, [.int a1, .long a2, .ref q17, .null, .null, .int (0 : Int32), .int (0 : Int32)])), (q17, .inl (kI, 16, .inl (fun _ => 0))), (q25, .inl (kI, 16, .inl (fun _ => 0)))] H := hP
  have hD : va_D A [(h_t, .inr (5, [.int a1, .long a2, .ref q17, .null, .null, .int (0 : Int32), .int (0 : Int32)])), (q17, .inl (kI, 16, .inl (fun _ => 0))), (q25, .inl (kI, 16, .inl (fun _ => 0)))] := hD
  refine W.widen (k := 2) (n := 32) (Nat.le_of_ble_eq_true rfl) (Nat.le_of_ble_eq_true rfl) ?_
  refine va_putF (D := D) (ci := 5) (v := .ref q25) (ty := (.array .int)) (C := "RuleKernels$Rule") (T := T_Rule) (N := 7) hx hb hts w_i5 ty_Rule ty_Rule_ok nm_Rule hown hK hP hD hS 0 rfl rfl 3 (by decide) w_f23 (fun _ h9 => h9) rfl hin rfl (by decide +kernel) rfl rfl (Nat.le_of_ble_eq_true rfl) d_Rule_init_27 (fun H locs hP hD hS => ?_)
  have hP : va_P D vwCl [(h_t, .inr (5, [.int a1, .long a2, .ref q17, .ref q25, .null, .int (0 : Int32), .int (0 : Int32)])), (q17, .inl (kI, 16, .inl (fun _ => 0))), (q25, .inl (kI, 16, .inl (fun _ => 0)))] H := hP
  have hD : va_D A [(h_t, .inr (5, [.int a1, .long a2, .ref q17, .ref q25, .null, .int (0 : Int32), .int (0 : Int32)])), (q17, .inl (kI, 16, .inl (fun _ => 0))), (q25, .inl (kI, 16, .inl (fun _ => 0)))] := hD
  refine lv_aload_n hx hb d_Rule_init_30 rfl (lv_at hl 0 rfl) ?_
  refine lv_iload_n hx hb d_Rule_init_31 rfl (lv_at hl 1 rfl) ?_
  refine lv_bipush (v := 7) hx hb d_Rule_init_32 (by decide) ?_
  refine lv_icmp_ne (tgt := 42) hx hb d_Rule_init_34 (by decide) (fun c_34 => ?_) (fun c_34 => ?_)
  · replace hf := (if_neg c_34).symm.trans hf
    refine lv_iconst (v := 0) hx hb d_Rule_init_42 (by decide) ?_
    refine m_newJ (N' := 0) hx hb (hts _ (List.mem_cons_of_mem _ tw_101)) TY hK hP hD hS hA (by decide) (by decide) (by decide) (Nat.le_of_ble_eq_true rfl) (Nat.le_of_ble_eq_true rfl) d_Rule_init_43 (fun q43 H hP hD hS => ?_)
    have hP : va_P D vwCl [(h_t, .inr (5, [.int a1, .long a2, .ref q17, .ref q25, .null, .int (0 : Int32), .int (0 : Int32)])), (q17, .inl (kI, 16, .inl (fun _ => 0))), (q25, .inl (kI, 16, .inl (fun _ => 0))), (q43, .inl (kL, 0, .inr (.inl (fun _ => 0))))] H := hP
    have hD : va_D A [(h_t, .inr (5, [.int a1, .long a2, .ref q17, .ref q25, .null, .int (0 : Int32), .int (0 : Int32)])), (q17, .inl (kI, 16, .inl (fun _ => 0))), (q25, .inl (kI, 16, .inl (fun _ => 0))), (q43, .inl (kL, 0, .inr (.inl (fun _ => 0))))] := hD
    refine W.widen (k := 3) (n := 32) (Nat.le_of_ble_eq_true rfl) (Nat.le_of_ble_eq_true rfl) ?_
    refine va_putF (D := D) (ci := 5) (v := .ref q43) (ty := (.array .long)) (C := "RuleKernels$Rule") (T := T_Rule) (N := 7) hx hb hts w_i5 ty_Rule ty_Rule_ok nm_Rule hown hK hP hD hS 0 rfl rfl 4 (by decide) w_f26 (fun _ h9 => h9) rfl hin rfl (by decide +kernel) rfl rfl (Nat.le_of_ble_eq_true rfl) d_Rule_init_45 (fun H locs hP hD hS => ?_)
    have hP : va_P D vwCl [(h_t, .inr (5, [.int a1, .long a2, .ref q17, .ref q25, .ref q43, .int (0 : Int32), .int (0 : Int32)])), (q17, .inl (kI, 16, .inl (fun _ => 0))), (q25, .inl (kI, 16, .inl (fun _ => 0))), (q43, .inl (kL, 0, .inr (.inl (fun _ => 0))))] H := hP
    have hD : va_D A [(h_t, .inr (5, [.int a1, .long a2, .ref q17, .ref q25, .ref q43, .int (0 : Int32), .int (0 : Int32)])), (q17, .inl (kI, 16, .inl (fun _ => 0))), (q25, .inl (kI, 16, .inl (fun _ => 0))), (q43, .inl (kL, 0, .inr (.inl (fun _ => 0))))] := hD
    refine lv_aload_n hx hb d_Rule_init_48 rfl (lv_at hl 0 rfl) ?_
    refine lv_iconst (v := 0) hx hb d_Rule_init_49 (by decide) ?_
    refine va_put (D := D) (ci := 5) (v := .int (0 : Int32)) (ty := .int) (C := "RuleKernels$Rule") (T := T_Rule) (N := 7) hx hb hts w_i5 ty_Rule ty_Rule_ok nm_Rule hown hK hP hD hS 0 rfl rfl 5 (by decide) w_f30 (fun _ h9 => h9) rfl (by decide +kernel) rfl rfl (Nat.le_of_ble_eq_true rfl) d_Rule_init_50 (fun H locs hP hD hS => ?_)
    have hP : va_P D vwCl [(h_t, .inr (5, [.int a1, .long a2, .ref q17, .ref q25, .ref q43, .int (0 : Int32), .int (0 : Int32)])), (q17, .inl (kI, 16, .inl (fun _ => 0))), (q25, .inl (kI, 16, .inl (fun _ => 0))), (q43, .inl (kL, 0, .inr (.inl (fun _ => 0))))] H := hP
    have hD : va_D A [(h_t, .inr (5, [.int a1, .long a2, .ref q17, .ref q25, .ref q43, .int (0 : Int32), .int (0 : Int32)])), (q17, .inl (kI, 16, .inl (fun _ => 0))), (q25, .inl (kI, 16, .inl (fun _ => 0))), (q43, .inl (kL, 0, .inr (.inl (fun _ => 0))))] := hD
    refine lv_aload_n hx hb d_Rule_init_53 rfl (lv_at hl 0 rfl) ?_
    refine lv_iconst (v := 0) hx hb d_Rule_init_54 (by decide) ?_
    refine va_put (D := D) (ci := 5) (v := .int (0 : Int32)) (ty := .int) (C := "RuleKernels$Rule") (T := T_Rule) (N := 7) hx hb hts w_i5 ty_Rule ty_Rule_ok nm_Rule hown hK hP hD hS 0 rfl rfl 6 (by decide) w_f33 (fun _ h9 => h9) rfl (by decide +kernel) rfl rfl (Nat.le_of_ble_eq_true rfl) d_Rule_init_55 (fun H locs hP hD hS => ?_)
    have hP : va_P D vwCl [(h_t, .inr (5, [.int a1, .long a2, .ref q17, .ref q25, .ref q43, .int (0 : Int32), .int (0 : Int32)])), (q17, .inl (kI, 16, .inl (fun _ => 0))), (q25, .inl (kI, 16, .inl (fun _ => 0))), (q43, .inl (kL, 0, .inr (.inl (fun _ => 0))))] H := hP
    have hD : va_D A [(h_t, .inr (5, [.int a1, .long a2, .ref q17, .ref q25, .ref q43, .int (0 : Int32), .int (0 : Int32)])), (q17, .inl (kI, 16, .inl (fun _ => 0))), (q25, .inl (kI, 16, .inl (fun _ => 0))), (q43, .inl (kL, 0, .inr (.inl (fun _ => 0))))] := hD
    have hu := Option.some.inj hf
    exact m_retv (q17, q25, q43) hx hb hr hlk hK (by rw [← hu]; exact m_subP hP [0, 1, 2, 3] rfl) (by rw [← hu]; exact hD.sub [0, 1, 2, 3] (by decide) rfl) hS hQ hAe rfl (Nat.le_of_ble_eq_true rfl) (Nat.le_of_ble_eq_true rfl) d_Rule_init_58
  · replace hf := (if_pos c_34).symm.trans hf
    refine lv_iload hx hb d_Rule_init_37 (lv_at hl 3 rfl) ?_
    refine lv_goto (tgt := 43) hx hb d_Rule_init_39 (by decide) ?_
    obtain ⟨h_43, hf⟩ := jnw_some hf
    refine m_newJ (N' := a4.toNatClampNeg) hx hb (hts _ (List.mem_cons_of_mem _ tw_101)) TY hK hP hD hS hA h_43.1 rfl (Nat.le_trans (Nat.mul_le_mul_right _ h_43.2) (Nat.le_of_ble_eq_true rfl)) (Nat.le_of_ble_eq_true rfl) (Nat.le_trans (Nat.add_le_add_left h_43.2 _) (Nat.le_of_ble_eq_true rfl)) d_Rule_init_43 (fun q43 H hP hD hS => ?_)
    have hP : va_P D vwCl [(h_t, .inr (5, [.int a1, .long a2, .ref q17, .ref q25, .null, .int (0 : Int32), .int (0 : Int32)])), (q17, .inl (kI, 16, .inl (fun _ => 0))), (q25, .inl (kI, 16, .inl (fun _ => 0))), (q43, .inl (kL, a4.toNatClampNeg, .inr (.inl (fun _ => 0))))] H := hP
    have hD : va_D A [(h_t, .inr (5, [.int a1, .long a2, .ref q17, .ref q25, .null, .int (0 : Int32), .int (0 : Int32)])), (q17, .inl (kI, 16, .inl (fun _ => 0))), (q25, .inl (kI, 16, .inl (fun _ => 0))), (q43, .inl (kL, a4.toNatClampNeg, .inr (.inl (fun _ => 0))))] := hD
    refine W.widen (k := 3) (n := 92) (Nat.le_of_ble_eq_true rfl) (Nat.le_trans (Nat.add_le_add_left h_43.2 _) (Nat.le_of_ble_eq_true rfl)) ?_
    refine va_putF (D := D) (ci := 5) (v := .ref q43) (ty := (.array .long)) (C := "RuleKernels$Rule") (T := T_Rule) (N := 7) hx hb hts w_i5 ty_Rule ty_Rule_ok nm_Rule hown hK hP hD hS 0 rfl rfl 4 (by decide) w_f26 (fun _ h9 => h9) rfl hin rfl (by decide +kernel) rfl rfl (Nat.le_of_ble_eq_true rfl) d_Rule_init_45 (fun H locs hP hD hS => ?_)
    have hP : va_P D vwCl [(h_t, .inr (5, [.int a1, .long a2, .ref q17, .ref q25, .ref q43, .int (0 : Int32), .int (0 : Int32)])), (q17, .inl (kI, 16, .inl (fun _ => 0))), (q25, .inl (kI, 16, .inl (fun _ => 0))), (q43, .inl (kL, a4.toNatClampNeg, .inr (.inl (fun _ => 0))))] H := hP
    have hD : va_D A [(h_t, .inr (5, [.int a1, .long a2, .ref q17, .ref q25, .ref q43, .int (0 : Int32), .int (0 : Int32)])), (q17, .inl (kI, 16, .inl (fun _ => 0))), (q25, .inl (kI, 16, .inl (fun _ => 0))), (q43, .inl (kL, a4.toNatClampNeg, .inr (.inl (fun _ => 0))))] := hD
    refine lv_aload_n hx hb d_Rule_init_48 rfl (lv_at hl 0 rfl) ?_
    refine lv_iconst (v := 0) hx hb d_Rule_init_49 (by decide) ?_
    refine va_put (D := D) (ci := 5) (v := .int (0 : Int32)) (ty := .int) (C := "RuleKernels$Rule") (T := T_Rule) (N := 7) hx hb hts w_i5 ty_Rule ty_Rule_ok nm_Rule hown hK hP hD hS 0 rfl rfl 5 (by decide) w_f30 (fun _ h9 => h9) rfl (by decide +kernel) rfl rfl (Nat.le_of_ble_eq_true rfl) d_Rule_init_50 (fun H locs hP hD hS => ?_)
    have hP : va_P D vwCl [(h_t, .inr (5, [.int a1, .long a2, .ref q17, .ref q25, .ref q43, .int (0 : Int32), .int (0 : Int32)])), (q17, .inl (kI, 16, .inl (fun _ => 0))), (q25, .inl (kI, 16, .inl (fun _ => 0))), (q43, .inl (kL, a4.toNatClampNeg, .inr (.inl (fun _ => 0))))] H := hP
    have hD : va_D A [(h_t, .inr (5, [.int a1, .long a2, .ref q17, .ref q25, .ref q43, .int (0 : Int32), .int (0 : Int32)])), (q17, .inl (kI, 16, .inl (fun _ => 0))), (q25, .inl (kI, 16, .inl (fun _ => 0))), (q43, .inl (kL, a4.toNatClampNeg, .inr (.inl (fun _ => 0))))] := hD
    refine lv_aload_n hx hb d_Rule_init_53 rfl (lv_at hl 0 rfl) ?_
    refine lv_iconst (v := 0) hx hb d_Rule_init_54 (by decide) ?_
    refine va_put (D := D) (ci := 5) (v := .int (0 : Int32)) (ty := .int) (C := "RuleKernels$Rule") (T := T_Rule) (N := 7) hx hb hts w_i5 ty_Rule ty_Rule_ok nm_Rule hown hK hP hD hS 0 rfl rfl 6 (by decide) w_f33 (fun _ h9 => h9) rfl (by decide +kernel) rfl rfl (Nat.le_of_ble_eq_true rfl) d_Rule_init_55 (fun H locs hP hD hS => ?_)
    have hP : va_P D vwCl [(h_t, .inr (5, [.int a1, .long a2, .ref q17, .ref q25, .ref q43, .int (0 : Int32), .int (0 : Int32)])), (q17, .inl (kI, 16, .inl (fun _ => 0))), (q25, .inl (kI, 16, .inl (fun _ => 0))), (q43, .inl (kL, a4.toNatClampNeg, .inr (.inl (fun _ => 0))))] H := hP
    have hD : va_D A [(h_t, .inr (5, [.int a1, .long a2, .ref q17, .ref q25, .ref q43, .int (0 : Int32), .int (0 : Int32)])), (q17, .inl (kI, 16, .inl (fun _ => 0))), (q25, .inl (kI, 16, .inl (fun _ => 0))), (q43, .inl (kL, a4.toNatClampNeg, .inr (.inl (fun _ => 0))))] := hD
    have hu := Option.some.inj hf
    exact m_retv (q17, q25, q43) hx hb hr hlk hK (by rw [← hu]; exact m_subP hP [0, 1, 2, 3] rfl) (by rw [← hu]; exact hD.sub [0, 1, 2, 3] (by decide) rfl) hS hQ hAe rfl (Nat.le_of_ble_eq_true rfl) (Nat.le_of_ble_eq_true rfl) d_Rule_init_58
