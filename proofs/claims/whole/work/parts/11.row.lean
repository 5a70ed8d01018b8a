def q_Row_join_69 (N : Nat) (a1 : Int32) (z0 : Int32) (t_size : Int32) (t_ring : Nat → Int32) (t_waits : Nat → Int32) : Option (Int32 × (Nat → Int32) × (Nat → Int32)) := (jin z0 120 (jin a1 120 (some ((t_size + (1 : Int32)), (upd t_ring z0.toNatClampNeg a1), (upd t_waits a1.toNatClampNeg (vp_nar .boolean (1 : Int32)))))))
def p_Row_join (N : Nat) (t_head : Int32) (t_size : Int32) (t_ring : Nat → Int32) (t_waits : Nat → Int32) (a1 : Int32) : Option (Int32 × (Nat → Int32) × (Nat → Int32)) := (if a1 < 0 then some (t_size, t_ring, t_waits) else (if (nI 120) ≤ a1 then some (t_size, t_ring, t_waits) else (jin a1 120 (if (t_waits a1.toNatClampNeg) = 0 then (if t_size < (nI 120) then (if (nI 120) ≤ (t_head + t_size) then q_Row_join_69 N a1  ((t_head + t_size) - (nI 120)) t_size t_ring t_waits else q_Row_join_69 N a1  (t_head + t_size) t_size t_ring t_waits) else some (t_size, t_ring, t_waits)) else some (t_size, t_ring, t_waits)))))
def q_Row_leave_51 (N : Nat) (x1 : Int32) (z0 : Int32) (t_head : Int32) (t_size : Int32) (t_waits : Nat → Int32) : Option (Int32 × Int32 × Int32 × (Nat → Int32)) := some (x1, z0, (t_size - (1 : Int32)), t_waits)
def p_Row_leave (N : Nat) (t_head : Int32) (t_size : Int32) (t_ring : Nat → Int32) (t_waits : Nat → Int32) : Option (Int32 × Int32 × Int32 × (Nat → Int32)) := (if 0 < t_size then (jin t_head 120 (jin (t_ring t_head.toNatClampNeg) 120 (if (nI 120) ≤ (t_head + (1 : Int32)) then q_Row_leave_51 N  (t_ring t_head.toNatClampNeg) (0 : Int32) t_head t_size (upd t_waits (t_ring t_head.toNatClampNeg).toNatClampNeg (vp_nar .boolean (0 : Int32))) else q_Row_leave_51 N  (t_ring t_head.toNatClampNeg) (t_head + (1 : Int32)) t_head t_size (upd t_waits (t_ring t_head.toNatClampNeg).toNatClampNeg (vp_nar .boolean (0 : Int32)))))) else some ((-1 : Int32), t_head, t_size, t_waits))
def q_Row_copyFrom_41 (N : Nat) (p1_head : Int32) (p1_size : Int32) (t_head : Int32) (t_size : Int32) (t_ring : Nat → Int32) (t_waits : Nat → Int32) : Option (Int32 × Int32 × (Nat → Int32) × (Nat → Int32)) := some (p1_head, p1_size, t_ring, t_waits)
def q_Row_copyFrom_2 (N : Nat) (p1_head : Int32) (p1_size : Int32) (p1_ring : Nat → Int32) (p1_waits : Nat → Int32) : Nat → Int32 → Int32 → Int32 → (Nat → Int32) → (Nat → Int32) → Option (Int32 × Int32 × (Nat → Int32) × (Nat → Int32))
  | 0 => fun _ _ _ _ _ => none
  | n + 1 => fun x2 t_head t_size t_ring t_waits => (if (nI 120) ≤ x2 then q_Row_copyFrom_41 N p1_head p1_size  t_head t_size t_ring t_waits else (jin x2 120 (jin x2 120 (jin x2 120 (jin x2 120 (q_Row_copyFrom_2 N p1_head p1_size p1_ring p1_waits n (x2 + 1) t_head t_size (upd t_ring x2.toNatClampNeg (p1_ring x2.toNatClampNeg)) (upd t_waits x2.toNatClampNeg (vp_nar .boolean (p1_waits x2.toNatClampNeg)))))))))
def p_Row_copyFrom (N : Nat) (t_head : Int32) (t_size : Int32) (t_ring : Nat → Int32) (t_waits : Nat → Int32) (p1_head : Int32) (p1_size : Int32) (p1_ring : Nat → Int32) (p1_waits : Nat → Int32) : Option (Int32 × Int32 × (Nat → Int32) × (Nat → Int32)) := q_Row_copyFrom_2 N p1_head p1_size p1_ring p1_waits  N (0 : Int32) t_head t_size t_ring t_waits
def p_Told_clear (N : Nat) : Option (Int32) := some (0 : Int32)
def q_Told_add_22 (N : Nat) (t_count : Int32) (t_numbers : Nat → Int32) : Option (Int32 × (Nat → Int32)) := some ((t_count + (1 : Int32)), t_numbers)
def p_Told_add (N : Nat) (t_count : Int32) (t_numbers : Nat → Int32) (a1 : Int32) : Option (Int32 × (Nat → Int32)) := (if (nI 1000) ≤ t_count then q_Told_add_22 N  t_count t_numbers else (jin t_count 1000 (q_Told_add_22 N  t_count (upd t_numbers t_count.toNatClampNeg a1))))
def p_Told_ruleAt (N : Nat) (t_count : Int32) (t_numbers : Nat → Int32) (a1 : Int32) : Option (Int32) := (if a1 < 0 then some (-1 : Int32) else (if t_count ≤ a1 then some (-1 : Int32) else (if (nI 1000) ≤ a1 then some (-1 : Int32) else (jin a1 1000 (some (t_numbers a1.toNatClampNeg))))))
def p_Told_copyFrom (N : Nat) (t_numbers : Nat → Int32) (p1_count : Int32) (p1_numbers : Nat → Int32) : Option (Int32 × (Nat → Int32)) := (jcp (0 : Int32) (0 : Int32) (if (nI 1000) < p1_count then (nI 1000) else p1_count) 1000 1000 (some (p1_count, (va_cpy p1_numbers t_numbers (0 : Int32).toNatClampNeg (0 : Int32).toNatClampNeg (if (nI 1000) < p1_count then (nI 1000) else p1_count).toNatClampNeg))))
def p_Row_init (N : Nat) : Option (Int32 × Int32 × (Nat → Int32) × (Nat → Int32)) := some ((0 : Int32), (0 : Int32), (fun _ => 0), (fun _ => 0))
def p_Told_init (N : Nat) : Option (Int32 × (Nat → Int32)) := some ((0 : Int32), (fun _ => 0))
def p_Mark_init (N : Nat) : Option (Int32 × Int32 × Int32 × (Nat → Int32) × (Nat → Int32) × Int32 × (Nat → Int32)) := ((p_Row_init N).bind fun (t_head_14, t_size_14, t_ring_14, t_waits_14) => ((p_Told_init N).bind fun (t_count_25, t_numbers_25) => some ((0 : Int32), t_head_14, t_size_14, t_ring_14, t_waits_14, t_count_25, t_numbers_25)))
def p_Giving_init (N : Nat) : Option (Int64 × Int32 × (Nat → Int32) × (Nat → Int32) × (Nat → Int32) × (Nat → Int32)) := some ((0 : Int64), (0 : Int32), (fun _ => 0), (fun _ => 0), (fun _ => 0), (fun _ => 0))
def p_Kernel_init (N : Nat) (a1 : Int32) : Option (Int32 × (Nat → Int64) × (Nat → Int64) × Int64 × Int32 × (Nat → Int32) × (Nat → Int32) × (Nat → Int32) × (Nat → Int32)) := ((p_Giving_init N).bind fun (t_used_30, t_movable_30, t_given_30, t_askedBy_30, t_line_30, t_reach_30) => some (a1, (fun _ => 0), (fun _ => 0), t_used_30, t_movable_30, t_given_30, t_askedBy_30, t_line_30, t_reach_30))
set_option maxHeartbeats 4000000 in
set_option maxRecDepth 100000 in
theorem c_Row_join {l : Launch} {D : va_G} {tys : List (ClassId × FieldType)} {kI kL kZ kR kM : ClassId} {N : Nat} {h_t h_t_ring h_t_waits : Nat} {t_head : Int32} {t_size : Int32} {t_ring : Nat → Int32} {t_waits : Nat → Int32} {a1 : Int32} {u : Int32 × (Nat → Int32) × (Nat → Int32)} (TY : mTy tys kI kL kZ kR kM) (hf : p_Row_join N t_head t_size t_ring t_waits a1 = some u) (sz : Nat) : Met l y_Row_join ws_Row_join { frames := 0, cells := 0, slots := 0, locals := 0 } (mPre D tys [.ref h_t, .int a1] [(h_t, .inr (4, [.ref h_t_ring, .ref h_t_waits, .int t_head, .int t_size])), (h_t_ring, .inl (kI, 120, .inl t_ring)), (h_t_waits, .inl (kZ, 120, .inl t_waits))] sz) (mPost D tys (fun _ : Unit => none) [(h_t, .inr (4, [.ref h_t_ring, .ref h_t_waits, .int t_head, .int t_size])), (h_t_ring, .inl (kI, 120, .inl t_ring)), (h_t_waits, .inl (kZ, 120, .inl t_waits))] (fun x : Unit => [(h_t, .inr (4, [.ref h_t_ring, .ref h_t_waits, .int t_head, .int u.1])), (h_t_ring, .inl (kI, 120, .inl u.2.1)), (h_t_waits, .inl (kZ, 120, .inl u.2.2))]) sz) 0 0 (va_A [(h_t, .inr (4, [.ref h_t_ring, .ref h_t_waits, .int t_head, .int t_size])), (h_t_ring, .inl (kI, 120, .inl t_ring)), (h_t_waits, .inl (kZ, 120, .inl t_waits))] sz) := by
  refine m_ofW (cc := b_Row_join) (maxL := 3) (ret := none) (by decide) rfl (Nat.le_of_ble_eq_true rfl) ?_ sz
  intro p e s m args below meth c ls Q A hx hb hml hr hts hown hin hlk hK hN hP hD hA hS hl hQ hAe
  have hown : s.vm.findClass "RuleKernels$Row" = some m.cls := hown
  have hl : lv_has ls 3 [(0, .ref h_t), (1, .int a1)] := hl
  have w_f15 := (hts _ (List.mem_cons_of_mem _ tw_158))
  have w_f19 := (hts _ (List.mem_cons_of_mem _ tw_159))
  have w_f23 := (hts _ (List.mem_cons_of_mem _ tw_160))
  have w_f9 := (hts _ (List.mem_cons_of_mem _ tw_157))
  have w_i4 := (fun q h => List.mem_cons_of_mem _ (i_Row q h) : ∀ q ∈ u_ws "RuleKernels$Row" T_Row 4, q ∈ ws_Row_join)
  have L69 : ∀ (z0 : Int32) (t_size : Int32) (t_ring : Nat → Int32) (t_waits : Nat → Int32), q_Row_join_69 N a1 z0 t_size t_ring t_waits = some u → ∀ (H : Heap) (locs : List Loc), va_P D vwCl [(h_t, .inr (4, [.ref h_t_ring, .ref h_t_waits, .int t_head, .int t_size])), (h_t_ring, .inl (kI, 120, .inl t_ring)), (h_t_waits, .inl (kZ, 120, .inl t_waits))] H → va_D A [(h_t, .inr (4, [.ref h_t_ring, .ref h_t_waits, .int t_head, .int t_size])), (h_t_ring, .inl (kI, 120, .inl t_ring)), (h_t_waits, .inl (kZ, 120, .inl t_waits))] → va_S A s.heap H locs → ∀ ls : Array Slot, lv_has ls 3 [(0, .ref h_t), (1, .int a1)] → W p l e { frames := 0, cells := 0, slots := 0, locals := 0 } s m args below meth c H locs 0 0 Q (F0 m 69 ls [.int z0, .ref h_t_ring]) := by
    intro z0 t_size t_ring t_waits hf H locs hP hD hS ls hl
    unfold q_Row_join_69 at hf
    refine lv_iload_n hx hb d_Row_join_69 rfl (lv_at hl 1 rfl) ?_
    obtain ⟨h_70, hf⟩ := jin_some hf
    refine va_iast hx hb hK hP hD hS 1 0 rfl TY.1 h_70 d_Row_join_70 (fun H locs hP hD hS => ?_)
    have hP : va_P D vwCl [(h_t, .inr (4, [.ref h_t_ring, .ref h_t_waits, .int t_head, .int t_size])), (h_t_ring, .inl (kI, 120, .inl (upd t_ring z0.toNatClampNeg a1))), (h_t_waits, .inl (kZ, 120, .inl t_waits))] H := hP
    have hD : va_D A [(h_t, .inr (4, [.ref h_t_ring, .ref h_t_waits, .int t_head, .int t_size])), (h_t_ring, .inl (kI, 120, .inl (upd t_ring z0.toNatClampNeg a1))), (h_t_waits, .inl (kZ, 120, .inl t_waits))] := hD
    refine lv_aload_n hx hb d_Row_join_71 rfl (lv_at hl 0 rfl) ?_
    refine va_get (D := D) (ci := 4) (v := .ref h_t_waits) (C := "RuleKernels$Row") (T := T_Row) (N := 4) hx hb hts w_i4 hown hK hP 0 rfl rfl 1 (by decide) w_f15 (fun _ h9 => h9) rfl d_Row_join_72 ?_
    refine lv_iload_n hx hb d_Row_join_75 rfl (lv_at hl 1 rfl) ?_
    refine lv_iconst (v := 1) hx hb d_Row_join_76 (by decide) ?_
    obtain ⟨h_77, hf⟩ := jin_some hf
    refine va_zast hx hb hK hP hD hS 2 2 rfl TY.2.2.1 h_77 d_Row_join_77 (fun H locs hP hD hS => ?_)
    have hP : va_P D vwCl [(h_t, .inr (4, [.ref h_t_ring, .ref h_t_waits, .int t_head, .int t_size])), (h_t_ring, .inl (kI, 120, .inl (upd t_ring z0.toNatClampNeg a1))), (h_t_waits, .inl (kZ, 120, .inl (upd t_waits a1.toNatClampNeg (vp_nar .boolean (1 : Int32)))))] H := hP
    have hD : va_D A [(h_t, .inr (4, [.ref h_t_ring, .ref h_t_waits, .int t_head, .int t_size])), (h_t_ring, .inl (kI, 120, .inl (upd t_ring z0.toNatClampNeg a1))), (h_t_waits, .inl (kZ, 120, .inl (upd t_waits a1.toNatClampNeg (vp_nar .boolean (1 : Int32)))))] := hD
    refine lv_aload_n hx hb d_Row_join_78 rfl (lv_at hl 0 rfl) ?_
    refine lv_dup hx hb d_Row_join_79 rfl ?_
    refine va_get (D := D) (ci := 4) (v := .int t_size) (C := "RuleKernels$Row") (T := T_Row) (N := 4) hx hb hts w_i4 hown hK hP 0 rfl rfl 3 (by decide) w_f23 (fun _ h9 => h9) rfl d_Row_join_80 ?_
    refine lv_iconst (v := 1) hx hb d_Row_join_83 (by decide) ?_
    refine lv_iadd hx hb d_Row_join_84 ?_
    refine va_put (D := D) (ci := 4) (v := .int (t_size + (1 : Int32))) (ty := .int) (C := "RuleKernels$Row") (T := T_Row) (N := 4) hx hb hts w_i4 ty_Row ty_Row_ok nm_Row hown hK hP hD hS 0 rfl rfl 3 (by decide) w_f23 (fun _ h9 => h9) rfl (by decide +kernel) rfl rfl (Nat.le_of_ble_eq_true rfl) d_Row_join_85 (fun H locs hP hD hS => ?_)
    have hP : va_P D vwCl [(h_t, .inr (4, [.ref h_t_ring, .ref h_t_waits, .int t_head, .int (t_size + (1 : Int32))])), (h_t_ring, .inl (kI, 120, .inl (upd t_ring z0.toNatClampNeg a1))), (h_t_waits, .inl (kZ, 120, .inl (upd t_waits a1.toNatClampNeg (vp_nar .boolean (1 : Int32)))))] H := hP
    have hD : va_D A [(h_t, .inr (4, [.ref h_t_ring, .ref h_t_waits, .int t_head, .int (t_size + (1 : Int32))])), (h_t_ring, .inl (kI, 120, .inl (upd t_ring z0.toNatClampNeg a1))), (h_t_waits, .inl (kZ, 120, .inl (upd t_waits a1.toNatClampNeg (vp_nar .boolean (1 : Int32)))))] := hD
    have hu := Option.some.inj hf
    exact m_retv () hx hb hr hlk hK (by rw [← hu]; exact hP) (by rw [← hu]; exact hD) hS hQ hAe rfl (Nat.le_of_ble_eq_true rfl) (Nat.le_of_ble_eq_true rfl) d_Row_join_88
  unfold p_Row_join at hf
  refine lv_iload_n hx hb d_Row_join_0 rfl (lv_at hl 1 rfl) ?_
  refine lv_if_lt (tgt := 34) hx hb d_Row_join_1 (by decide) (fun c_1 => ?_) (fun c_1 => ?_)
  · replace hf := (if_pos c_1).symm.trans hf
    have hu := Option.some.inj hf
    exact m_retv () hx hb hr hlk hK (by rw [← hu]; exact hP) (by rw [← hu]; exact hD) hS hQ hAe rfl (Nat.le_of_ble_eq_true rfl) (Nat.le_of_ble_eq_true rfl) d_Row_join_34
  · replace hf := (if_neg c_1).symm.trans hf
    refine lv_iload_n hx hb d_Row_join_4 rfl (lv_at hl 1 rfl) ?_
    refine lv_aload_n hx hb d_Row_join_5 rfl (lv_at hl 0 rfl) ?_
    refine va_get (D := D) (ci := 4) (v := .ref h_t_waits) (C := "RuleKernels$Row") (T := T_Row) (N := 4) hx hb hts w_i4 hown hK hP 0 rfl rfl 1 (by decide) w_f15 (fun _ h9 => h9) rfl d_Row_join_6 ?_
    refine va_alen (v := nI 120) hx hb hK hP 2 2 rfl TY.2.2.1 rfl d_Row_join_9 ?_
    refine lv_icmp_ge (tgt := 34) hx hb d_Row_join_10 (by decide) (fun c_10 => ?_) (fun c_10 => ?_)
    · replace hf := (if_pos c_10).symm.trans hf
      have hu := Option.some.inj hf
      exact m_retv () hx hb hr hlk hK (by rw [← hu]; exact hP) (by rw [← hu]; exact hD) hS hQ hAe rfl (Nat.le_of_ble_eq_true rfl) (Nat.le_of_ble_eq_true rfl) d_Row_join_34
    · replace hf := (if_neg c_10).symm.trans hf
      refine lv_aload_n hx hb d_Row_join_13 rfl (lv_at hl 0 rfl) ?_
      refine va_get (D := D) (ci := 4) (v := .ref h_t_waits) (C := "RuleKernels$Row") (T := T_Row) (N := 4) hx hb hts w_i4 hown hK hP 0 rfl rfl 1 (by decide) w_f15 (fun _ h9 => h9) rfl d_Row_join_14 ?_
      refine lv_iload_n hx hb d_Row_join_17 rfl (lv_at hl 1 rfl) ?_
      obtain ⟨h_18, hf⟩ := jin_some hf
      refine va_zald hx hb hK hP 2 2 rfl TY.2.2.1 h_18 d_Row_join_18 ?_
      refine lv_if_ne (tgt := 34) hx hb d_Row_join_19 (by decide) (fun c_19 => ?_) (fun c_19 => ?_)
      · replace hf := (if_neg c_19).symm.trans hf
        have hu := Option.some.inj hf
        exact m_retv () hx hb hr hlk hK (by rw [← hu]; exact hP) (by rw [← hu]; exact hD) hS hQ hAe rfl (Nat.le_of_ble_eq_true rfl) (Nat.le_of_ble_eq_true rfl) d_Row_join_34
      · replace hf := (if_pos c_19).symm.trans hf
        refine lv_aload_n hx hb d_Row_join_22 rfl (lv_at hl 0 rfl) ?_
        refine va_get (D := D) (ci := 4) (v := .int t_size) (C := "RuleKernels$Row") (T := T_Row) (N := 4) hx hb hts w_i4 hown hK hP 0 rfl rfl 3 (by decide) w_f23 (fun _ h9 => h9) rfl d_Row_join_23 ?_
        refine lv_aload_n hx hb d_Row_join_26 rfl (lv_at hl 0 rfl) ?_
        refine va_get (D := D) (ci := 4) (v := .ref h_t_ring) (C := "RuleKernels$Row") (T := T_Row) (N := 4) hx hb hts w_i4 hown hK hP 0 rfl rfl 0 (by decide) w_f9 (fun _ h9 => h9) rfl d_Row_join_27 ?_
        refine va_alen (v := nI 120) hx hb hK hP 1 0 rfl TY.1 rfl d_Row_join_30 ?_
        refine lv_icmp_lt (tgt := 35) hx hb d_Row_join_31 (by decide) (fun c_31 => ?_) (fun c_31 => ?_)
        · replace hf := (if_pos c_31).symm.trans hf
          refine lv_aload_n hx hb d_Row_join_35 rfl (lv_at hl 0 rfl) ?_
          refine va_get (D := D) (ci := 4) (v := .int t_head) (C := "RuleKernels$Row") (T := T_Row) (N := 4) hx hb hts w_i4 hown hK hP 0 rfl rfl 2 (by decide) w_f19 (fun _ h9 => h9) rfl d_Row_join_36 ?_
          refine lv_aload_n hx hb d_Row_join_39 rfl (lv_at hl 0 rfl) ?_
          refine va_get (D := D) (ci := 4) (v := .int t_size) (C := "RuleKernels$Row") (T := T_Row) (N := 4) hx hb hts w_i4 hown hK hP 0 rfl rfl 3 (by decide) w_f23 (fun _ h9 => h9) rfl d_Row_join_40 ?_
          refine lv_iadd hx hb d_Row_join_43 ?_
          refine lv_istore_n (lv' := [(2, .int (t_head + t_size)), (0, .ref h_t), (1, .int a1)]) hx hb d_Row_join_44 rfl hl (by decide) rfl (fun ls hl => ?_)
          refine lv_aload_n hx hb d_Row_join_45 rfl (lv_at hl 1 rfl) ?_
          refine va_get (D := D) (ci := 4) (v := .ref h_t_ring) (C := "RuleKernels$Row") (T := T_Row) (N := 4) hx hb hts w_i4 hown hK hP 0 rfl rfl 0 (by decide) w_f9 (fun _ h9 => h9) rfl d_Row_join_46 ?_
          refine lv_iload_n hx hb d_Row_join_49 rfl (lv_at hl 0 rfl) ?_
          refine lv_aload_n hx hb d_Row_join_50 rfl (lv_at hl 1 rfl) ?_
          refine va_get (D := D) (ci := 4) (v := .ref h_t_ring) (C := "RuleKernels$Row") (T := T_Row) (N := 4) hx hb hts w_i4 hown hK hP 0 rfl rfl 0 (by decide) w_f9 (fun _ h9 => h9) rfl d_Row_join_51 ?_
          refine va_alen (v := nI 120) hx hb hK hP 1 0 rfl TY.1 rfl d_Row_join_54 ?_
          refine lv_icmp_ge (tgt := 62) hx hb d_Row_join_55 (by decide) (fun c_55 => ?_) (fun c_55 => ?_)
          · replace hf := (if_pos c_55).symm.trans hf
            refine lv_iload_n hx hb d_Row_join_62 rfl (lv_at hl 0 rfl) ?_
            refine lv_aload_n hx hb d_Row_join_63 rfl (lv_at hl 1 rfl) ?_
            refine va_get (D := D) (ci := 4) (v := .ref h_t_ring) (C := "RuleKernels$Row") (T := T_Row) (N := 4) hx hb hts w_i4 hown hK hP 0 rfl rfl 0 (by decide) w_f9 (fun _ h9 => h9) rfl d_Row_join_64 ?_
            refine va_alen (v := nI 120) hx hb hK hP 1 0 rfl TY.1 rfl d_Row_join_67 ?_
            refine lv_isub hx hb d_Row_join_68 ?_
            exact L69  ((t_head + t_size) - (nI 120)) t_size t_ring t_waits hf _ _ hP hD hS ls (lv_sub hl [1, 2] rfl)
          · replace hf := (if_neg c_55).symm.trans hf
            refine lv_iload_n hx hb d_Row_join_58 rfl (lv_at hl 0 rfl) ?_
            refine lv_goto (tgt := 69) hx hb d_Row_join_59 (by decide) ?_
            exact L69  (t_head + t_size) t_size t_ring t_waits hf _ _ hP hD hS ls (lv_sub hl [1, 2] rfl)
        · replace hf := (if_neg c_31).symm.trans hf
          have hu := Option.some.inj hf
          exact m_retv () hx hb hr hlk hK (by rw [← hu]; exact hP) (by rw [← hu]; exact hD) hS hQ hAe rfl (Nat.le_of_ble_eq_true rfl) (Nat.le_of_ble_eq_true rfl) d_Row_join_34
set_option maxHeartbeats 4000000 in
set_option maxRecDepth 100000 in
theorem c_Row_leave {l : Launch} {D : va_G} {tys : List (ClassId × FieldType)} {kI kL kZ kR kM : ClassId} {N : Nat} {h_t h_t_ring h_t_waits : Nat} {t_head : Int32} {t_size : Int32} {t_ring : Nat → Int32} {t_waits : Nat → Int32} {u : Int32 × Int32 × Int32 × (Nat → Int32)} (TY : mTy tys kI kL kZ kR kM) (hf : p_Row_leave N t_head t_size t_ring t_waits = some u) (sz : Nat) : Met l y_Row_leave ws_Row_leave { frames := 0, cells := 0, slots := 0, locals := 0 } (mPre D tys [.ref h_t] [(h_t, .inr (4, [.ref h_t_ring, .ref h_t_waits, .int t_head, .int t_size])), (h_t_ring, .inl (kI, 120, .inl t_ring)), (h_t_waits, .inl (kZ, 120, .inl t_waits))] sz) (mPost D tys (fun _ : Unit => some (.int u.1)) [(h_t, .inr (4, [.ref h_t_ring, .ref h_t_waits, .int t_head, .int t_size])), (h_t_ring, .inl (kI, 120, .inl t_ring)), (h_t_waits, .inl (kZ, 120, .inl t_waits))] (fun x : Unit => [(h_t, .inr (4, [.ref h_t_ring, .ref h_t_waits, .int u.2.1, .int u.2.2.1])), (h_t_ring, .inl (kI, 120, .inl t_ring)), (h_t_waits, .inl (kZ, 120, .inl u.2.2.2))]) sz) 0 0 (va_A [(h_t, .inr (4, [.ref h_t_ring, .ref h_t_waits, .int t_head, .int t_size])), (h_t_ring, .inl (kI, 120, .inl t_ring)), (h_t_waits, .inl (kZ, 120, .inl t_waits))] sz) := by
  refine m_ofW (cc := b_Row_leave) (maxL := 2) (ret := (some .int)) (by decide) rfl (Nat.le_of_ble_eq_true rfl) ?_ sz
  intro p e s m args below meth c ls Q A hx hb hml hr hts hown hin hlk hK hN hP hD hA hS hl hQ hAe
  have hown : s.vm.findClass "RuleKernels$Row" = some m.cls := hown
  have hl : lv_has ls 2 [(0, .ref h_t)] := hl
  have w_f15 := (hts _ (List.mem_cons_of_mem _ tw_158))
  have w_f19 := (hts _ (List.mem_cons_of_mem _ tw_159))
  have w_f23 := (hts _ (List.mem_cons_of_mem _ tw_160))
  have w_f9 := (hts _ (List.mem_cons_of_mem _ tw_157))
  have w_i4 := (fun q h => List.mem_cons_of_mem _ (i_Row q h) : ∀ q ∈ u_ws "RuleKernels$Row" T_Row 4, q ∈ ws_Row_leave)
  have L51 : ∀ (x1 : Int32) (z0 : Int32) (t_head : Int32) (t_size : Int32) (t_waits : Nat → Int32), q_Row_leave_51 N x1 z0 t_head t_size t_waits = some u → ∀ (H : Heap) (locs : List Loc), va_P D vwCl [(h_t, .inr (4, [.ref h_t_ring, .ref h_t_waits, .int t_head, .int t_size])), (h_t_ring, .inl (kI, 120, .inl t_ring)), (h_t_waits, .inl (kZ, 120, .inl t_waits))] H → va_D A [(h_t, .inr (4, [.ref h_t_ring, .ref h_t_waits, .int t_head, .int t_size])), (h_t_ring, .inl (kI, 120, .inl t_ring)), (h_t_waits, .inl (kZ, 120, .inl t_waits))] → va_S A s.heap H locs → ∀ ls : Array Slot, lv_has ls 2 [(0, .ref h_t), (1, .int x1)] → W p l e { frames := 0, cells := 0, slots := 0, locals := 0 } s m args below meth c H locs 0 0 Q (F0 m 51 ls [.int z0, .ref h_t]) := by
    intro x1 z0 t_head t_size t_waits hf H locs hP hD hS ls hl
    unfold q_Row_leave_51 at hf
    refine va_put (D := D) (ci := 4) (v := .int z0) (ty := .int) (C := "RuleKernels$Row") (T := T_Row) (N := 4) hx hb hts w_i4 ty_Row ty_Row_ok nm_Row hown hK hP hD hS 0 rfl rfl 2 (by decide) w_f19 (fun _ h9 => h9) rfl (by decide +kernel) rfl rfl (Nat.le_of_ble_eq_true rfl) d_Row_leave_51 (fun H locs hP hD hS => ?_)
    have hP : va_P D vwCl [(h_t, .inr (4, [.ref h_t_ring, .ref h_t_waits, .int z0, .int t_size])), (h_t_ring, .inl (kI, 120, .inl t_ring)), (h_t_waits, .inl (kZ, 120, .inl t_waits))] H := hP
    have hD : va_D A [(h_t, .inr (4, [.ref h_t_ring, .ref h_t_waits, .int z0, .int t_size])), (h_t_ring, .inl (kI, 120, .inl t_ring)), (h_t_waits, .inl (kZ, 120, .inl t_waits))] := hD
    refine lv_aload_n hx hb d_Row_leave_54 rfl (lv_at hl 0 rfl) ?_
    refine lv_dup hx hb d_Row_leave_55 rfl ?_
    refine va_get (D := D) (ci := 4) (v := .int t_size) (C := "RuleKernels$Row") (T := T_Row) (N := 4) hx hb hts w_i4 hown hK hP 0 rfl rfl 3 (by decide) w_f23 (fun _ h9 => h9) rfl d_Row_leave_56 ?_
    refine lv_iconst (v := 1) hx hb d_Row_leave_59 (by decide) ?_
    refine lv_isub hx hb d_Row_leave_60 ?_
    refine va_put (D := D) (ci := 4) (v := .int (t_size - (1 : Int32))) (ty := .int) (C := "RuleKernels$Row") (T := T_Row) (N := 4) hx hb hts w_i4 ty_Row ty_Row_ok nm_Row hown hK hP hD hS 0 rfl rfl 3 (by decide) w_f23 (fun _ h9 => h9) rfl (by decide +kernel) rfl rfl (Nat.le_of_ble_eq_true rfl) d_Row_leave_61 (fun H locs hP hD hS => ?_)
    have hP : va_P D vwCl [(h_t, .inr (4, [.ref h_t_ring, .ref h_t_waits, .int z0, .int (t_size - (1 : Int32))])), (h_t_ring, .inl (kI, 120, .inl t_ring)), (h_t_waits, .inl (kZ, 120, .inl t_waits))] H := hP
    have hD : va_D A [(h_t, .inr (4, [.ref h_t_ring, .ref h_t_waits, .int z0, .int (t_size - (1 : Int32))])), (h_t_ring, .inl (kI, 120, .inl t_ring)), (h_t_waits, .inl (kZ, 120, .inl t_waits))] := hD
    refine lv_iload_n hx hb d_Row_leave_64 rfl (lv_at hl 1 rfl) ?_
    have hu := Option.some.inj hf
    exact m_reti () hx hb hr hlk hK (by rw [← hu]; exact hP) (by rw [← hu]; exact hD) hS hQ hAe (by rw [← hu]) (Nat.le_of_ble_eq_true rfl) (Nat.le_of_ble_eq_true rfl) d_Row_leave_65
  unfold p_Row_leave at hf
  refine lv_aload_n hx hb d_Row_leave_0 rfl (lv_at hl 0 rfl) ?_
  refine va_get (D := D) (ci := 4) (v := .int t_size) (C := "RuleKernels$Row") (T := T_Row) (N := 4) hx hb hts w_i4 hown hK hP 0 rfl rfl 3 (by decide) w_f23 (fun _ h9 => h9) rfl d_Row_leave_1 ?_
  refine lv_if_gt (tgt := 9) hx hb d_Row_leave_4 (by decide) (fun c_4 => ?_) (fun c_4 => ?_)
  · replace hf := (if_pos c_4).symm.trans hf
    refine lv_aload_n hx hb d_Row_leave_9 rfl (lv_at hl 0 rfl) ?_
    refine va_get (D := D) (ci := 4) (v := .ref h_t_ring) (C := "RuleKernels$Row") (T := T_Row) (N := 4) hx hb hts w_i4 hown hK hP 0 rfl rfl 0 (by decide) w_f9 (fun _ h9 => h9) rfl d_Row_leave_10 ?_
    refine lv_aload_n hx hb d_Row_leave_13 rfl (lv_at hl 0 rfl) ?_
    refine va_get (D := D) (ci := 4) (v := .int t_head) (C := "RuleKernels$Row") (T := T_Row) (N := 4) hx hb hts w_i4 hown hK hP 0 rfl rfl 2 (by decide) w_f19 (fun _ h9 => h9) rfl d_Row_leave_14 ?_
    obtain ⟨h_17, hf⟩ := jin_some hf
    refine va_iald hx hb hK hP 1 0 rfl TY.1 h_17 d_Row_leave_17 ?_
    refine lv_istore_n (lv' := [(1, .int (t_ring t_head.toNatClampNeg)), (0, .ref h_t)]) hx hb d_Row_leave_18 rfl hl (by decide) rfl (fun ls hl => ?_)
    refine lv_aload_n hx hb d_Row_leave_19 rfl (lv_at hl 1 rfl) ?_
    refine va_get (D := D) (ci := 4) (v := .ref h_t_waits) (C := "RuleKernels$Row") (T := T_Row) (N := 4) hx hb hts w_i4 hown hK hP 0 rfl rfl 1 (by decide) w_f15 (fun _ h9 => h9) rfl d_Row_leave_20 ?_
    refine lv_iload_n hx hb d_Row_leave_23 rfl (lv_at hl 0 rfl) ?_
    refine lv_iconst (v := 0) hx hb d_Row_leave_24 (by decide) ?_
    obtain ⟨h_25, hf⟩ := jin_some hf
    refine va_zast hx hb hK hP hD hS 2 2 rfl TY.2.2.1 h_25 d_Row_leave_25 (fun H locs hP hD hS => ?_)
    have hP : va_P D vwCl [(h_t, .inr (4, [.ref h_t_ring, .ref h_t_waits, .int t_head, .int t_size])), (h_t_ring, .inl (kI, 120, .inl t_ring)), (h_t_waits, .inl (kZ, 120, .inl (upd t_waits (t_ring t_head.toNatClampNeg).toNatClampNeg (vp_nar .boolean (0 : Int32)))))] H := hP
    have hD : va_D A [(h_t, .inr (4, [.ref h_t_ring, .ref h_t_waits, .int t_head, .int t_size])), (h_t_ring, .inl (kI, 120, .inl t_ring)), (h_t_waits, .inl (kZ, 120, .inl (upd t_waits (t_ring t_head.toNatClampNeg).toNatClampNeg (vp_nar .boolean (0 : Int32)))))] := hD
    refine lv_aload_n hx hb d_Row_leave_26 rfl (lv_at hl 1 rfl) ?_
    refine lv_aload_n hx hb d_Row_leave_27 rfl (lv_at hl 1 rfl) ?_
    refine va_get (D := D) (ci := 4) (v := .int t_head) (C := "RuleKernels$Row") (T := T_Row) (N := 4) hx hb hts w_i4 hown hK hP 0 rfl rfl 2 (by decide) w_f19 (fun _ h9 => h9) rfl d_Row_leave_28 ?_
    refine lv_iconst (v := 1) hx hb d_Row_leave_31 (by decide) ?_
    refine lv_iadd hx hb d_Row_leave_32 ?_
    refine lv_aload_n hx hb d_Row_leave_33 rfl (lv_at hl 1 rfl) ?_
    refine va_get (D := D) (ci := 4) (v := .ref h_t_ring) (C := "RuleKernels$Row") (T := T_Row) (N := 4) hx hb hts w_i4 hown hK hP 0 rfl rfl 0 (by decide) w_f9 (fun _ h9 => h9) rfl d_Row_leave_34 ?_
    refine va_alen (v := nI 120) hx hb hK hP 1 0 rfl TY.1 rfl d_Row_leave_37 ?_
    refine lv_icmp_ge (tgt := 50) hx hb d_Row_leave_38 (by decide) (fun c_38 => ?_) (fun c_38 => ?_)
    · replace hf := (if_pos c_38).symm.trans hf
      refine lv_iconst (v := 0) hx hb d_Row_leave_50 (by decide) ?_
      exact L51  (t_ring t_head.toNatClampNeg) (0 : Int32) t_head t_size (upd t_waits (t_ring t_head.toNatClampNeg).toNatClampNeg (vp_nar .boolean (0 : Int32))) hf _ _ hP hD hS ls (lv_sub hl [1, 0] rfl)
    · replace hf := (if_neg c_38).symm.trans hf
      refine lv_aload_n hx hb d_Row_leave_41 rfl (lv_at hl 1 rfl) ?_
      refine va_get (D := D) (ci := 4) (v := .int t_head) (C := "RuleKernels$Row") (T := T_Row) (N := 4) hx hb hts w_i4 hown hK hP 0 rfl rfl 2 (by decide) w_f19 (fun _ h9 => h9) rfl d_Row_leave_42 ?_
      refine lv_iconst (v := 1) hx hb d_Row_leave_45 (by decide) ?_
      refine lv_iadd hx hb d_Row_leave_46 ?_
      refine lv_goto (tgt := 51) hx hb d_Row_leave_47 (by decide) ?_
      exact L51  (t_ring t_head.toNatClampNeg) (t_head + (1 : Int32)) t_head t_size (upd t_waits (t_ring t_head.toNatClampNeg).toNatClampNeg (vp_nar .boolean (0 : Int32))) hf _ _ hP hD hS ls (lv_sub hl [1, 0] rfl)
  · replace hf := (if_neg c_4).symm.trans hf
    refine lv_iconst (v := -1) hx hb d_Row_leave_7 (by decide) ?_
    have hu := Option.some.inj hf
    exact m_reti () hx hb hr hlk hK (by rw [← hu]; exact hP) (by rw [← hu]; exact hD) hS hQ hAe (by rw [← hu]) (Nat.le_of_ble_eq_true rfl) (Nat.le_of_ble_eq_true rfl) d_Row_leave_8
set_option maxHeartbeats 4000000 in
set_option maxRecDepth 100000 in
theorem c_Row_copyFrom {l : Launch} {D : va_G} {tys : List (ClassId × FieldType)} {kI kL kZ kR kM : ClassId} {N : Nat} {h_t h_t_ring h_t_waits h_p1 h_p1_ring h_p1_waits : Nat} {t_head : Int32} {t_size : Int32} {t_ring : Nat → Int32} {t_waits : Nat → Int32} {p1_head : Int32} {p1_size : Int32} {p1_ring : Nat → Int32} {p1_waits : Nat → Int32} {u : Int32 × Int32 × (Nat → Int32) × (Nat → Int32)} (TY : mTy tys kI kL kZ kR kM) (hf : p_Row_copyFrom N t_head t_size t_ring t_waits p1_head p1_size p1_ring p1_waits = some u) (sz : Nat) : Met l y_Row_copyFrom ws_Row_copyFrom { frames := 0, cells := 0, slots := 0, locals := 0 } (mPre D tys [.ref h_t, .ref h_p1] [(h_t, .inr (4, [.ref h_t_ring, .ref h_t_waits, .int t_head, .int t_size])), (h_t_ring, .inl (kI, 120, .inl t_ring)), (h_t_waits, .inl (kZ, 120, .inl t_waits)), (h_p1, .inr (4, [.ref h_p1_ring, .ref h_p1_waits, .int p1_head, .int p1_size])), (h_p1_ring, .inl (kI, 120, .inl p1_ring)), (h_p1_waits, .inl (kZ, 120, .inl p1_waits))] sz) (mPost D tys (fun _ : Unit => none) [(h_t, .inr (4, [.ref h_t_ring, .ref h_t_waits, .int t_head, .int t_size])), (h_t_ring, .inl (kI, 120, .inl t_ring)), (h_t_waits, .inl (kZ, 120, .inl t_waits)), (h_p1, .inr (4, [.ref h_p1_ring, .ref h_p1_waits, .int p1_head, .int p1_size])), (h_p1_ring, .inl (kI, 120, .inl p1_ring)), (h_p1_waits, .inl (kZ, 120, .inl p1_waits))] (fun x : Unit => [(h_t, .inr (4, [.ref h_t_ring, .ref h_t_waits, .int u.1, .int u.2.1])), (h_t_ring, .inl (kI, 120, .inl u.2.2.1)), (h_t_waits, .inl (kZ, 120, .inl u.2.2.2)), (h_p1, .inr (4, [.ref h_p1_ring, .ref h_p1_waits, .int p1_head, .int p1_size])), (h_p1_ring, .inl (kI, 120, .inl p1_ring)), (h_p1_waits, .inl (kZ, 120, .inl p1_waits))]) sz) 0 0 (va_A [(h_t, .inr (4, [.ref h_t_ring, .ref h_t_waits, .int t_head, .int t_size])), (h_t_ring, .inl (kI, 120, .inl t_ring)), (h_t_waits, .inl (kZ, 120, .inl t_waits)), (h_p1, .inr (4, [.ref h_p1_ring, .ref h_p1_waits, .int p1_head, .int p1_size])), (h_p1_ring, .inl (kI, 120, .inl p1_ring)), (h_p1_waits, .inl (kZ, 120, .inl p1_waits))] sz) := by
  refine m_ofW (cc := b_Row_copyFrom) (maxL := 3) (ret := none) (by decide) rfl (Nat.le_of_ble_eq_true rfl) ?_ sz
  intro p e s m args below meth c ls Q A hx hb hml hr hts hown hin hlk hK hN hP hD hA hS hl hQ hAe
  have hown : s.vm.findClass "RuleKernels$Row" = some m.cls := hown
  have hl : lv_has ls 3 [(0, .ref h_t), (1, .ref h_p1)] := hl
  have w_f15 := (hts _ (List.mem_cons_of_mem _ tw_158))
  have w_f19 := (hts _ (List.mem_cons_of_mem _ tw_159))
  have w_f23 := (hts _ (List.mem_cons_of_mem _ tw_160))
  have w_f9 := (hts _ (List.mem_cons_of_mem _ tw_157))
  have w_i4 := (fun q h => List.mem_cons_of_mem _ (i_Row q h) : ∀ q ∈ u_ws "RuleKernels$Row" T_Row 4, q ∈ ws_Row_copyFrom)
  have L41 : ∀ (t_head : Int32) (t_size : Int32) (t_ring : Nat → Int32) (t_waits : Nat → Int32), q_Row_copyFrom_41 N p1_head p1_size t_head t_size t_ring t_waits = some u → ∀ (H : Heap) (locs : List Loc), va_P D vwCl [(h_t, .inr (4, [.ref h_t_ring, .ref h_t_waits, .int t_head, .int t_size])), (h_t_ring, .inl (kI, 120, .inl t_ring)), (h_t_waits, .inl (kZ, 120, .inl t_waits)), (h_p1, .inr (4, [.ref h_p1_ring, .ref h_p1_waits, .int p1_head, .int p1_size])), (h_p1_ring, .inl (kI, 120, .inl p1_ring)), (h_p1_waits, .inl (kZ, 120, .inl p1_waits))] H → va_D A [(h_t, .inr (4, [.ref h_t_ring, .ref h_t_waits, .int t_head, .int t_size])), (h_t_ring, .inl (kI, 120, .inl t_ring)), (h_t_waits, .inl (kZ, 120, .inl t_waits)), (h_p1, .inr (4, [.ref h_p1_ring, .ref h_p1_waits, .int p1_head, .int p1_size])), (h_p1_ring, .inl (kI, 120, .inl p1_ring)), (h_p1_waits, .inl (kZ, 120, .inl p1_waits))] → va_S A s.heap H locs → ∀ ls : Array Slot, lv_has ls 3 [(0, .ref h_t), (1, .ref h_p1)] → W p l e { frames := 0, cells := 0, slots := 0, locals := 0 } s m args below meth c H locs 0 0 Q (F0 m 41 ls []) := by
    intro t_head t_size t_ring t_waits hf H locs hP hD hS ls hl
    unfold q_Row_copyFrom_41 at hf
    refine lv_aload_n hx hb d_Row_copyFrom_41 rfl (lv_at hl 0 rfl) ?_
    refine lv_aload_n hx hb d_Row_copyFrom_42 rfl (lv_at hl 1 rfl) ?_
    refine va_get (D := D) (ci := 4) (v := .int p1_head) (C := "RuleKernels$Row") (T := T_Row) (N := 4) hx hb hts w_i4 hown hK hP 3 rfl rfl 2 (by decide) w_f19 (fun _ h9 => h9) rfl d_Row_copyFrom_43 ?_
    refine va_put (D := D) (ci := 4) (v := .int p1_head) (ty := .int) (C := "RuleKernels$Row") (T := T_Row) (N := 4) hx hb hts w_i4 ty_Row ty_Row_ok nm_Row hown hK hP hD hS 0 rfl rfl 2 (by decide) w_f19 (fun _ h9 => h9) rfl (by decide +kernel) rfl rfl (Nat.le_of_ble_eq_true rfl) d_Row_copyFrom_46 (fun H locs hP hD hS => ?_)
    have hP : va_P D vwCl [(h_t, .inr (4, [.ref h_t_ring, .ref h_t_waits, .int p1_head, .int t_size])), (h_t_ring, .inl (kI, 120, .inl t_ring)), (h_t_waits, .inl (kZ, 120, .inl t_waits)), (h_p1, .inr (4, [.ref h_p1_ring, .ref h_p1_waits, .int p1_head, .int p1_size])), (h_p1_ring, .inl (kI, 120, .inl p1_ring)), (h_p1_waits, .inl (kZ, 120, .inl p1_waits))] H := hP
    have hD : va_D A [(h_t, .inr (4, [.ref h_t_ring, .ref h_t_waits, .int p1_head, .int t_size])), (h_t_ring, .inl (kI, 120, .inl t_ring)), (h_t_waits, .inl (kZ, 120, .inl t_waits)), (h_p1, .inr (4, [.ref h_p1_ring, .ref h_p1_waits, .int p1_head, .int p1_size])), (h_p1_ring, .inl (kI, 120, .inl p1_ring)), (h_p1_waits, .inl (kZ, 120, .inl p1_waits))] := hD
    refine lv_aload_n hx hb d_Row_copyFrom_49 rfl (lv_at hl 0 rfl) ?_
    refine lv_aload_n hx hb d_Row_copyFrom_50 rfl (lv_at hl 1 rfl) ?_
    refine va_get (D := D) (ci := 4) (v := .int p1_size) (C := "RuleKernels$Row") (T := T_Row) (N := 4) hx hb hts w_i4 hown hK hP 3 rfl rfl 3 (by decide) w_f23 (fun _ h9 => h9) rfl d_Row_copyFrom_51 ?_
    refine va_put (D := D) (ci := 4) (v := .int p1_size) (ty := .int) (C := "RuleKernels$Row") (T := T_Row) (N := 4) hx hb hts w_i4 ty_Row ty_Row_ok nm_Row hown hK hP hD hS 0 rfl rfl 3 (by decide) w_f23 (fun _ h9 => h9) rfl (by decide +kernel) rfl rfl (Nat.le_of_ble_eq_true rfl) d_Row_copyFrom_54 (fun H locs hP hD hS => ?_)
    have hP : va_P D vwCl [(h_t, .inr (4, [.ref h_t_ring, .ref h_t_waits, .int p1_head, .int p1_size])), (h_t_ring, .inl (kI, 120, .inl t_ring)), (h_t_waits, .inl (kZ, 120, .inl t_waits)), (h_p1, .inr (4, [.ref h_p1_ring, .ref h_p1_waits, .int p1_head, .int p1_size])), (h_p1_ring, .inl (kI, 120, .inl p1_ring)), (h_p1_waits, .inl (kZ, 120, .inl p1_waits))] H := hP
    have hD : va_D A [(h_t, .inr (4, [.ref h_t_ring, .ref h_t_waits, .int p1_head, .int p1_size])), (h_t_ring, .inl (kI, 120, .inl t_ring)), (h_t_waits, .inl (kZ, 120, .inl t_waits)), (h_p1, .inr (4, [.ref h_p1_ring, .ref h_p1_waits, .int p1_head, .int p1_size])), (h_p1_ring, .inl (kI, 120, .inl p1_ring)), (h_p1_waits, .inl (kZ, 120, .inl p1_waits))] := hD
    have hu := Option.some.inj hf
    exact m_retv () hx hb hr hlk hK (by rw [← hu]; exact hP) (by rw [← hu]; exact hD) hS hQ hAe rfl (Nat.le_of_ble_eq_true rfl) (Nat.le_of_ble_eq_true rfl) d_Row_copyFrom_57
  have L2 : ∀ n : Nat, ∀ (x2 : Int32) (t_head : Int32) (t_size : Int32) (t_ring : Nat → Int32) (t_waits : Nat → Int32), q_Row_copyFrom_2 N p1_head p1_size p1_ring p1_waits n x2 t_head t_size t_ring t_waits = some u → ∀ (H : Heap) (locs : List Loc), va_P D vwCl [(h_t, .inr (4, [.ref h_t_ring, .ref h_t_waits, .int t_head, .int t_size])), (h_t_ring, .inl (kI, 120, .inl t_ring)), (h_t_waits, .inl (kZ, 120, .inl t_waits)), (h_p1, .inr (4, [.ref h_p1_ring, .ref h_p1_waits, .int p1_head, .int p1_size])), (h_p1_ring, .inl (kI, 120, .inl p1_ring)), (h_p1_waits, .inl (kZ, 120, .inl p1_waits))] H → va_D A [(h_t, .inr (4, [.ref h_t_ring, .ref h_t_waits, .int t_head, .int t_size])), (h_t_ring, .inl (kI, 120, .inl t_ring)), (h_t_waits, .inl (kZ, 120, .inl t_waits)), (h_p1, .inr (4, [.ref h_p1_ring, .ref h_p1_waits, .int p1_head, .int p1_size])), (h_p1_ring, .inl (kI, 120, .inl p1_ring)), (h_p1_waits, .inl (kZ, 120, .inl p1_waits))] → va_S A s.heap H locs → ∀ ls : Array Slot, lv_has ls 3 [(0, .ref h_t), (1, .ref h_p1), (2, .int x2)] → W p l e { frames := 0, cells := 0, slots := 0, locals := 0 } s m args below meth c H locs 0 0 Q (F0 m 2 ls []) := by
    intro n
    induction n with
    | zero =>
      intro x2 t_head t_size t_ring t_waits hf
      exact nomatch (show (none : Option (Int32 × Int32 × (Nat → Int32) × (Nat → Int32))) = some _ from hf)
    | succ n ih =>
      intro x2 t_head t_size t_ring t_waits hf H locs hP hD hS ls hl
      rw [q_Row_copyFrom_2] at hf
      refine lv_iload_n hx hb d_Row_copyFrom_2 rfl (lv_at hl 2 rfl) ?_
      refine lv_aload_n hx hb d_Row_copyFrom_3 rfl (lv_at hl 0 rfl) ?_
      refine va_get (D := D) (ci := 4) (v := .ref h_t_ring) (C := "RuleKernels$Row") (T := T_Row) (N := 4) hx hb hts w_i4 hown hK hP 0 rfl rfl 0 (by decide) w_f9 (fun _ h9 => h9) rfl d_Row_copyFrom_4 ?_
      refine va_alen (v := nI 120) hx hb hK hP 1 0 rfl TY.1 rfl d_Row_copyFrom_7 ?_
      refine lv_icmp_ge (tgt := 41) hx hb d_Row_copyFrom_8 (by decide) (fun c_8 => ?_) (fun c_8 => ?_)
      · replace hf := (if_pos c_8).symm.trans hf
        exact L41  t_head t_size t_ring t_waits hf _ _ hP hD hS ls (lv_sub hl [0, 1] rfl)
      · replace hf := (if_neg c_8).symm.trans hf
        refine lv_aload_n hx hb d_Row_copyFrom_11 rfl (lv_at hl 0 rfl) ?_
        refine va_get (D := D) (ci := 4) (v := .ref h_t_ring) (C := "RuleKernels$Row") (T := T_Row) (N := 4) hx hb hts w_i4 hown hK hP 0 rfl rfl 0 (by decide) w_f9 (fun _ h9 => h9) rfl d_Row_copyFrom_12 ?_
        refine lv_iload_n hx hb d_Row_copyFrom_15 rfl (lv_at hl 2 rfl) ?_
        refine lv_aload_n hx hb d_Row_copyFrom_16 rfl (lv_at hl 1 rfl) ?_
        refine va_get (D := D) (ci := 4) (v := .ref h_p1_ring) (C := "RuleKernels$Row") (T := T_Row) (N := 4) hx hb hts w_i4 hown hK hP 3 rfl rfl 0 (by decide) w_f9 (fun _ h9 => h9) rfl d_Row_copyFrom_17 ?_
        refine lv_iload_n hx hb d_Row_copyFrom_20 rfl (lv_at hl 2 rfl) ?_
        obtain ⟨h_21, hf⟩ := jin_some hf
        refine va_iald hx hb hK hP 4 0 rfl TY.1 h_21 d_Row_copyFrom_21 ?_
        obtain ⟨h_22, hf⟩ := jin_some hf
        refine va_iast hx hb hK hP hD hS 1 0 rfl TY.1 h_22 d_Row_copyFrom_22 (fun H locs hP hD hS => ?_)
        have hP : va_P D vwCl [(h_t, .inr (4, [.ref h_t_ring, .ref h_t_waits, .int t_head, .int t_size])), (h_t_ring, .inl (kI, 120, .inl (upd t_ring x2.toNatClampNeg (p1_ring x2.toNatClampNeg)))), (h_t_waits, .inl (kZ, 120, .inl t_waits)), (h_p1, .inr (4, [.ref h_p1_ring, .ref h_p1_waits, .int p1_head, .int p1_size])), (h_p1_ring, .inl (kI, 120, .inl p1_ring)), (h_p1_waits, .inl (kZ, 120, .inl p1_waits))] H := hP
        have hD : va_D A [(h_t, .inr (4, [.ref h_t_ring, .ref h_t_waits, .int t_head, .int t_size])), (h_t_ring, .inl (kI, 120, .inl (upd t_ring x2.toNatClampNeg (p1_ring x2.toNatClampNeg)))), (h_t_waits, .inl (kZ, 120, .inl t_waits)), (h_p1, .inr (4, [.ref h_p1_ring, .ref h_p1_waits, .int p1_head, .int p1_size])), (h_p1_ring, .inl (kI, 120, .inl p1_ring)), (h_p1_waits, .inl (kZ, 120, .inl p1_waits))] := hD
        refine lv_aload_n hx hb d_Row_copyFrom_23 rfl (lv_at hl 0 rfl) ?_
        refine va_get (D := D) (ci := 4) (v := .ref h_t_waits) (C := "RuleKernels$Row") (T := T_Row) (N := 4) hx hb hts w_i4 hown hK hP 0 rfl rfl 1 (by decide) w_f15 (fun _ h9 => h9) rfl d_Row_copyFrom_24 ?_
        refine lv_iload_n hx hb d_Row_copyFrom_27 rfl (lv_at hl 2 rfl) ?_
        refine lv_aload_n hx hb d_Row_copyFrom_28 rfl (lv_at hl 1 rfl) ?_
        refine va_get (D := D) (ci := 4) (v := .ref h_p1_waits) (C := "RuleKernels$Row") (T := T_Row) (N := 4) hx hb hts w_i4 hown hK hP 3 rfl rfl 1 (by decide) w_f15 (fun _ h9 => h9) rfl d_Row_copyFrom_29 ?_
        refine lv_iload_n hx hb d_Row_copyFrom_32 rfl (lv_at hl 2 rfl) ?_
        obtain ⟨h_33, hf⟩ := jin_some hf
        refine va_zald hx hb hK hP 5 2 rfl TY.2.2.1 h_33 d_Row_copyFrom_33 ?_
        obtain ⟨h_34, hf⟩ := jin_some hf
        refine va_zast hx hb hK hP hD hS 2 2 rfl TY.2.2.1 h_34 d_Row_copyFrom_34 (fun H locs hP hD hS => ?_)
        have hP : va_P D vwCl [(h_t, .inr (4, [.ref h_t_ring, .ref h_t_waits, .int t_head, .int t_size])), (h_t_ring, .inl (kI, 120, .inl (upd t_ring x2.toNatClampNeg (p1_ring x2.toNatClampNeg)))), (h_t_waits, .inl (kZ, 120, .inl (upd t_waits x2.toNatClampNeg (vp_nar .boolean (p1_waits x2.toNatClampNeg))))), (h_p1, .inr (4, [.ref h_p1_ring, .ref h_p1_waits, .int p1_head, .int p1_size])), (h_p1_ring, .inl (kI, 120, .inl p1_ring)), (h_p1_waits, .inl (kZ, 120, .inl p1_waits))] H := hP
        have hD : va_D A [(h_t, .inr (4, [.ref h_t_ring, .ref h_t_waits, .int t_head, .int t_size])), (h_t_ring, .inl (kI, 120, .inl (upd t_ring x2.toNatClampNeg (p1_ring x2.toNatClampNeg)))), (h_t_waits, .inl (kZ, 120, .inl (upd t_waits x2.toNatClampNeg (vp_nar .boolean (p1_waits x2.toNatClampNeg))))), (h_p1, .inr (4, [.ref h_p1_ring, .ref h_p1_waits, .int p1_head, .int p1_size])), (h_p1_ring, .inl (kI, 120, .inl p1_ring)), (h_p1_waits, .inl (kZ, 120, .inl p1_waits))] := hD
        refine lv_iinc (v := (x2 + 1)) (lv' := [(2, .int (x2 + 1)), (0, .ref h_t), (1, .ref h_p1)]) hx hb d_Row_copyFrom_35 hl (k := 2) rfl rfl (by decide) rfl (fun ls hl => ?_)
        refine lv_goto (tgt := 2) hx hb d_Row_copyFrom_38 (by decide) ?_
        exact ih (x2 + 1) t_head t_size (upd t_ring x2.toNatClampNeg (p1_ring x2.toNatClampNeg)) (upd t_waits x2.toNatClampNeg (vp_nar .boolean (p1_waits x2.toNatClampNeg))) hf _ _ hP hD hS ls (lv_sub hl [1, 2, 0] rfl)
  unfold p_Row_copyFrom at hf
  refine lv_iconst (v := 0) hx hb d_Row_copyFrom_0 (by decide) ?_
  refine lv_istore_n (lv' := [(2, .int (0 : Int32)), (0, .ref h_t), (1, .ref h_p1)]) hx hb d_Row_copyFrom_1 rfl hl (by decide) rfl (fun ls hl => ?_)
  exact L2  N (0 : Int32) t_head t_size t_ring t_waits hf _ _ hP hD hS ls (lv_sub hl [1, 2, 0] rfl)
set_option maxHeartbeats 4000000 in
set_option maxRecDepth 100000 in
theorem c_Told_clear {l : Launch} {D : va_G} {tys : List (ClassId × FieldType)} {kI kL kZ kR kM : ClassId} {N : Nat} {h_t h_t_numbers : Nat} {t_count : Int32} {u : Int32} (TY : mTy tys kI kL kZ kR kM) (hf : p_Told_clear N = some u) (sz : Nat) : Met l y_Told_clear ws_Told_clear { frames := 0, cells := 0, slots := 0, locals := 0 } (mPre D tys [.ref h_t] [(h_t, .inr (6, [.ref h_t_numbers, .int t_count]))] sz) (mPost D tys (fun _ : Unit => none) [(h_t, .inr (6, [.ref h_t_numbers, .int t_count]))] (fun x : Unit => [(h_t, .inr (6, [.ref h_t_numbers, .int u]))]) sz) 0 0 (va_A [(h_t, .inr (6, [.ref h_t_numbers, .int t_count]))] sz) := by
  refine m_ofW (cc := b_Told_clear) (maxL := 1) (ret := none) (by decide) rfl (Nat.le_of_ble_eq_true rfl) ?_ sz
  intro p e s m args below meth c ls Q A hx hb hml hr hts hown hin hlk hK hN hP hD hA hS hl hQ hAe
  have hown : s.vm.findClass "RuleKernels$Told" = some m.cls := hown
  have hl : lv_has ls 1 [(0, .ref h_t)] := hl
  have w_f15 := (hts _ (List.mem_cons_of_mem _ tw_179))
  have w_i6 := (fun q h => List.mem_cons_of_mem _ (i_Told q h) : ∀ q ∈ u_ws "RuleKernels$Told" T_Told 2, q ∈ ws_Told_clear)
  unfold p_Told_clear at hf
  refine lv_aload_n hx hb d_Told_clear_0 rfl (lv_at hl 0 rfl) ?_
  refine lv_iconst (v := 0) hx hb d_Told_clear_1 (by decide) ?_
  refine va_put (D := D) (ci := 6) (v := .int (0 : Int32)) (ty := .int) (C := "RuleKernels$Told") (T := T_Told) (N := 2) hx hb hts w_i6 ty_Told ty_Told_ok nm_Told hown hK hP hD hS 0 rfl rfl 1 (by decide) w_f15 (fun _ h9 => h9) rfl (by decide +kernel) rfl rfl (Nat.le_of_ble_eq_true rfl) d_Told_clear_2 (fun H locs hP hD hS => ?_)
  have hP : va_P D vwCl [(h_t, .inr (6, [.ref h_t_numbers, .int (0 : Int32)]))] H := hP
  have hD : va_D A [(h_t, .inr (6, [.ref h_t_numbers, .int (0 : Int32)]))] := hD
  have hu := Option.some.inj hf
  exact m_retv () hx hb hr hlk hK (by rw [← hu]; exact hP) (by rw [← hu]; exact hD) hS hQ hAe rfl (Nat.le_of_ble_eq_true rfl) (Nat.le_of_ble_eq_true rfl) d_Told_clear_5
set_option maxHeartbeats 4000000 in
set_option maxRecDepth 100000 in
theorem c_Told_add {l : Launch} {D : va_G} {tys : List (ClassId × FieldType)} {kI kL kZ kR kM : ClassId} {N : Nat} {h_t h_t_numbers : Nat} {t_count : Int32} {t_numbers : Nat → Int32} {a1 : Int32} {u : Int32 × (Nat → Int32)} (TY : mTy tys kI kL kZ kR kM) (hf : p_Told_add N t_count t_numbers a1 = some u) (sz : Nat) : Met l y_Told_add ws_Told_add { frames := 0, cells := 0, slots := 0, locals := 0 } (mPre D tys [.ref h_t, .int a1] [(h_t, .inr (6, [.ref h_t_numbers, .int t_count])), (h_t_numbers, .inl (kI, 1000, .inl t_numbers))] sz) (mPost D tys (fun _ : Unit => none) [(h_t, .inr (6, [.ref h_t_numbers, .int t_count])), (h_t_numbers, .inl (kI, 1000, .inl t_numbers))] (fun x : Unit => [(h_t, .inr (6, [.ref h_t_numbers, .int u.1])), (h_t_numbers, .inl (kI, 1000, .inl u.2))]) sz) 0 0 (va_A [(h_t, .inr (6, [.ref h_t_numbers, .int t_count])), (h_t_numbers, .inl (kI, 1000, .inl t_numbers))] sz) := by
  refine m_ofW (cc := b_Told_add) (maxL := 2) (ret := none) (by decide) rfl (Nat.le_of_ble_eq_true rfl) ?_ sz
  intro p e s m args below meth c ls Q A hx hb hml hr hts hown hin hlk hK hN hP hD hA hS hl hQ hAe
  have hown : s.vm.findClass "RuleKernels$Told" = some m.cls := hown
  have hl : lv_has ls 2 [(0, .ref h_t), (1, .int a1)] := hl
  have w_f15 := (hts _ (List.mem_cons_of_mem _ tw_179))
  have w_f9 := (hts _ (List.mem_cons_of_mem _ tw_178))
  have w_i6 := (fun q h => List.mem_cons_of_mem _ (i_Told q h) : ∀ q ∈ u_ws "RuleKernels$Told" T_Told 2, q ∈ ws_Told_add)
  have L22 : ∀ (t_count : Int32) (t_numbers : Nat → Int32), q_Told_add_22 N t_count t_numbers = some u → ∀ (H : Heap) (locs : List Loc), va_P D vwCl [(h_t, .inr (6, [.ref h_t_numbers, .int t_count])), (h_t_numbers, .inl (kI, 1000, .inl t_numbers))] H → va_D A [(h_t, .inr (6, [.ref h_t_numbers, .int t_count])), (h_t_numbers, .inl (kI, 1000, .inl t_numbers))] → va_S A s.heap H locs → ∀ ls : Array Slot, lv_has ls 2 [(0, .ref h_t)] → W p l e { frames := 0, cells := 0, slots := 0, locals := 0 } s m args below meth c H locs 0 0 Q (F0 m 22 ls []) := by
    intro t_count t_numbers hf H locs hP hD hS ls hl
    unfold q_Told_add_22 at hf
    refine lv_aload_n hx hb d_Told_add_22 rfl (lv_at hl 0 rfl) ?_
    refine lv_dup hx hb d_Told_add_23 rfl ?_
    refine va_get (D := D) (ci := 6) (v := .int t_count) (C := "RuleKernels$Told") (T := T_Told) (N := 2) hx hb hts w_i6 hown hK hP 0 rfl rfl 1 (by decide) w_f15 (fun _ h9 => h9) rfl d_Told_add_24 ?_
    refine lv_iconst (v := 1) hx hb d_Told_add_27 (by decide) ?_
    refine lv_iadd hx hb d_Told_add_28 ?_
    refine va_put (D := D) (ci := 6) (v := .int (t_count + (1 : Int32))) (ty := .int) (C := "RuleKernels$Told") (T := T_Told) (N := 2) hx hb hts w_i6 ty_Told ty_Told_ok nm_Told hown hK hP hD hS 0 rfl rfl 1 (by decide) w_f15 (fun _ h9 => h9) rfl (by decide +kernel) rfl rfl (Nat.le_of_ble_eq_true rfl) d_Told_add_29 (fun H locs hP hD hS => ?_)
    have hP : va_P D vwCl [(h_t, .inr (6, [.ref h_t_numbers, .int (t_count + (1 : Int32))])), (h_t_numbers, .inl (kI, 1000, .inl t_numbers))] H := hP
    have hD : va_D A [(h_t, .inr (6, [.ref h_t_numbers, .int (t_count + (1 : Int32))])), (h_t_numbers, .inl (kI, 1000, .inl t_numbers))] := hD
    have hu := Option.some.inj hf
    exact m_retv () hx hb hr hlk hK (by rw [← hu]; exact hP) (by rw [← hu]; exact hD) hS hQ hAe rfl (Nat.le_of_ble_eq_true rfl) (Nat.le_of_ble_eq_true rfl) d_Told_add_32
  unfold p_Told_add at hf
  refine lv_aload_n hx hb d_Told_add_0 rfl (lv_at hl 0 rfl) ?_
  refine va_get (D := D) (ci := 6) (v := .int t_count) (C := "RuleKernels$Told") (T := T_Told) (N := 2) hx hb hts w_i6 hown hK hP 0 rfl rfl 1 (by decide) w_f15 (fun _ h9 => h9) rfl d_Told_add_1 ?_
  refine lv_aload_n hx hb d_Told_add_4 rfl (lv_at hl 0 rfl) ?_
  refine va_get (D := D) (ci := 6) (v := .ref h_t_numbers) (C := "RuleKernels$Told") (T := T_Told) (N := 2) hx hb hts w_i6 hown hK hP 0 rfl rfl 0 (by decide) w_f9 (fun _ h9 => h9) rfl d_Told_add_5 ?_
  refine va_alen (v := nI 1000) hx hb hK hP 1 0 rfl TY.1 rfl d_Told_add_8 ?_
  refine lv_icmp_ge (tgt := 22) hx hb d_Told_add_9 (by decide) (fun c_9 => ?_) (fun c_9 => ?_)
  · replace hf := (if_pos c_9).symm.trans hf
    exact L22  t_count t_numbers hf _ _ hP hD hS ls (lv_sub hl [0] rfl)
  · replace hf := (if_neg c_9).symm.trans hf
    refine lv_aload_n hx hb d_Told_add_12 rfl (lv_at hl 0 rfl) ?_
    refine va_get (D := D) (ci := 6) (v := .ref h_t_numbers) (C := "RuleKernels$Told") (T := T_Told) (N := 2) hx hb hts w_i6 hown hK hP 0 rfl rfl 0 (by decide) w_f9 (fun _ h9 => h9) rfl d_Told_add_13 ?_
    refine lv_aload_n hx hb d_Told_add_16 rfl (lv_at hl 0 rfl) ?_
    refine va_get (D := D) (ci := 6) (v := .int t_count) (C := "RuleKernels$Told") (T := T_Told) (N := 2) hx hb hts w_i6 hown hK hP 0 rfl rfl 1 (by decide) w_f15 (fun _ h9 => h9) rfl d_Told_add_17 ?_
    refine lv_iload_n hx hb d_Told_add_20 rfl (lv_at hl 1 rfl) ?_
    obtain ⟨h_21, hf⟩ := jin_some hf
    refine va_iast hx hb hK hP hD hS 1 0 rfl TY.1 h_21 d_Told_add_21 (fun H locs hP hD hS => ?_)
    have hP : va_P D vwCl [(h_t, .inr (6, [.ref h_t_numbers, .int t_count])), (h_t_numbers, .inl (kI, 1000, .inl (upd t_numbers t_count.toNatClampNeg a1)))] H := hP
    have hD : va_D A [(h_t, .inr (6, [.ref h_t_numbers, .int t_count])), (h_t_numbers, .inl (kI, 1000, .inl (upd t_numbers t_count.toNatClampNeg a1)))] := hD
    exact L22  t_count (upd t_numbers t_count.toNatClampNeg a1) hf _ _ hP hD hS ls (lv_sub hl [0] rfl)
set_option maxHeartbeats 4000000 in
set_option maxRecDepth 100000 in
theorem c_Told_ruleAt {l : Launch} {D : va_G} {tys : List (ClassId × FieldType)} {kI kL kZ kR kM : ClassId} {N : Nat} {h_t h_t_numbers : Nat} {t_count : Int32} {t_numbers : Nat → Int32} {a1 : Int32} {u : Int32} (TY : mTy tys kI kL kZ kR kM) (hf : p_Told_ruleAt N t_count t_numbers a1 = some u) (sz : Nat) : Met l y_Told_ruleAt ws_Told_ruleAt { frames := 0, cells := 0, slots := 0, locals := 0 } (mPre D tys [.ref h_t, .int a1] [(h_t, .inr (6, [.ref h_t_numbers, .int t_count])), (h_t_numbers, .inl (kI, 1000, .inl t_numbers))] sz) (mPost D tys (fun _ : Unit => some (.int u)) [(h_t, .inr (6, [.ref h_t_numbers, .int t_count])), (h_t_numbers, .inl (kI, 1000, .inl t_numbers))] (fun x : Unit => [(h_t, .inr (6, [.ref h_t_numbers, .int t_count])), (h_t_numbers, .inl (kI, 1000, .inl t_numbers))]) sz) 0 0 (va_A [(h_t, .inr (6, [.ref h_t_numbers, .int t_count])), (h_t_numbers, .inl (kI, 1000, .inl t_numbers))] sz) := by
  refine m_ofW (cc := b_Told_ruleAt) (maxL := 2) (ret := (some .int)) (by decide) rfl (Nat.le_of_ble_eq_true rfl) ?_ sz
  intro p e s m args below meth c ls Q A hx hb hml hr hts hown hin hlk hK hN hP hD hA hS hl hQ hAe
  have hown : s.vm.findClass "RuleKernels$Told" = some m.cls := hown
  have hl : lv_has ls 2 [(0, .ref h_t), (1, .int a1)] := hl
  have w_f15 := (hts _ (List.mem_cons_of_mem _ tw_179))
  have w_f9 := (hts _ (List.mem_cons_of_mem _ tw_178))
  have w_i6 := (fun q h => List.mem_cons_of_mem _ (i_Told q h) : ∀ q ∈ u_ws "RuleKernels$Told" T_Told 2, q ∈ ws_Told_ruleAt)
  unfold p_Told_ruleAt at hf
  refine lv_iload_n hx hb d_Told_ruleAt_0 rfl (lv_at hl 1 rfl) ?_
  refine lv_if_lt (tgt := 30) hx hb d_Told_ruleAt_1 (by decide) (fun c_1 => ?_) (fun c_1 => ?_)
  · replace hf := (if_pos c_1).symm.trans hf
    refine lv_iconst (v := -1) hx hb d_Told_ruleAt_30 (by decide) ?_
    have hu := Option.some.inj hf
    exact m_reti () hx hb hr hlk hK hP hD hS hQ hAe (by rw [← hu]) (Nat.le_of_ble_eq_true rfl) (Nat.le_of_ble_eq_true rfl) d_Told_ruleAt_31
  · replace hf := (if_neg c_1).symm.trans hf
    refine lv_iload_n hx hb d_Told_ruleAt_4 rfl (lv_at hl 1 rfl) ?_
    refine lv_aload_n hx hb d_Told_ruleAt_5 rfl (lv_at hl 0 rfl) ?_
    refine va_get (D := D) (ci := 6) (v := .int t_count) (C := "RuleKernels$Told") (T := T_Told) (N := 2) hx hb hts w_i6 hown hK hP 0 rfl rfl 1 (by decide) w_f15 (fun _ h9 => h9) rfl d_Told_ruleAt_6 ?_
    refine lv_icmp_ge (tgt := 30) hx hb d_Told_ruleAt_9 (by decide) (fun c_9 => ?_) (fun c_9 => ?_)
    · replace hf := (if_pos c_9).symm.trans hf
      refine lv_iconst (v := -1) hx hb d_Told_ruleAt_30 (by decide) ?_
      have hu := Option.some.inj hf
      exact m_reti () hx hb hr hlk hK hP hD hS hQ hAe (by rw [← hu]) (Nat.le_of_ble_eq_true rfl) (Nat.le_of_ble_eq_true rfl) d_Told_ruleAt_31
    · replace hf := (if_neg c_9).symm.trans hf
      refine lv_iload_n hx hb d_Told_ruleAt_12 rfl (lv_at hl 1 rfl) ?_
      refine lv_aload_n hx hb d_Told_ruleAt_13 rfl (lv_at hl 0 rfl) ?_
      refine va_get (D := D) (ci := 6) (v := .ref h_t_numbers) (C := "RuleKernels$Told") (T := T_Told) (N := 2) hx hb hts w_i6 hown hK hP 0 rfl rfl 0 (by decide) w_f9 (fun _ h9 => h9) rfl d_Told_ruleAt_14 ?_
      refine va_alen (v := nI 1000) hx hb hK hP 1 0 rfl TY.1 rfl d_Told_ruleAt_17 ?_
      refine lv_icmp_ge (tgt := 30) hx hb d_Told_ruleAt_18 (by decide) (fun c_18 => ?_) (fun c_18 => ?_)
      · replace hf := (if_pos c_18).symm.trans hf
        refine lv_iconst (v := -1) hx hb d_Told_ruleAt_30 (by decide) ?_
        have hu := Option.some.inj hf
        exact m_reti () hx hb hr hlk hK hP hD hS hQ hAe (by rw [← hu]) (Nat.le_of_ble_eq_true rfl) (Nat.le_of_ble_eq_true rfl) d_Told_ruleAt_31
      · replace hf := (if_neg c_18).symm.trans hf
        refine lv_aload_n hx hb d_Told_ruleAt_21 rfl (lv_at hl 0 rfl) ?_
        refine va_get (D := D) (ci := 6) (v := .ref h_t_numbers) (C := "RuleKernels$Told") (T := T_Told) (N := 2) hx hb hts w_i6 hown hK hP 0 rfl rfl 0 (by decide) w_f9 (fun _ h9 => h9) rfl d_Told_ruleAt_22 ?_
        refine lv_iload_n hx hb d_Told_ruleAt_25 rfl (lv_at hl 1 rfl) ?_
        obtain ⟨h_26, hf⟩ := jin_some hf
        refine va_iald hx hb hK hP 1 0 rfl TY.1 h_26 d_Told_ruleAt_26 ?_
        refine lv_goto (tgt := 31) hx hb d_Told_ruleAt_27 (by decide) ?_
        have hu := Option.some.inj hf
        exact m_reti () hx hb hr hlk hK hP hD hS hQ hAe (by rw [← hu]) (Nat.le_of_ble_eq_true rfl) (Nat.le_of_ble_eq_true rfl) d_Told_ruleAt_31
set_option maxHeartbeats 4000000 in
set_option maxRecDepth 100000 in
theorem c_Told_copyFrom {l : Launch} {D : va_G} {tys : List (ClassId × FieldType)} {kI kL kZ kR kM : ClassId} {N : Nat} {h_t h_t_numbers h_p1 h_p1_numbers : Nat} {t_count : Int32} {t_numbers : Nat → Int32} {p1_count : Int32} {p1_numbers : Nat → Int32} {u : Int32 × (Nat → Int32)} (TY : mTy tys kI kL kZ kR kM) (hf : p_Told_copyFrom N t_numbers p1_count p1_numbers = some u) (sz : Nat) : Met l y_Told_copyFrom ws_Told_copyFrom { frames := 1, cells := 0, slots := 0, locals := 48 } (mPre D tys [.ref h_t, .ref h_p1] [(h_t, .inr (6, [.ref h_t_numbers, .int t_count])), (h_t_numbers, .inl (kI, 1000, .inl t_numbers)), (h_p1, .inr (6, [.ref h_p1_numbers, .int p1_count])), (h_p1_numbers, .inl (kI, 1000, .inl p1_numbers))] sz) (mPost D tys (fun _ : Unit => none) [(h_t, .inr (6, [.ref h_t_numbers, .int t_count])), (h_t_numbers, .inl (kI, 1000, .inl t_numbers)), (h_p1, .inr (6, [.ref h_p1_numbers, .int p1_count])), (h_p1_numbers, .inl (kI, 1000, .inl p1_numbers))] (fun x : Unit => [(h_t, .inr (6, [.ref h_t_numbers, .int u.1])), (h_t_numbers, .inl (kI, 1000, .inl u.2)), (h_p1, .inr (6, [.ref h_p1_numbers, .int p1_count])), (h_p1_numbers, .inl (kI, 1000, .inl p1_numbers))]) sz) 0 0 (va_A [(h_t, .inr (6, [.ref h_t_numbers, .int t_count])), (h_t_numbers, .inl (kI, 1000, .inl t_numbers)), (h_p1, .inr (6, [.ref h_p1_numbers, .int p1_count])), (h_p1_numbers, .inl (kI, 1000, .inl p1_numbers))] sz) := by
  refine m_ofW (cc := b_Told_copyFrom) (maxL := 2) (ret := none) (by decide) rfl (Nat.le_of_ble_eq_true rfl) ?_ sz
  intro p e s m args below meth c ls Q A hx hb hml hr hts hown hin hlk hK hN hP hD hA hS hl hQ hAe
  have hown : s.vm.findClass "RuleKernels$Told" = some m.cls := hown
  have hl : lv_has ls 2 [(0, .ref h_t), (1, .ref h_p1)] := hl
  have w_f15 := (hts _ (List.mem_cons_of_mem _ tw_179))
  have w_f9 := (hts _ (List.mem_cons_of_mem _ tw_178))
  have w_i6 := (fun q h => List.mem_cons_of_mem _ (i_Told q h) : ∀ q ∈ u_ws "RuleKernels$Told" T_Told 2, q ∈ ws_Told_copyFrom)
  unfold p_Told_copyFrom at hf
  refine lv_aload_n hx hb d_Told_copyFrom_0 rfl (lv_at hl 0 rfl) ?_
  refine lv_aload_n hx hb d_Told_copyFrom_1 rfl (lv_at hl 1 rfl) ?_
  refine va_get (D := D) (ci := 6) (v := .int p1_count) (C := "RuleKernels$Told") (T := T_Told) (N := 2) hx hb hts w_i6 hown hK hP 2 rfl rfl 1 (by decide) w_f15 (fun _ h9 => h9) rfl d_Told_copyFrom_2 ?_
  refine va_put (D := D) (ci := 6) (v := .int p1_count) (ty := .int) (C := "RuleKernels$Told") (T := T_Told) (N := 2) hx hb hts w_i6 ty_Told ty_Told_ok nm_Told hown hK hP hD hS 0 rfl rfl 1 (by decide) w_f15 (fun _ h9 => h9) rfl (by decide +kernel) rfl rfl (Nat.le_of_ble_eq_true rfl) d_Told_copyFrom_5 (fun H locs hP hD hS => ?_)
  have hP : va_P D vwCl [(h_t, .inr (6, [.ref h_t_numbers, .int p1_count])), (h_t_numbers, .inl (kI, 1000, .inl t_numbers)), (h_p1, .inr (6, [.ref h_p1_numbers, .int p1_count])), (h_p1_numbers, .inl (kI, 1000, .inl p1_numbers))] H := hP
  have hD : va_D A [(h_t, .inr (6, [.ref h_t_numbers, .int p1_count])), (h_t_numbers, .inl (kI, 1000, .inl t_numbers)), (h_p1, .inr (6, [.ref h_p1_numbers, .int p1_count])), (h_p1_numbers, .inl (kI, 1000, .inl p1_numbers))] := hD
  refine lv_aload_n hx hb d_Told_copyFrom_8 rfl (lv_at hl 1 rfl) ?_
  refine va_get (D := D) (ci := 6) (v := .ref h_p1_numbers) (C := "RuleKernels$Told") (T := T_Told) (N := 2) hx hb hts w_i6 hown hK hP 2 rfl rfl 0 (by decide) w_f9 (fun _ h9 => h9) rfl d_Told_copyFrom_9 ?_
  refine lv_iconst (v := 0) hx hb d_Told_copyFrom_12 (by decide) ?_
  refine lv_aload_n hx hb d_Told_copyFrom_13 rfl (lv_at hl 0 rfl) ?_
  refine va_get (D := D) (ci := 6) (v := .ref h_t_numbers) (C := "RuleKernels$Told") (T := T_Told) (N := 2) hx hb hts w_i6 hown hK hP 0 rfl rfl 0 (by decide) w_f9 (fun _ h9 => h9) rfl d_Told_copyFrom_14 ?_
  refine lv_iconst (v := 0) hx hb d_Told_copyFrom_17 (by decide) ?_
  refine lv_aload_n hx hb d_Told_copyFrom_18 rfl (lv_at hl 0 rfl) ?_
  refine va_get (D := D) (ci := 6) (v := .int p1_count) (C := "RuleKernels$Told") (T := T_Told) (N := 2) hx hb hts w_i6 hown hK hP 0 rfl rfl 1 (by decide) w_f15 (fun _ h9 => h9) rfl d_Told_copyFrom_19 ?_
  refine lv_aload_n hx hb d_Told_copyFrom_22 rfl (lv_at hl 0 rfl) ?_
  refine va_get (D := D) (ci := 6) (v := .ref h_t_numbers) (C := "RuleKernels$Told") (T := T_Told) (N := 2) hx hb hts w_i6 hown hK hP 0 rfl rfl 0 (by decide) w_f9 (fun _ h9 => h9) rfl d_Told_copyFrom_23 ?_
  refine va_alen (v := nI 1000) hx hb hK hP 1 0 rfl TY.1 rfl d_Told_copyFrom_26 ?_
  refine va_mmin hx hb (hml.trans hl.1.symm) hown (hts _ (List.mem_cons_of_mem _ tw_509)) (hts _ (List.mem_cons_of_mem _ tw_64)) (hts _ (List.mem_cons_of_mem _ tw_42)) (hts _ (List.mem_cons_of_mem _ tc_mmin)) (Nat.le_of_ble_eq_true rfl) (Nat.le_of_ble_eq_true rfl) (Nat.le_of_ble_eq_true rfl) (Nat.le_of_ble_eq_true rfl) d_Told_copyFrom_27 ?_
  obtain ⟨h_30, hf⟩ := jcp_some hf
  refine va_copyi (ty := .int) hx hb (hml.trans hl.1.symm) hown (hts _ (List.mem_cons_of_mem _ tw_510)) (hts _ (List.mem_cons_of_mem _ tw_361)) (hts _ (List.mem_cons_of_mem _ tw_360)) (hts _ (List.mem_cons_of_mem _ tw_51)) hK hP hD hS 3 1 0 0 rfl rfl TY.1 TY.1 rfl h_30.1 h_30.2.1 h_30.2.2.1 h_30.2.2.2.1 h_30.2.2.2.2 (fun _ _ => rfl) (Nat.le_of_ble_eq_true rfl) (Nat.le_of_ble_eq_true rfl) d_Told_copyFrom_30 (fun H locs hP hD hS => ?_)
  have hP : va_P D vwCl [(h_t, .inr (6, [.ref h_t_numbers, .int p1_count])), (h_t_numbers, .inl (kI, 1000, .inl (va_cpy p1_numbers t_numbers (0 : Int32).toNatClampNeg (0 : Int32).toNatClampNeg (if (nI 1000) < p1_count then (nI 1000) else p1_count).toNatClampNeg))), (h_p1, .inr (6, [.ref h_p1_numbers, .int p1_count])), (h_p1_numbers, .inl (kI, 1000, .inl p1_numbers))] H := hP
  have hD : va_D A [(h_t, .inr (6, [.ref h_t_numbers, .int p1_count])), (h_t_numbers, .inl (kI, 1000, .inl (va_cpy p1_numbers t_numbers (0 : Int32).toNatClampNeg (0 : Int32).toNatClampNeg (if (nI 1000) < p1_count then (nI 1000) else p1_count).toNatClampNeg))), (h_p1, .inr (6, [.ref h_p1_numbers, .int p1_count])), (h_p1_numbers, .inl (kI, 1000, .inl p1_numbers))] := hD
  have hu := Option.some.inj hf
  exact m_retv () hx hb hr hlk hK (by rw [← hu]; exact hP) (by rw [← hu]; exact hD) hS hQ hAe rfl (Nat.le_of_ble_eq_true rfl) (Nat.le_of_ble_eq_true rfl) d_Told_copyFrom_33
set_option maxHeartbeats 4000000 in
set_option maxRecDepth 100000 in
theorem c_Row_init {l : Launch} {D : va_G} {tys : List (ClassId × FieldType)} {kI kL kZ kR kM : ClassId} {N : Nat} {h_t : Nat}  {u : Int32 × Int32 × (Nat → Int32) × (Nat → Int32)} (TY : mTy tys kI kL kZ kR kM) (hf : p_Row_init N = some u) (sz : Nat) : Met l y_Row_init ws_Row_init { frames := 1, cells := 2, slots := 240, locals := 12 } (mPre D tys [.ref h_t] [(h_t, .inr (4, [.null, .null, .int (0 : Int32), .int (0 : Int32)]))] sz) (mPost D tys (fun _ : Nat × Nat => none) [(h_t, .inr (4, [.null, .null, .int (0 : Int32), .int (0 : Int32)]))] (fun x : Nat × Nat => [(h_t, .inr (4, [.ref x.1, .ref x.2, .int u.1, .int u.2.1])), (x.1, .inl (kI, 120, .inl u.2.2.1)), (x.2, .inl (kZ, 120, .inl u.2.2.2))]) sz) 2 240 (va_A [(h_t, .inr (4, [.null, .null, .int (0 : Int32), .int (0 : Int32)]))] sz) := by
  refine m_ofW (cc := b_Row_init) (maxL := 1) (ret := none) (by decide) rfl (Nat.le_of_ble_eq_true rfl) ?_ sz
  intro p e s m args below meth c ls Q A hx hb hml hr hts hown hin hlk hK hN hP hD hA hS hl hQ hAe
  have hown : s.vm.findClass "RuleKernels$Row" = some m.cls := hown
  have hl : lv_has ls 1 [(0, .ref h_t)] := hl
  have w_f15 := (hts _ (List.mem_cons_of_mem _ tw_158))
  have w_f19 := (hts _ (List.mem_cons_of_mem _ tw_159))
  have w_f23 := (hts _ (List.mem_cons_of_mem _ tw_160))
  have w_f9 := (hts _ (List.mem_cons_of_mem _ tw_157))
  have w_i4 := (fun q h => List.mem_cons_of_mem _ (i_Row q h) : ∀ q ∈ u_ws "RuleKernels$Row" T_Row 4, q ∈ ws_Row_init)
  unfold p_Row_init at hf
  refine lv_aload_n hx hb d_Row_init_0 rfl (lv_at hl 0 rfl) ?_
  refine W.objInit hx hb hown (hts _ (List.mem_cons_of_mem _ tw_156)) (hts _ (List.mem_cons_of_mem _ tw_61)) (hts _ (List.mem_cons_of_mem _ tc_objinit)) rfl (by rw [hml]; exact hl.1) rfl d_Row_init_1 (Nat.le_of_ble_eq_true rfl) (Nat.le_of_ble_eq_true rfl) ?_
  refine W.eq (g2 := F0 m 4 ls []) rfl ?_
  refine lv_aload_n hx hb d_Row_init_4 rfl (lv_at hl 0 rfl) ?_
  refine lv_bipush (v := 120) hx hb d_Row_init_5 (by decide) ?_
  refine m_newI (N' := 120) hx hb (hts _ (List.mem_cons_of_mem _ tw_102)) TY hK hP hD hS hA (by decide) (by decide) (by decide) (Nat.le_of_ble_eq_true rfl) (Nat.le_of_ble_eq_true rfl) d_Row_init_7 (fun q7 H hP hD hS => ?_)
  have hP : va_P D vwCl [(h_t, .inr (4, [.null, .null, .int (0 : Int32), .int (0 : Int32)])), (q7, .inl (kI, 120, .inl (fun _ => 0)))] H := hP
  have hD : va_D A [(h_t, .inr (4, [.null, .null, .int (0 : Int32), .int (0 : Int32)])), (q7, .inl (kI, 120, .inl (fun _ => 0)))] := hD
  refine W.widen (k := 1) (n := 120) (Nat.le_of_ble_eq_true rfl) (Nat.le_of_ble_eq_true rfl) ?_
  refine va_putF (D := D) (ci := 4) (v := .ref q7) (ty := (.array .int)) (C := "RuleKernels$Row") (T := T_Row) (N := 4) hx hb hts w_i4 ty_Row ty_Row_ok nm_Row hown hK hP hD hS 0 rfl rfl 0 (by decide) w_f9 (fun _ h9 => h9) rfl hin rfl (by decide +kernel) rfl rfl (Nat.le_of_ble_eq_true rfl) d_Row_init_9 (fun H locs hP hD hS => ?_)
  have hP : va_P D vwCl [(h_t, .inr (4, [.ref q7, .null, .int (0 : Int32), .int (0 : Int32)])), (q7, .inl (kI, 120, .inl (fun _ => 0)))] H := hP
  have hD : va_D A [(h_t, .inr (4, [.ref q7, .null, .int (0 : Int32), .int (0 : Int32)])), (q7, .inl (kI, 120, .inl (fun _ => 0)))] := hD
  refine lv_aload_n hx hb d_Row_init_12 rfl (lv_at hl 0 rfl) ?_
  refine lv_bipush (v := 120) hx hb d_Row_init_13 (by decide) ?_
  refine m_newZ (N' := 120) hx hb (hts _ (List.mem_cons_of_mem _ tw_171)) TY hK hP hD hS hA (by decide) (by decide) (by decide) (Nat.le_of_ble_eq_true rfl) (Nat.le_of_ble_eq_true rfl) d_Row_init_15 (fun q15 H hP hD hS => ?_)
  have hP : va_P D vwCl [(h_t, .inr (4, [.ref q7, .null, .int (0 : Int32), .int (0 : Int32)])), (q7, .inl (kI, 120, .inl (fun _ => 0))), (q15, .inl (kZ, 120, .inl (fun _ => 0)))] H := hP
  have hD : va_D A [(h_t, .inr (4, [.ref q7, .null, .int (0 : Int32), .int (0 : Int32)])), (q7, .inl (kI, 120, .inl (fun _ => 0))), (q15, .inl (kZ, 120, .inl (fun _ => 0)))] := hD
  refine W.widen (k := 2) (n := 240) (Nat.le_of_ble_eq_true rfl) (Nat.le_of_ble_eq_true rfl) ?_
  refine va_putF (D := D) (ci := 4) (v := .ref q15) (ty := (.array .boolean)) (C := "RuleKernels$Row") (T := T_Row) (N := 4) hx hb hts w_i4 ty_Row ty_Row_ok nm_Row hown hK hP hD hS 0 rfl rfl 1 (by decide) w_f15 (fun _ h9 => h9) rfl hin rfl (by decide +kernel) rfl rfl (Nat.le_of_ble_eq_true rfl) d_Row_init_17 (fun H locs hP hD hS => ?_)
  have hP : va_P D vwCl [(h_t, .inr (4, [.ref q7, .ref q15, .int (0 : Int32), .int (0 : Int32)])), (q7, .inl (kI, 120, .inl (fun _ => 0))), (q15, .inl (kZ, 120, .inl (fun _ => 0)))] H := hP
  have hD : va_D A [(h_t, .inr (4, [.ref q7, .ref q15, .int (0 : Int32), .int (0 : Int32)])), (q7, .inl (kI, 120, .inl (fun _ => 0))), (q15, .inl (kZ, 120, .inl (fun _ => 0)))] := hD
  refine lv_aload_n hx hb d_Row_init_20 rfl (lv_at hl 0 rfl) ?_
  refine lv_iconst (v := 0) hx hb d_Row_init_21 (by decide) ?_
  refine va_put (D := D) (ci := 4) (v := .int (0 : Int32)) (ty := .int) (C := "RuleKernels$Row") (T := T_Row) (N := 4) hx hb hts w_i4 ty_Row ty_Row_ok nm_Row hown hK hP hD hS 0 rfl rfl 2 (by decide) w_f19 (fun _ h9 => h9) rfl (by decide +kernel) rfl rfl (Nat.le_of_ble_eq_true rfl) d_Row_init_22 (fun H locs hP hD hS => ?_)
  have hP : va_P D vwCl [(h_t, .inr (4, [.ref q7, .ref q15, .int (0 : Int32), .int (0 : Int32)])), (q7, .inl (kI, 120, .inl (fun _ => 0))), (q15, .inl (kZ, 120, .inl (fun _ => 0)))] H := hP
  have hD : va_D A [(h_t, .inr (4, [.ref q7, .ref q15, .int (0 : Int32), .int (0 : Int32)])), (q7, .inl (kI, 120, .inl (fun _ => 0))), (q15, .inl (kZ, 120, .inl (fun _ => 0)))] := hD
  refine lv_aload_n hx hb d_Row_init_25 rfl (lv_at hl 0 rfl) ?_
  refine lv_iconst (v := 0) hx hb d_Row_init_26 (by decide) ?_
  refine va_put (D := D) (ci := 4) (v := .int (0 : Int32)) (ty := .int) (C := "RuleKernels$Row") (T := T_Row) (N := 4) hx hb hts w_i4 ty_Row ty_Row_ok nm_Row hown hK hP hD hS 0 rfl rfl 3 (by decide) w_f23 (fun _ h9 => h9) rfl (by decide +kernel) rfl rfl (Nat.le_of_ble_eq_true rfl) d_Row_init_27 (fun H locs hP hD hS => ?_)
  have hP : va_P D vwCl [(h_t, .inr (4, [.ref q7, .ref q15, .int (0 : Int32), .int (0 : Int32)])), (q7, .inl (kI, 120, .inl (fun _ => 0))), (q15, .inl (kZ, 120, .inl (fun _ => 0)))] H := hP
  have hD : va_D A [(h_t, .inr (4, [.ref q7, .ref q15, .int (0 : Int32), .int (0 : Int32)])), (q7, .inl (kI, 120, .inl (fun _ => 0))), (q15, .inl (kZ, 120, .inl (fun _ => 0)))] := hD
  have hu := Option.some.inj hf
  exact m_retv (q7, q15) hx hb hr hlk hK (by rw [← hu]; exact m_subP hP [0, 1, 2] rfl) (by rw [← hu]; exact hD.sub [0, 1, 2] (by decide) rfl) hS hQ hAe rfl (Nat.le_of_ble_eq_true rfl) (Nat.le_of_ble_eq_true rfl) d_Row_init_30
set_option maxHeartbeats 4000000 in
set_option maxRecDepth 100000 in
theorem c_Told_init {l : Launch} {D : va_G} {tys : List (ClassId × FieldType)} {kI kL kZ kR kM : ClassId} {N : Nat} {h_t : Nat}  {u : Int32 × (Nat → Int32)} (TY : mTy tys kI kL kZ kR kM) (hf : p_Told_init N = some u) (sz : Nat) : Met l y_Told_init ws_Told_init { frames := 1, cells := 1, slots := 1000, locals := 12 } (mPre D tys [.ref h_t] [(h_t, .inr (6, [.null, .int (0 : Int32)]))] sz) (mPost D tys (fun _ : Nat => none) [(h_t, .inr (6, [.null, .int (0 : Int32)]))] (fun x : Nat => [(h_t, .inr (6, [.ref x, .int u.1])), (x, .inl (kI, 1000, .inl u.2))]) sz) 1 1000 (va_A [(h_t, .inr (6, [.null, .int (0 : Int32)]))] sz) := by
  refine m_ofW (cc := b_Told_init) (maxL := 1) (ret := none) (by decide) rfl (Nat.le_of_ble_eq_true rfl) ?_ sz
  intro p e s m args below meth c ls Q A hx hb hml hr hts hown hin hlk hK hN hP hD hA hS hl hQ hAe
  have hown : s.vm.findClass "RuleKernels$Told" = some m.cls := hown
  have hl : lv_has ls 1 [(0, .ref h_t)] := hl
  have w_f15 := (hts _ (List.mem_cons_of_mem _ tw_179))
  have w_f9 := (hts _ (List.mem_cons_of_mem _ tw_178))
  have w_i6 := (fun q h => List.mem_cons_of_mem _ (i_Told q h) : ∀ q ∈ u_ws "RuleKernels$Told" T_Told 2, q ∈ ws_Told_init)
  unfold p_Told_init at hf
  refine lv_aload_n hx hb d_Told_init_0 rfl (lv_at hl 0 rfl) ?_
  refine W.objInit hx hb hown (hts _ (List.mem_cons_of_mem _ tw_177)) (hts _ (List.mem_cons_of_mem _ tw_61)) (hts _ (List.mem_cons_of_mem _ tc_objinit)) rfl (by rw [hml]; exact hl.1) rfl d_Told_init_1 (Nat.le_of_ble_eq_true rfl) (Nat.le_of_ble_eq_true rfl) ?_
  refine W.eq (g2 := F0 m 4 ls []) rfl ?_
  refine lv_aload_n hx hb d_Told_init_4 rfl (lv_at hl 0 rfl) ?_
  refine lv_sipush (v := 1000) hx hb d_Told_init_5 (by decide) ?_
  refine m_newI (N' := 1000) hx hb (hts _ (List.mem_cons_of_mem _ tw_102)) TY hK hP hD hS hA (by decide) (by decide) (by decide) (Nat.le_of_ble_eq_true rfl) (Nat.le_of_ble_eq_true rfl) d_Told_init_8 (fun q8 H hP hD hS => ?_)
  have hP : va_P D vwCl [(h_t, .inr (6, [.null, .int (0 : Int32)])), (q8, .inl (kI, 1000, .inl (fun _ => 0)))] H := hP
  have hD : va_D A [(h_t, .inr (6, [.null, .int (0 : Int32)])), (q8, .inl (kI, 1000, .inl (fun _ => 0)))] := hD
  refine W.widen (k := 1) (n := 1000) (Nat.le_of_ble_eq_true rfl) (Nat.le_of_ble_eq_true rfl) ?_
  refine va_putF (D := D) (ci := 6) (v := .ref q8) (ty := (.array .int)) (C := "RuleKernels$Told") (T := T_Told) (N := 2) hx hb hts w_i6 ty_Told ty_Told_ok nm_Told hown hK hP hD hS 0 rfl rfl 0 (by decide) w_f9 (fun _ h9 => h9) rfl hin rfl (by decide +kernel) rfl rfl (Nat.le_of_ble_eq_true rfl) d_Told_init_10 (fun H locs hP hD hS => ?_)
  have hP : va_P D vwCl [(h_t, .inr (6, [.ref q8, .int (0 : Int32)])), (q8, .inl (kI, 1000, .inl (fun _ => 0)))] H := hP
  have hD : va_D A [(h_t, .inr (6, [.ref q8, .int (0 : Int32)])), (q8, .inl (kI, 1000, .inl (fun _ => 0)))] := hD
  refine lv_aload_n hx hb d_Told_init_13 rfl (lv_at hl 0 rfl) ?_
  refine lv_iconst (v := 0) hx hb d_Told_init_14 (by decide) ?_
  refine va_put (D := D) (ci := 6) (v := .int (0 : Int32)) (ty := .int) (C := "RuleKernels$Told") (T := T_Told) (N := 2) hx hb hts w_i6 ty_Told ty_Told_ok nm_Told hown hK hP hD hS 0 rfl rfl 1 (by decide) w_f15 (fun _ h9 => h9) rfl (by decide +kernel) rfl rfl (Nat.le_of_ble_eq_true rfl) d_Told_init_15 (fun H locs hP hD hS => ?_)
  have hP : va_P D vwCl [(h_t, .inr (6, [.ref q8, .int (0 : Int32)])), (q8, .inl (kI, 1000, .inl (fun _ => 0)))] H := hP
  have hD : va_D A [(h_t, .inr (6, [.ref q8, .int (0 : Int32)])), (q8, .inl (kI, 1000, .inl (fun _ => 0)))] := hD
  have hu := Option.some.inj hf
  exact m_retv q8 hx hb hr hlk hK (by rw [← hu]; exact m_subP hP [0, 1] rfl) (by rw [← hu]; exact hD.sub [0, 1] (by decide) rfl) hS hQ hAe rfl (Nat.le_of_ble_eq_true rfl) (Nat.le_of_ble_eq_true rfl) d_Told_init_18
set_option maxHeartbeats 4000000 in
set_option maxRecDepth 100000 in
theorem c_Mark_init {l : Launch} {D : va_G} {tys : List (ClassId × FieldType)} {kI kL kZ kR kM : ClassId} {N : Nat} {h_t : Nat}  {u : Int32 × Int32 × Int32 × (Nat → Int32) × (Nat → Int32) × Int32 × (Nat → Int32)} (TY : mTy tys kI kL kZ kR kM) (hf : p_Mark_init N = some u) (sz : Nat) : Met l y_Mark_init ws_Mark_init { frames := 2, cells := 5, slots := 1246, locals := 32 } (mPre D tys [.ref h_t] [(h_t, .inr (3, [.int (0 : Int32), .null, .null]))] sz) (mPost D tys (fun _ : Nat × Nat × Nat × Nat × Nat => none) [(h_t, .inr (3, [.int (0 : Int32), .null, .null]))] (fun x : Nat × Nat × Nat × Nat × Nat => [(h_t, .inr (3, [.int u.1, .ref x.1, .ref x.2.2.2.1])), (x.1, .inr (4, [.ref x.2.1, .ref x.2.2.1, .int u.2.1, .int u.2.2.1])), (x.2.1, .inl (kI, 120, .inl u.2.2.2.1)), (x.2.2.1, .inl (kZ, 120, .inl u.2.2.2.2.1)), (x.2.2.2.1, .inr (6, [.ref x.2.2.2.2, .int u.2.2.2.2.2.1])), (x.2.2.2.2, .inl (kI, 1000, .inl u.2.2.2.2.2.2))]) sz) 5 1246 (va_A [(h_t, .inr (3, [.int (0 : Int32), .null, .null]))] sz) := by
  refine m_ofW (cc := b_Mark_init) (maxL := 1) (ret := none) (by decide) rfl (Nat.le_of_ble_eq_true rfl) ?_ sz
  intro p e s m args below meth c ls Q A hx hb hml hr hts hown hin hlk hK hN hP hD hA hS hl hQ hAe
  have hown : s.vm.findClass "RuleKernels$Mark" = some m.cls := hown
  have hl : lv_has ls 1 [(0, .ref h_t)] := hl
  have w_f16 := (hts _ (List.mem_cons_of_mem _ tw_490))
  have w_f23 := (hts _ (List.mem_cons_of_mem _ tw_492))
  have w_f7 := (hts _ (List.mem_cons_of_mem _ tw_488))
  have w_i3 := (fun q h => List.mem_cons_of_mem _ (i_Mark q h) : ∀ q ∈ u_ws "RuleKernels$Mark" T_Mark 3, q ∈ ws_Mark_init)
  have w_i4 := (fun q h => List.mem_cons_of_mem _ (i_Row q h) : ∀ q ∈ u_ws "RuleKernels$Row" T_Row 4, q ∈ ws_Mark_init)
  have w_i6 := (fun q h => List.mem_cons_of_mem _ (i_Told q h) : ∀ q ∈ u_ws "RuleKernels$Told" T_Told 2, q ∈ ws_Mark_init)
  unfold p_Mark_init at hf
  refine lv_aload_n hx hb d_Mark_init_0 rfl (lv_at hl 0 rfl) ?_
  refine W.objInit hx hb hown (hts _ (List.mem_cons_of_mem _ tw_483)) (hts _ (List.mem_cons_of_mem _ tw_61)) (hts _ (List.mem_cons_of_mem _ tc_objinit)) rfl (by rw [hml]; exact hl.1) rfl d_Mark_init_1 (Nat.le_of_ble_eq_true rfl) (Nat.le_of_ble_eq_true rfl) ?_
  refine W.eq (g2 := F0 m 4 ls []) rfl ?_
  refine lv_aload_n hx hb d_Mark_init_4 rfl (lv_at hl 0 rfl) ?_
  refine lv_iconst (v := 0) hx hb d_Mark_init_5 (by decide) ?_
  refine va_put (D := D) (ci := 3) (v := .int (0 : Int32)) (ty := .int) (C := "RuleKernels$Mark") (T := T_Mark) (N := 3) hx hb hts w_i3 ty_Mark ty_Mark_ok nm_Mark hown hK hP hD hS 0 rfl rfl 0 (by decide) w_f7 (fun _ h9 => h9) rfl (by decide +kernel) rfl rfl (Nat.le_of_ble_eq_true rfl) d_Mark_init_6 (fun H locs hP hD hS => ?_)
  have hP : va_P D vwCl [(h_t, .inr (3, [.int (0 : Int32), .null, .null]))] H := hP
  have hD : va_D A [(h_t, .inr (3, [.int (0 : Int32), .null, .null]))] := hD
  refine lv_aload_n hx hb d_Mark_init_9 rfl (lv_at hl 0 rfl) ?_
  refine va_new (D := D) (ci := 4) (fs := [.null, .null, .int (0 : Int32), .int (0 : Int32)]) (C := "RuleKernels$Row") (T := T_Row) (N := 4) hx hb hts w_i4 ty_Row ty_Row_ok hown (hts _ (List.mem_cons_of_mem _ tw_484)) (hts _ (List.mem_cons_of_mem _ tw_152)) (hts _ (List.mem_cons_of_mem _ tw_47)) hK hP hD hS hA rfl (fun j hj => by rcases (show j = 0 ∨ j = 1 ∨ j = 2 ∨ j = 3 by omega) with rfl | rfl | rfl | rfl <;> rfl) (Nat.le_of_ble_eq_true rfl) (Nat.le_of_ble_eq_true rfl) d_Mark_init_10 (fun q10 H hP hD hS => ?_)
  have hP : va_P D vwCl [(h_t, .inr (3, [.int (0 : Int32), .null, .null])), (q10, .inr (4, [.null, .null, .int (0 : Int32), .int (0 : Int32)]))] H := hP
  have hD : va_D A [(h_t, .inr (3, [.int (0 : Int32), .null, .null])), (q10, .inr (4, [.null, .null, .int (0 : Int32), .int (0 : Int32)]))] := hD
  refine W.widen (k := 1) (n := 4) (Nat.le_of_ble_eq_true rfl) (Nat.le_of_ble_eq_true rfl) ?_
  refine lv_dup hx hb d_Mark_init_13 rfl ?_
  obtain ⟨⟨t_head_14, t_size_14, t_ring_14, t_waits_14⟩, hc_14, hf⟩ := jb hf
  refine m_call (wc := [(q10, .inr (4, [.null, .null, .int (0 : Int32), .int (0 : Int32)]))]) (wr := [(h_t, .inr (3, [.int (0 : Int32), .null, .null]))]) (w1 := fun x : Nat × Nat => [(q10, .inr (4, [.ref x.1, .ref x.2, .int t_head_14, .int t_size_14])), (x.1, .inl (kI, 120, .inl t_ring_14)), (x.2, .inl (kZ, 120, .inl t_waits_14))]) (wn := fun x : Nat × Nat => [(h_t, .inr (3, [.int (0 : Int32), .null, .null])), (q10, .inr (4, [.ref x.1, .ref x.2, .int t_head_14, .int t_size_14])), (x.1, .inl (kI, 120, .inl t_ring_14)), (x.2, .inl (kZ, 120, .inl t_waits_14))]) (o := fun _ : Nat × Nat => none) (va_runI (As := []) (rest := [.ref q10, .ref h_t]) ⟨hx, hb, hml, hown, hts⟩ (c_Row_init (h_t := q10) (u := (t_head_14, t_size_14, t_ring_14, t_waits_14)) TY hc_14 _) (cwI 0 hts (gT tc_Row_init) rfl rfl rfl (hts _ (List.mem_cons_of_mem _ tw_47)) (hts _ (List.mem_cons_of_mem _ tw_485)) (hts _ (List.mem_cons_of_mem _ tw_154)) rfl (by decide +kernel) ⟨Nat.le_of_ble_eq_true rfl, Nat.le_of_ble_eq_true rfl⟩) (m_preS hK hN hP hD [1] rfl (by decide) _) rfl rfl hl.1 rfl (lv_room (Nat.le_of_ble_eq_true rfl)) d_Mark_init_14 ⟨Nat.le_of_ble_eq_true rfl, Nat.le_of_ble_eq_true rfl⟩) hP hD hS hA [1] [0] [0, 1, 2, 3] rfl rfl (by decide) (by decide) (by decide) (fun _ => rfl) (fun x H locs hP hD hS => ?_)
  obtain ⟨q14_0, q14_1⟩ := x
  have hP : va_P D vwCl [(h_t, .inr (3, [.int (0 : Int32), .null, .null])), (q10, .inr (4, [.ref q14_0, .ref q14_1, .int t_head_14, .int t_size_14])), (q14_0, .inl (kI, 120, .inl t_ring_14)), (q14_1, .inl (kZ, 120, .inl t_waits_14))] H := hP
  have hD : va_D A [(h_t, .inr (3, [.int (0 : Int32), .null, .null])), (q10, .inr (4, [.ref q14_0, .ref q14_1, .int t_head_14, .int t_size_14])), (q14_0, .inl (kI, 120, .inl t_ring_14)), (q14_1, .inl (kZ, 120, .inl t_waits_14))] := hD
  refine W.eq (g2 := F0 m 17 ls [.ref q10, .ref h_t]) rfl ?_
  refine W.widen (k := 3) (n := 244) (Nat.le_of_ble_eq_true rfl) (Nat.le_of_ble_eq_true rfl) ?_
  refine va_putF (D := D) (ci := 3) (v := .ref q10) (ty := (.object "RuleKernels$Row")) (C := "RuleKernels$Mark") (T := T_Mark) (N := 3) hx hb hts w_i3 ty_Mark ty_Mark_ok nm_Mark hown hK hP hD hS 0 rfl rfl 1 (by decide) w_f16 (fun _ h9 => h9) rfl hin rfl (by decide +kernel) rfl rfl (Nat.le_of_ble_eq_true rfl) d_Mark_init_17 (fun H locs hP hD hS => ?_)
  have hP : va_P D vwCl [(h_t, .inr (3, [.int (0 : Int32), .ref q10, .null])), (q10, .inr (4, [.ref q14_0, .ref q14_1, .int t_head_14, .int t_size_14])), (q14_0, .inl (kI, 120, .inl t_ring_14)), (q14_1, .inl (kZ, 120, .inl t_waits_14))] H := hP
  have hD : va_D A [(h_t, .inr (3, [.int (0 : Int32), .ref q10, .null])), (q10, .inr (4, [.ref q14_0, .ref q14_1, .int t_head_14, .int t_size_14])), (q14_0, .inl (kI, 120, .inl t_ring_14)), (q14_1, .inl (kZ, 120, .inl t_waits_14))] := hD
  refine lv_aload_n hx hb d_Mark_init_20 rfl (lv_at hl 0 rfl) ?_
  refine va_new (D := D) (ci := 6) (fs := [.null, .int (0 : Int32)]) (C := "RuleKernels$Told") (T := T_Told) (N := 2) hx hb hts w_i6 ty_Told ty_Told_ok hown (hts _ (List.mem_cons_of_mem _ tw_486)) (hts _ (List.mem_cons_of_mem _ tw_173)) (hts _ (List.mem_cons_of_mem _ tw_48)) hK hP hD hS hA rfl (fun j hj => by rcases (show j = 0 ∨ j = 1 by omega) with rfl | rfl <;> rfl) (Nat.le_of_ble_eq_true rfl) (Nat.le_of_ble_eq_true rfl) d_Mark_init_21 (fun q21 H hP hD hS => ?_)
  have hP : va_P D vwCl [(h_t, .inr (3, [.int (0 : Int32), .ref q10, .null])), (q10, .inr (4, [.ref q14_0, .ref q14_1, .int t_head_14, .int t_size_14])), (q14_0, .inl (kI, 120, .inl t_ring_14)), (q14_1, .inl (kZ, 120, .inl t_waits_14)), (q21, .inr (6, [.null, .int (0 : Int32)]))] H := hP
  have hD : va_D A [(h_t, .inr (3, [.int (0 : Int32), .ref q10, .null])), (q10, .inr (4, [.ref q14_0, .ref q14_1, .int t_head_14, .int t_size_14])), (q14_0, .inl (kI, 120, .inl t_ring_14)), (q14_1, .inl (kZ, 120, .inl t_waits_14)), (q21, .inr (6, [.null, .int (0 : Int32)]))] := hD
  refine W.widen (k := 4) (n := 246) (Nat.le_of_ble_eq_true rfl) (Nat.le_of_ble_eq_true rfl) ?_
  refine lv_dup hx hb d_Mark_init_24 rfl ?_
  obtain ⟨⟨t_count_25, t_numbers_25⟩, hc_25, hf⟩ := jb hf
  refine m_call (wc := [(q21, .inr (6, [.null, .int (0 : Int32)]))]) (wr := [(h_t, .inr (3, [.int (0 : Int32), .ref q10, .null])), (q10, .inr (4, [.ref q14_0, .ref q14_1, .int t_head_14, .int t_size_14])), (q14_0, .inl (kI, 120, .inl t_ring_14)), (q14_1, .inl (kZ, 120, .inl t_waits_14))]) (w1 := fun x : Nat => [(q21, .inr (6, [.ref x, .int t_count_25])), (x, .inl (kI, 1000, .inl t_numbers_25))]) (wn := fun x : Nat => [(h_t, .inr (3, [.int (0 : Int32), .ref q10, .null])), (q10, .inr (4, [.ref q14_0, .ref q14_1, .int t_head_14, .int t_size_14])), (q14_0, .inl (kI, 120, .inl t_ring_14)), (q14_1, .inl (kZ, 120, .inl t_waits_14)), (q21, .inr (6, [.ref x, .int t_count_25])), (x, .inl (kI, 1000, .inl t_numbers_25))]) (o := fun _ : Nat => none) (va_runI (As := []) (rest := [.ref q21, .ref h_t]) ⟨hx, hb, hml, hown, hts⟩ (c_Told_init (h_t := q21) (u := (t_count_25, t_numbers_25)) TY hc_25 _) (cwI 0 hts (gT tc_Told_init) rfl rfl rfl (hts _ (List.mem_cons_of_mem _ tw_48)) (hts _ (List.mem_cons_of_mem _ tw_487)) (hts _ (List.mem_cons_of_mem _ tw_175)) rfl (by decide +kernel) ⟨Nat.le_of_ble_eq_true rfl, Nat.le_of_ble_eq_true rfl⟩) (m_preS hK hN hP hD [4] rfl (by decide) _) rfl rfl hl.1 rfl (lv_room (Nat.le_of_ble_eq_true rfl)) d_Mark_init_25 ⟨Nat.le_of_ble_eq_true rfl, Nat.le_of_ble_eq_true rfl⟩) hP hD hS hA [4] [0, 1, 2, 3] [0, 1, 2, 3, 4, 5] rfl rfl (by decide) (by decide) (by decide) (fun _ => rfl) (fun x H locs hP hD hS => ?_)
  obtain ⟨q25_0, rfl⟩ : ∃ z, z = x := ⟨_, rfl⟩
  have hP : va_P D vwCl [(h_t, .inr (3, [.int (0 : Int32), .ref q10, .null])), (q10, .inr (4, [.ref q14_0, .ref q14_1, .int t_head_14, .int t_size_14])), (q14_0, .inl (kI, 120, .inl t_ring_14)), (q14_1, .inl (kZ, 120, .inl t_waits_14)), (q21, .inr (6, [.ref q25_0, .int t_count_25])), (q25_0, .inl (kI, 1000, .inl t_numbers_25))] H := hP
  have hD : va_D A [(h_t, .inr (3, [.int (0 : Int32), .ref q10, .null])), (q10, .inr (4, [.ref q14_0, .ref q14_1, .int t_head_14, .int t_size_14])), (q14_0, .inl (kI, 120, .inl t_ring_14)), (q14_1, .inl (kZ, 120, .inl t_waits_14)), (q21, .inr (6, [.ref q25_0, .int t_count_25])), (q25_0, .inl (kI, 1000, .inl t_numbers_25))] := hD
  refine W.eq (g2 := F0 m 28 ls [.ref q21, .ref h_t]) rfl ?_
  refine W.widen (k := 5) (n := 1246) (Nat.le_of_ble_eq_true rfl) (Nat.le_of_ble_eq_true rfl) ?_
  refine va_putF (D := D) (ci := 3) (v := .ref q21) (ty := (.object "RuleKernels$Told")) (C := "RuleKernels$Mark") (T := T_Mark) (N := 3) hx hb hts w_i3 ty_Mark ty_Mark_ok nm_Mark hown hK hP hD hS 0 rfl rfl 2 (by decide) w_f23 (fun _ h9 => h9) rfl hin rfl (by decide +kernel) rfl rfl (Nat.le_of_ble_eq_true rfl) d_Mark_init_28 (fun H locs hP hD hS => ?_)
  have hP : va_P D vwCl [(h_t, .inr (3, [.int (0 : Int32), .ref q10, .ref q21])), (q10, .inr (4, [.ref q14_0, .ref q14_1, .int t_head_14, .int t_size_14])), (q14_0, .inl (kI, 120, .inl t_ring_14)), (q14_1, .inl (kZ, 120, .inl t_waits_14)), (q21, .inr (6, [.ref q25_0, .int t_count_25])), (q25_0, .inl (kI, 1000, .inl t_numbers_25))] H := hP
  have hD : va_D A [(h_t, .inr (3, [.int (0 : Int32), .ref q10, .ref q21])), (q10, .inr (4, [.ref q14_0, .ref q14_1, .int t_head_14, .int t_size_14])), (q14_0, .inl (kI, 120, .inl t_ring_14)), (q14_1, .inl (kZ, 120, .inl t_waits_14)), (q21, .inr (6, [.ref q25_0, .int t_count_25])), (q25_0, .inl (kI, 1000, .inl t_numbers_25))] := hD
  have hu := Option.some.inj hf
  exact m_retv (q10, q14_0, q14_1, q21, q25_0) hx hb hr hlk hK (by rw [← hu]; exact m_subP hP [0, 1, 2, 3, 4, 5] rfl) (by rw [← hu]; exact hD.sub [0, 1, 2, 3, 4, 5] (by decide) rfl) hS hQ hAe rfl (Nat.le_of_ble_eq_true rfl) (Nat.le_of_ble_eq_true rfl) d_Mark_init_31
set_option maxHeartbeats 4000000 in
set_option maxRecDepth 100000 in
theorem c_Giving_init {l : Launch} {D : va_G} {tys : List (ClassId × FieldType)} {kI kL kZ kR kM : ClassId} {N : Nat} {h_t : Nat}  {u : Int64 × Int32 × (Nat → Int32) × (Nat → Int32) × (Nat → Int32) × (Nat → Int32)} (TY : mTy tys kI kL kZ kR kM) (hf : p_Giving_init N = some u) (sz : Nat) : Met l y_Giving_init ws_Giving_init { frames := 1, cells := 4, slots := 64, locals := 12 } (mPre D tys [.ref h_t] [(h_t, .inr (1, [.null, .null, .null, .null, .long (0 : Int64), .int (0 : Int32)]))] sz) (mPost D tys (fun _ : Nat × Nat × Nat × Nat => none) [(h_t, .inr (1, [.null, .null, .null, .null, .long (0 : Int64), .int (0 : Int32)]))] (fun x : Nat × Nat × Nat × Nat => [(h_t, .inr (1, [.ref x.1, .ref x.2.1, .ref x.2.2.1, .ref x.2.2.2, .long u.1, .int u.2.1])), (x.1, .inl (kI, 16, .inl u.2.2.1)), (x.2.1, .inl (kI, 16, .inl u.2.2.2.1)), (x.2.2.1, .inl (kI, 16, .inl u.2.2.2.2.1)), (x.2.2.2, .inl (kI, 16, .inl u.2.2.2.2.2))]) sz) 4 64 (va_A [(h_t, .inr (1, [.null, .null, .null, .null, .long (0 : Int64), .int (0 : Int32)]))] sz) := by
  refine m_ofW (cc := b_Giving_init) (maxL := 1) (ret := none) (by decide) rfl (Nat.le_of_ble_eq_true rfl) ?_ sz
  intro p e s m args below meth c ls Q A hx hb hml hr hts hown hin hlk hK hN hP hD hA hS hl hQ hAe
  have hown : s.vm.findClass "RuleKernels$Giving" = some m.cls := hown
  have hl : lv_has ls 1 [(0, .ref h_t)] := hl
  have w_f15 := (hts _ (List.mem_cons_of_mem _ tw_118))
  have w_f18 := (hts _ (List.mem_cons_of_mem _ tw_119))
  have w_f21 := (hts _ (List.mem_cons_of_mem _ tw_120))
  have w_f24 := (hts _ (List.mem_cons_of_mem _ tw_121))
  have w_f28 := (hts _ (List.mem_cons_of_mem _ tw_122))
  have w_f9 := (hts _ (List.mem_cons_of_mem _ tw_117))
  have w_i1 := (fun q h => List.mem_cons_of_mem _ (i_Giving q h) : ∀ q ∈ u_ws "RuleKernels$Giving" T_Giving 6, q ∈ ws_Giving_init)
  unfold p_Giving_init at hf
  refine lv_aload_n hx hb d_Giving_init_0 rfl (lv_at hl 0 rfl) ?_
  refine W.objInit hx hb hown (hts _ (List.mem_cons_of_mem _ tw_116)) (hts _ (List.mem_cons_of_mem _ tw_61)) (hts _ (List.mem_cons_of_mem _ tc_objinit)) rfl (by rw [hml]; exact hl.1) rfl d_Giving_init_1 (Nat.le_of_ble_eq_true rfl) (Nat.le_of_ble_eq_true rfl) ?_
  refine W.eq (g2 := F0 m 4 ls []) rfl ?_
  refine lv_aload_n hx hb d_Giving_init_4 rfl (lv_at hl 0 rfl) ?_
  refine lv_bipush (v := 16) hx hb d_Giving_init_5 (by decide) ?_
  refine m_newI (N' := 16) hx hb (hts _ (List.mem_cons_of_mem _ tw_102)) TY hK hP hD hS hA (by decide) (by decide) (by decide) (Nat.le_of_ble_eq_true rfl) (Nat.le_of_ble_eq_true rfl) d_Giving_init_7 (fun q7 H hP hD hS => ?_)
  have hP : va_P D vwCl [(h_t, .inr (1, [.null, .null, .null, .null, .long (0 : Int64), .int (0 : Int32)])), (q7, .inl (kI, 16, .inl (fun _ => 0)))] H := hP
  have hD : va_D A [(h_t, .inr (1, [.null, .null, .null, .null, .long (0 : Int64), .int (0 : Int32)])), (q7, .inl (kI, 16, .inl (fun _ => 0)))] := hD
  refine W.widen (k := 1) (n := 16) (Nat.le_of_ble_eq_true rfl) (Nat.le_of_ble_eq_true rfl) ?_
  refine va_putF (D := D) (ci := 1) (v := .ref q7) (ty := (.array .int)) (C := "RuleKernels$Giving") (T := T_Giving) (N := 6) hx hb hts w_i1 ty_Giving ty_Giving_ok nm_Giving hown hK hP hD hS 0 rfl rfl 0 (by decide) w_f9 (fun _ h9 => h9) rfl hin rfl (by decide +kernel) rfl rfl (Nat.le_of_ble_eq_true rfl) d_Giving_init_9 (fun H locs hP hD hS => ?_)
  have hP : va_P D vwCl [(h_t, .inr (1, [.ref q7, .null, .null, .null, .long (0 : Int64), .int (0 : Int32)])), (q7, .inl (kI, 16, .inl (fun _ => 0)))] H := hP
  have hD : va_D A [(h_t, .inr (1, [.ref q7, .null, .null, .null, .long (0 : Int64), .int (0 : Int32)])), (q7, .inl (kI, 16, .inl (fun _ => 0)))] := hD
  refine lv_aload_n hx hb d_Giving_init_12 rfl (lv_at hl 0 rfl) ?_
  refine lv_bipush (v := 16) hx hb d_Giving_init_13 (by decide) ?_
  refine m_newI (N' := 16) hx hb (hts _ (List.mem_cons_of_mem _ tw_102)) TY hK hP hD hS hA (by decide) (by decide) (by decide) (Nat.le_of_ble_eq_true rfl) (Nat.le_of_ble_eq_true rfl) d_Giving_init_15 (fun q15 H hP hD hS => ?_)
  have hP : va_P D vwCl [(h_t, .inr (1, [.ref q7, .null, .null, .null, .long (0 : Int64), .int (0 : Int32)])), (q7, .inl (kI, 16, .inl (fun _ => 0))), (q15, .inl (kI, 16, .inl (fun _ => 0)))] H := hP
  have hD : va_D A [(h_t, .inr (1, [.ref q7, .null, .null, .null, .long (0 : Int64), .int (0 : Int32)])), (q7, .inl (kI, 16, .inl (fun _ => 0))), (q15, .inl (kI, 16, .inl (fun _ => 0)))] := hD
  refine W.widen (k := 2) (n := 32) (Nat.le_of_ble_eq_true rfl) (Nat.le_of_ble_eq_true rfl) ?_
  refine va_putF (D := D) (ci := 1) (v := .ref q15) (ty := (.array .int)) (C := "RuleKernels$Giving") (T := T_Giving) (N := 6) hx hb hts w_i1 ty_Giving ty_Giving_ok nm_Giving hown hK hP hD hS 0 rfl rfl 1 (by decide) w_f15 (fun _ h9 => h9) rfl hin rfl (by decide +kernel) rfl rfl (Nat.le_of_ble_eq_true rfl) d_Giving_init_17 (fun H locs hP hD hS => ?_)
  have hP : va_P D vwCl [(h_t, .inr (1, [.ref q7, .ref q15, .null, .null, .long (0 : Int64), .int (0 : Int32)])), (q7, .inl (kI, 16, .inl (fun _ => 0))), (q15, .inl (kI, 16, .inl (fun _ => 0)))] H := hP
  have hD : va_D A [(h_t, .inr (1, [.ref q7, .ref q15, .null, .null, .long (0 : Int64), .int (0 : Int32)])), (q7, .inl (kI, 16, .inl (fun _ => 0))), (q15, .inl (kI, 16, .inl (fun _ => 0)))] := hD
  refine lv_aload_n hx hb d_Giving_init_20 rfl (lv_at hl 0 rfl) ?_
  refine lv_bipush (v := 16) hx hb d_Giving_init_21 (by decide) ?_
  refine m_newI (N' := 16) hx hb (hts _ (List.mem_cons_of_mem _ tw_102)) TY hK hP hD hS hA (by decide) (by decide) (by decide) (Nat.le_of_ble_eq_true rfl) (Nat.le_of_ble_eq_true rfl) d_Giving_init_23 (fun q23 H hP hD hS => ?_)
  have hP : va_P D vwCl [(h_t, .inr (1, [.ref q7, .ref q15, .null, .null, .long (0 : Int64), .int (0 : Int32)])), (q7, .inl (kI, 16, .inl (fun _ => 0))), (q15, .inl (kI, 16, .inl (fun _ => 0))), (q23, .inl (kI, 16, .inl (fun _ => 0)))] H := hP
  have hD : va_D A [(h_t, .inr (1, [.ref q7, .ref q15, .null, .null, .long (0 : Int64), .int (0 : Int32)])), (q7, .inl (kI, 16, .inl (fun _ => 0))), (q15, .inl (kI, 16, .inl (fun _ => 0))), (q23, .inl (kI, 16, .inl (fun _ => 0)))] := hD
  refine W.widen (k := 3) (n := 48) (Nat.le_of_ble_eq_true rfl) (Nat.le_of_ble_eq_true rfl) ?_
  refine va_putF (D := D) (ci := 1) (v := .ref q23) (ty := (.array .int)) (C := "RuleKernels$Giving") (T := T_Giving) (N := 6) hx hb hts w_i1 ty_Giving ty_Giving_ok nm_Giving hown hK hP hD hS 0 rfl rfl 2 (by decide) w_f18 (fun _ h9 => h9) rfl hin rfl (by decide +kernel) rfl rfl (Nat.le_of_ble_eq_true rfl) d_Giving_init_25 (fun H locs hP hD hS => ?_)
  have hP : va_P D vwCl [(h_t, .inr (1, [.ref q7, .ref q15, .ref q23, .null, .long (0 : Int64), .int (0 : Int32)])), (q7, .inl (kI, 16, .inl (fun _ => 0))), (q15, .inl (kI, 16, .inl (fun _ => 0))), (q23, .inl (kI, 16, .inl (fun _ => 0)))] H := hP
  have hD : va_D A [(h_t, .inr (1, [.ref q7, .ref q15, .ref q23, .null, .long (0 : Int64), .int (0 : Int32)])), (q7, .inl (kI, 16, .inl (fun _ => 0))), (q15, .inl (kI, 16, .inl (fun _ => 0))), (q23, .inl (kI, 16, .inl (fun _ => 0)))] := hD
  refine lv_aload_n hx hb d_Giving_init_28 rfl (lv_at hl 0 rfl) ?_
  refine lv_bipush (v := 16) hx hb d_Giving_init_29 (by decide) ?_
  refine m_newI (N' := 16) hx hb (hts _ (List.mem_cons_of_mem _ tw_102)) TY hK hP hD hS hA (by decide) (by decide) (by decide) (Nat.le_of_ble_eq_true rfl) (Nat.le_of_ble_eq_true rfl) d_Giving_init_31 (fun q31 H hP hD hS => ?_)
  have hP : va_P D vwCl [(h_t, .inr (1, [.ref q7, .ref q15, .ref q23, .null, .long (0 : Int64), .int (0 : Int32)])), (q7, .inl (kI, 16, .inl (fun _ => 0))), (q15, .inl (kI, 16, .inl (fun _ => 0))), (q23, .inl (kI, 16, .inl (fun _ => 0))), (q31, .inl (kI, 16, .inl (fun _ => 0)))] H := hP
  have hD : va_D A [(h_t, .inr (1, [.ref q7, .ref q15, .ref q23, .null, .long (0 : Int64), .int (0 : Int32)])), (q7, .inl (kI, 16, .inl (fun _ => 0))), (q15, .inl (kI, 16, .inl (fun _ => 0))), (q23, .inl (kI, 16, .inl (fun _ => 0))), (q31, .inl (kI, 16, .inl (fun _ => 0)))] := hD
  refine W.widen (k := 4) (n := 64) (Nat.le_of_ble_eq_true rfl) (Nat.le_of_ble_eq_true rfl) ?_
  refine va_putF (D := D) (ci := 1) (v := .ref q31) (ty := (.array .int)) (C := "RuleKernels$Giving") (T := T_Giving) (N := 6) hx hb hts w_i1 ty_Giving ty_Giving_ok nm_Giving hown hK hP hD hS 0 rfl rfl 3 (by decide) w_f21 (fun _ h9 => h9) rfl hin rfl (by decide +kernel) rfl rfl (Nat.le_of_ble_eq_true rfl) d_Giving_init_33 (fun H locs hP hD hS => ?_)
  have hP : va_P D vwCl [(h_t, .inr (1, [.ref q7, .ref q15, .ref q23, .ref q31, .long (0 : Int64), .int (0 : Int32)])), (q7, .inl (kI, 16, .inl (fun _ => 0))), (q15, .inl (kI, 16, .inl (fun _ => 0))), (q23, .inl (kI, 16, .inl (fun _ => 0))), (q31, .inl (kI, 16, .inl (fun _ => 0)))] H := hP
  have hD : va_D A [(h_t, .inr (1, [.ref q7, .ref q15, .ref q23, .ref q31, .long (0 : Int64), .int (0 : Int32)])), (q7, .inl (kI, 16, .inl (fun _ => 0))), (q15, .inl (kI, 16, .inl (fun _ => 0))), (q23, .inl (kI, 16, .inl (fun _ => 0))), (q31, .inl (kI, 16, .inl (fun _ => 0)))] := hD
  refine lv_aload_n hx hb d_Giving_init_36 rfl (lv_at hl 0 rfl) ?_
  refine lv_lconst (v := 0) hx hb d_Giving_init_37 (by decide) ?_
  refine va_put (D := D) (ci := 1) (v := .long (0 : Int64)) (ty := .long) (C := "RuleKernels$Giving") (T := T_Giving) (N := 6) hx hb hts w_i1 ty_Giving ty_Giving_ok nm_Giving hown hK hP hD hS 0 rfl rfl 4 (by decide) w_f24 (fun _ h9 => h9) rfl (by decide +kernel) rfl rfl (Nat.le_of_ble_eq_true rfl) d_Giving_init_38 (fun H locs hP hD hS => ?_)
  have hP : va_P D vwCl [(h_t, .inr (1, [.ref q7, .ref q15, .ref q23, .ref q31, .long (0 : Int64), .int (0 : Int32)])), (q7, .inl (kI, 16, .inl (fun _ => 0))), (q15, .inl (kI, 16, .inl (fun _ => 0))), (q23, .inl (kI, 16, .inl (fun _ => 0))), (q31, .inl (kI, 16, .inl (fun _ => 0)))] H := hP
  have hD : va_D A [(h_t, .inr (1, [.ref q7, .ref q15, .ref q23, .ref q31, .long (0 : Int64), .int (0 : Int32)])), (q7, .inl (kI, 16, .inl (fun _ => 0))), (q15, .inl (kI, 16, .inl (fun _ => 0))), (q23, .inl (kI, 16, .inl (fun _ => 0))), (q31, .inl (kI, 16, .inl (fun _ => 0)))] := hD
  refine lv_aload_n hx hb d_Giving_init_41 rfl (lv_at hl 0 rfl) ?_
  refine lv_iconst (v := 0) hx hb d_Giving_init_42 (by decide) ?_
  refine va_put (D := D) (ci := 1) (v := .int (0 : Int32)) (ty := .int) (C := "RuleKernels$Giving") (T := T_Giving) (N := 6) hx hb hts w_i1 ty_Giving ty_Giving_ok nm_Giving hown hK hP hD hS 0 rfl rfl 5 (by decide) w_f28 (fun _ h9 => h9) rfl (by decide +kernel) rfl rfl (Nat.le_of_ble_eq_true rfl) d_Giving_init_43 (fun H locs hP hD hS => ?_)
  have hP : va_P D vwCl [(h_t, .inr (1, [.ref q7, .ref q15, .ref q23, .ref q31, .long (0 : Int64), .int (0 : Int32)])), (q7, .inl (kI, 16, .inl (fun _ => 0))), (q15, .inl (kI, 16, .inl (fun _ => 0))), (q23, .inl (kI, 16, .inl (fun _ => 0))), (q31, .inl (kI, 16, .inl (fun _ => 0)))] H := hP
  have hD : va_D A [(h_t, .inr (1, [.ref q7, .ref q15, .ref q23, .ref q31, .long (0 : Int64), .int (0 : Int32)])), (q7, .inl (kI, 16, .inl (fun _ => 0))), (q15, .inl (kI, 16, .inl (fun _ => 0))), (q23, .inl (kI, 16, .inl (fun _ => 0))), (q31, .inl (kI, 16, .inl (fun _ => 0)))] := hD
  have hu := Option.some.inj hf
  exact m_retv (q7, q15, q23, q31) hx hb hr hlk hK (by rw [← hu]; exact m_subP hP [0, 1, 2, 3, 4] rfl) (by rw [← hu]; exact hD.sub [0, 1, 2, 3, 4] (by decide) rfl) hS hQ hAe rfl (Nat.le_of_ble_eq_true rfl) (Nat.le_of_ble_eq_true rfl) d_Giving_init_46
set_option maxHeartbeats 4000000 in
set_option maxRecDepth 100000 in
theorem c_Kernel_init {l : Launch} {D : va_G} {tys : List (ClassId × FieldType)} {kI kL kZ kR kM : ClassId} {N : Nat} {h_t : Nat} {a1 : Int32} {u : Int32 × (Nat → Int64) × (Nat → Int64) × Int64 × Int32 × (Nat → Int32) × (Nat → Int32) × (Nat → Int32) × (Nat → Int32)} (TY : mTy tys kI kL kZ kR kM) (hf : p_Kernel_init N a1 = some u) (sz : Nat) : Met l y_Kernel_init ws_Kernel_init { frames := 2, cells := 7, slots := 102, locals := 32 } (mPre D tys [.ref h_t, .int a1] [(h_t, .inr (2, [.null, .null, .int (0 : Int32), .null]))] sz) (mPost D tys (fun _ : Nat × Nat × Nat × Nat × Nat × Nat × Nat => none) [(h_t, .inr (2, [.null, .null, .int (0 : Int32), .null]))] (fun x : Nat × Nat × Nat × Nat × Nat × Nat × Nat => [(h_t, .inr (2, [.ref x.1, .ref x.2.1, .int u.1, .ref x.2.2.1])), (x.1, .inl (kL, 16, .inr (.inl u.2.1))), (x.2.1, .inl (kL, 16, .inr (.inl u.2.2.1))), (x.2.2.1, .inr (1, [.ref x.2.2.2.1, .ref x.2.2.2.2.1, .ref x.2.2.2.2.2.1, .ref x.2.2.2.2.2.2, .long u.2.2.2.1, .int u.2.2.2.2.1])), (x.2.2.2.1, .inl (kI, 16, .inl u.2.2.2.2.2.1)), (x.2.2.2.2.1, .inl (kI, 16, .inl u.2.2.2.2.2.2.1)), (x.2.2.2.2.2.1, .inl (kI, 16, .inl u.2.2.2.2.2.2.2.1)), (x.2.2.2.2.2.2, .inl (kI, 16, .inl u.2.2.2.2.2.2.2.2))]) sz) 7 102 (va_A [(h_t, .inr (2, [.null, .null, .int (0 : Int32), .null]))] sz) := by
  refine m_ofW (cc := b_Kernel_init) (maxL := 2) (ret := none) (by decide) rfl (Nat.le_of_ble_eq_true rfl) ?_ sz
  intro p e s m args below meth c ls Q A hx hb hml hr hts hown hin hlk hK hN hP hD hA hS hl hQ hAe
  have hown : s.vm.findClass "RuleKernels$Kernel" = some m.cls := hown
  have hl : lv_has ls 2 [(0, .ref h_t), (1, .int a1)] := hl
  have w_f15 := (hts _ (List.mem_cons_of_mem _ tw_136))
  have w_f19 := (hts _ (List.mem_cons_of_mem _ tw_138))
  have w_f25 := (hts _ (List.mem_cons_of_mem _ tw_141))
  have w_f9 := (hts _ (List.mem_cons_of_mem _ tw_140))
  have w_i1 := (fun q h => List.mem_cons_of_mem _ (i_Giving q h) : ∀ q ∈ u_ws "RuleKernels$Giving" T_Giving 6, q ∈ ws_Kernel_init)
  have w_i2 := (fun q h => List.mem_cons_of_mem _ (i_Kernel q h) : ∀ q ∈ u_ws "RuleKernels$Kernel" T_Kernel 4, q ∈ ws_Kernel_init)
  unfold p_Kernel_init at hf
  refine lv_aload_n hx hb d_Kernel_init_0 rfl (lv_at hl 0 rfl) ?_
  refine W.objInit hx hb hown (hts _ (List.mem_cons_of_mem _ tw_110)) (hts _ (List.mem_cons_of_mem _ tw_61)) (hts _ (List.mem_cons_of_mem _ tc_objinit)) rfl (by rw [hml]; exact hl.1) rfl d_Kernel_init_1 (Nat.le_of_ble_eq_true rfl) (Nat.le_of_ble_eq_true rfl) ?_
  refine W.eq (g2 := F0 m 4 ls []) rfl ?_
  refine lv_aload_n hx hb d_Kernel_init_4 rfl (lv_at hl 0 rfl) ?_
  refine lv_iload_n hx hb d_Kernel_init_5 rfl (lv_at hl 1 rfl) ?_
  refine va_putF (D := D) (ci := 2) (v := .int a1) (ty := .int) (C := "RuleKernels$Kernel") (T := T_Kernel) (N := 4) hx hb hts w_i2 ty_Kernel ty_Kernel_ok nm_Kernel hown hK hP hD hS 0 rfl rfl 2 (by decide) w_f9 (fun _ h9 => h9) rfl hin rfl (by decide +kernel) rfl rfl (Nat.le_of_ble_eq_true rfl) d_Kernel_init_6 (fun H locs hP hD hS => ?_)
  have hP : va_P D vwCl [(h_t, .inr (2, [.null, .null, .int a1, .null]))] H := hP
  have hD : va_D A [(h_t, .inr (2, [.null, .null, .int a1, .null]))] := hD
  refine lv_aload_n hx hb d_Kernel_init_9 rfl (lv_at hl 0 rfl) ?_
  refine lv_bipush (v := 16) hx hb d_Kernel_init_10 (by decide) ?_
  refine m_newJ (N' := 16) hx hb (hts _ (List.mem_cons_of_mem _ tw_101)) TY hK hP hD hS hA (by decide) (by decide) (by decide) (Nat.le_of_ble_eq_true rfl) (Nat.le_of_ble_eq_true rfl) d_Kernel_init_12 (fun q12 H hP hD hS => ?_)
  have hP : va_P D vwCl [(h_t, .inr (2, [.null, .null, .int a1, .null])), (q12, .inl (kL, 16, .inr (.inl (fun _ => 0))))] H := hP
  have hD : va_D A [(h_t, .inr (2, [.null, .null, .int a1, .null])), (q12, .inl (kL, 16, .inr (.inl (fun _ => 0))))] := hD
  refine W.widen (k := 1) (n := 16) (Nat.le_of_ble_eq_true rfl) (Nat.le_of_ble_eq_true rfl) ?_
  refine va_putF (D := D) (ci := 2) (v := .ref q12) (ty := (.array .long)) (C := "RuleKernels$Kernel") (T := T_Kernel) (N := 4) hx hb hts w_i2 ty_Kernel ty_Kernel_ok nm_Kernel hown hK hP hD hS 0 rfl rfl 0 (by decide) w_f15 (fun _ h9 => h9) rfl hin rfl (by decide +kernel) rfl rfl (Nat.le_of_ble_eq_true rfl) d_Kernel_init_14 (fun H locs hP hD hS => ?_)
  have hP : va_P D vwCl [(h_t, .inr (2, [.ref q12, .null, .int a1, .null])), (q12, .inl (kL, 16, .inr (.inl (fun _ => 0))))] H := hP
  have hD : va_D A [(h_t, .inr (2, [.ref q12, .null, .int a1, .null])), (q12, .inl (kL, 16, .inr (.inl (fun _ => 0))))] := hD
  refine lv_aload_n hx hb d_Kernel_init_17 rfl (lv_at hl 0 rfl) ?_
  refine lv_bipush (v := 16) hx hb d_Kernel_init_18 (by decide) ?_
  refine m_newJ (N' := 16) hx hb (hts _ (List.mem_cons_of_mem _ tw_101)) TY hK hP hD hS hA (by decide) (by decide) (by decide) (Nat.le_of_ble_eq_true rfl) (Nat.le_of_ble_eq_true rfl) d_Kernel_init_20 (fun q20 H hP hD hS => ?_)
  have hP : va_P D vwCl [(h_t, .inr (2, [.ref q12, .null, .int a1, .null])), (q12, .inl (kL, 16, .inr (.inl (fun _ => 0)))), (q20, .inl (kL, 16, .inr (.inl (fun _ => 0))))] H := hP
  have hD : va_D A [(h_t, .inr (2, [.ref q12, .null, .int a1, .null])), (q12, .inl (kL, 16, .inr (.inl (fun _ => 0)))), (q20, .inl (kL, 16, .inr (.inl (fun _ => 0))))] := hD
  refine W.widen (k := 2) (n := 32) (Nat.le_of_ble_eq_true rfl) (Nat.le_of_ble_eq_true rfl) ?_
  refine va_putF (D := D) (ci := 2) (v := .ref q20) (ty := (.array .long)) (C := "RuleKernels$Kernel") (T := T_Kernel) (N := 4) hx hb hts w_i2 ty_Kernel ty_Kernel_ok nm_Kernel hown hK hP hD hS 0 rfl rfl 1 (by decide) w_f19 (fun _ h9 => h9) rfl hin rfl (by decide +kernel) rfl rfl (Nat.le_of_ble_eq_true rfl) d_Kernel_init_22 (fun H locs hP hD hS => ?_)
  have hP : va_P D vwCl [(h_t, .inr (2, [.ref q12, .ref q20, .int a1, .null])), (q12, .inl (kL, 16, .inr (.inl (fun _ => 0)))), (q20, .inl (kL, 16, .inr (.inl (fun _ => 0))))] H := hP
  have hD : va_D A [(h_t, .inr (2, [.ref q12, .ref q20, .int a1, .null])), (q12, .inl (kL, 16, .inr (.inl (fun _ => 0)))), (q20, .inl (kL, 16, .inr (.inl (fun _ => 0))))] := hD
  refine lv_aload_n hx hb d_Kernel_init_25 rfl (lv_at hl 0 rfl) ?_
  refine va_new (D := D) (ci := 1) (fs := [.null, .null, .null, .null, .long (0 : Int64), .int (0 : Int32)]) (C := "RuleKernels$Giving") (T := T_Giving) (N := 6) hx hb hts w_i1 ty_Giving ty_Giving_ok hown (hts _ (List.mem_cons_of_mem _ tw_111)) (hts _ (List.mem_cons_of_mem _ tw_112)) (hts _ (List.mem_cons_of_mem _ tw_46)) hK hP hD hS hA rfl (fun j hj => by rcases (show j = 0 ∨ j = 1 ∨ j = 2 ∨ j = 3 ∨ j = 4 ∨ j = 5 by omega) with rfl | rfl | rfl | rfl | rfl | rfl <;> rfl) (Nat.le_of_ble_eq_true rfl) (Nat.le_of_ble_eq_true rfl) d_Kernel_init_26 (fun q26 H hP hD hS => ?_)
  have hP : va_P D vwCl [(h_t, .inr (2, [.ref q12, .ref q20, .int a1, .null])), (q12, .inl (kL, 16, .inr (.inl (fun _ => 0)))), (q20, .inl (kL, 16, .inr (.inl (fun _ => 0)))), (q26, .inr (1, [.null, .null, .null, .null, .long (0 : Int64), .int (0 : Int32)]))] H := hP
  have hD : va_D A [(h_t, .inr (2, [.ref q12, .ref q20, .int a1, .null])), (q12, .inl (kL, 16, .inr (.inl (fun _ => 0)))), (q20, .inl (kL, 16, .inr (.inl (fun _ => 0)))), (q26, .inr (1, [.null, .null, .null, .null, .long (0 : Int64), .int (0 : Int32)]))] := hD
  refine W.widen (k := 3) (n := 38) (Nat.le_of_ble_eq_true rfl) (Nat.le_of_ble_eq_true rfl) ?_
  refine lv_dup hx hb d_Kernel_init_29 rfl ?_
  obtain ⟨⟨t_used_30, t_movable_30, t_given_30, t_askedBy_30, t_line_30, t_reach_30⟩, hc_30, hf⟩ := jb hf
  refine m_call (wc := [(q26, .inr (1, [.null, .null, .null, .null, .long (0 : Int64), .int (0 : Int32)]))]) (wr := [(h_t, .inr (2, [.ref q12, .ref q20, .int a1, .null])), (q12, .inl (kL, 16, .inr (.inl (fun _ => 0)))), (q20, .inl (kL, 16, .inr (.inl (fun _ => 0))))]) (w1 := fun x : Nat × Nat × Nat × Nat => [(q26, .inr (1, [.ref x.1, .ref x.2.1, .ref x.2.2.1, .ref x.2.2.2, .long t_used_30, .int t_movable_30])), (x.1, .inl (kI, 16, .inl t_given_30)), (x.2.1, .inl (kI, 16, .inl t_askedBy_30)), (x.2.2.1, .inl (kI, 16, .inl t_line_30)), (x.2.2.2, .inl (kI, 16, .inl t_reach_30))]) (wn := fun x : Nat × Nat × Nat × Nat => [(h_t, .inr (2, [.ref q12, .ref q20, .int a1, .null])), (q12, .inl (kL, 16, .inr (.inl (fun _ => 0)))), (q20, .inl (kL, 16, .inr (.inl (fun _ => 0)))), (q26, .inr (1, [.ref x.1, .ref x.2.1, .ref x.2.2.1, .ref x.2.2.2, .long t_used_30, .int t_movable_30])), (x.1, .inl (kI, 16, .inl t_given_30)), (x.2.1, .inl (kI, 16, .inl t_askedBy_30)), (x.2.2.1, .inl (kI, 16, .inl t_line_30)), (x.2.2.2, .inl (kI, 16, .inl t_reach_30))]) (o := fun _ : Nat × Nat × Nat × Nat => none) (va_runI (As := []) (rest := [.ref q26, .ref h_t]) ⟨hx, hb, hml, hown, hts⟩ (c_Giving_init (h_t := q26) (u := (t_used_30, t_movable_30, t_given_30, t_askedBy_30, t_line_30, t_reach_30)) TY hc_30 _) (cwI 0 hts (gT tc_Giving_init) rfl rfl rfl (hts _ (List.mem_cons_of_mem _ tw_46)) (hts _ (List.mem_cons_of_mem _ tw_113)) (hts _ (List.mem_cons_of_mem _ tw_114)) rfl (by decide +kernel) ⟨Nat.le_of_ble_eq_true rfl, Nat.le_of_ble_eq_true rfl⟩) (m_preS hK hN hP hD [3] rfl (by decide) _) rfl rfl hl.1 rfl (lv_room (Nat.le_of_ble_eq_true rfl)) d_Kernel_init_30 ⟨Nat.le_of_ble_eq_true rfl, Nat.le_of_ble_eq_true rfl⟩) hP hD hS hA [3] [0, 1, 2] [0, 1, 2, 3, 4, 5, 6, 7] rfl rfl (by decide) (by decide) (by decide) (fun _ => rfl) (fun x H locs hP hD hS => ?_)
  obtain ⟨q30_0, q30_1, q30_2, q30_3⟩ := x
  have hP : va_P D vwCl [(h_t, .inr (2, [.ref q12, .ref q20, .int a1, .null])), (q12, .inl (kL, 16, .inr (.inl (fun _ => 0)))), (q20, .inl (kL, 16, .inr (.inl (fun _ => 0)))), (q26, .inr (1, [.ref q30_0, .ref q30_1, .ref q30_2, .ref q30_3, .long t_used_30, .int t_movable_30])), (q30_0, .inl (kI, 16, .inl t_given_30)), (q30_1, .inl (kI, 16, .inl t_askedBy_30)), (q30_2, .inl (kI, 16, .inl t_line_30)), (q30_3, .inl (kI, 16, .inl t_reach_30))] H := hP
  have hD : va_D A [(h_t, .inr (2, [.ref q12, .ref q20, .int a1, .null])), (q12, .inl (kL, 16, .inr (.inl (fun _ => 0)))), (q20, .inl (kL, 16, .inr (.inl (fun _ => 0)))), (q26, .inr (1, [.ref q30_0, .ref q30_1, .ref q30_2, .ref q30_3, .long t_used_30, .int t_movable_30])), (q30_0, .inl (kI, 16, .inl t_given_30)), (q30_1, .inl (kI, 16, .inl t_askedBy_30)), (q30_2, .inl (kI, 16, .inl t_line_30)), (q30_3, .inl (kI, 16, .inl t_reach_30))] := hD
  refine W.eq (g2 := F0 m 33 ls [.ref q26, .ref h_t]) rfl ?_
  refine W.widen (k := 7) (n := 102) (Nat.le_of_ble_eq_true rfl) (Nat.le_of_ble_eq_true rfl) ?_
  refine va_putF (D := D) (ci := 2) (v := .ref q26) (ty := (.object "RuleKernels$Giving")) (C := "RuleKernels$Kernel") (T := T_Kernel) (N := 4) hx hb hts w_i2 ty_Kernel ty_Kernel_ok nm_Kernel hown hK hP hD hS 0 rfl rfl 3 (by decide) w_f25 (fun _ h9 => h9) rfl hin rfl (by decide +kernel) rfl rfl (Nat.le_of_ble_eq_true rfl) d_Kernel_init_33 (fun H locs hP hD hS => ?_)
  have hP : va_P D vwCl [(h_t, .inr (2, [.ref q12, .ref q20, .int a1, .ref q26])), (q12, .inl (kL, 16, .inr (.inl (fun _ => 0)))), (q20, .inl (kL, 16, .inr (.inl (fun _ => 0)))), (q26, .inr (1, [.ref q30_0, .ref q30_1, .ref q30_2, .ref q30_3, .long t_used_30, .int t_movable_30])), (q30_0, .inl (kI, 16, .inl t_given_30)), (q30_1, .inl (kI, 16, .inl t_askedBy_30)), (q30_2, .inl (kI, 16, .inl t_line_30)), (q30_3, .inl (kI, 16, .inl t_reach_30))] H := hP
  have hD : va_D A [(h_t, .inr (2, [.ref q12, .ref q20, .int a1, .ref q26])), (q12, .inl (kL, 16, .inr (.inl (fun _ => 0)))), (q20, .inl (kL, 16, .inr (.inl (fun _ => 0)))), (q26, .inr (1, [.ref q30_0, .ref q30_1, .ref q30_2, .ref q30_3, .long t_used_30, .int t_movable_30])), (q30_0, .inl (kI, 16, .inl t_given_30)), (q30_1, .inl (kI, 16, .inl t_askedBy_30)), (q30_2, .inl (kI, 16, .inl t_line_30)), (q30_3, .inl (kI, 16, .inl t_reach_30))] := hD
  have hu := Option.some.inj hf
  exact m_retv (q12, q20, q26, q30_0, q30_1, q30_2, q30_3) hx hb hr hlk hK (by rw [← hu]; exact m_subP hP [0, 1, 2, 3, 4, 5, 6, 7] rfl) (by rw [← hu]; exact hD.sub [0, 1, 2, 3, 4, 5, 6, 7] (by decide) rfl) hS hQ hAe rfl (Nat.le_of_ble_eq_true rfl) (Nat.le_of_ble_eq_true rfl) d_Kernel_init_36
