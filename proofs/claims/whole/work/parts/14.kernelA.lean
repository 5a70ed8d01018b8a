def p_Kernel_lowestOf (N : Nat) (a0 : Int64) : Option (Int32) := ((p_Lon_numberOfTrailingZeros N a0).bind fun r_1 => some r_1)
def p_Kernel_highestOf (N : Nat) (a0 : Int64) : Option (Int32) := ((p_Lon_numberOfLeadingZeros N a0).bind fun r_3 => some ((63 : Int32) - r_3))
def p_Kernel_leastOf (N : Nat) (a0 : Int32) (a1 : Int64) : Option (Int64) := (if a0 < 0 then ((p_Kernel_highestOf N a1).bind fun r_14 => some (a0.toInt64 * r_14.toInt64)) else ((p_Kernel_lowestOf N a1).bind fun r_7 => some (a0.toInt64 * r_7.toInt64)))
def p_Kernel_mostOf (N : Nat) (a0 : Int32) (a1 : Int64) : Option (Int64) := (if a0 < 0 then ((p_Kernel_lowestOf N a1).bind fun r_14 => some (a0.toInt64 * r_14.toInt64)) else ((p_Kernel_highestOf N a1).bind fun r_7 => some (a0.toInt64 * r_7.toInt64)))
def p_Kernel_below (N : Nat) (a0 : Int32) : Option (Int64) := (if a0 < (64 : Int32) then some ((j_lshl (1 : Int64) a0) - (1 : Int64)) else some (-1 : Int64))
def p_Kernel_bitOf (N : Nat) (t_symbolCount : Int32) (a1 : Int32) : Option (Int64) := (if a1 < 0 then some (0 : Int64) else (if t_symbolCount ≤ a1 then some (0 : Int64) else some (j_lshl (1 : Int64) a1)))
def q_Kernel_within_57 (N : Nat) (K6 : Int64 → Int32 → Option (Int64)) (x8 : Int64) (x10 : Int32) : Option (Int64) := K6 x8 (x10 + 1)
def q_Kernel_within_6 (N : Nat) (t_symbolCount : Int32) (a1 : Int64) (a3 : Int32) (a4 : Int64) (a6 : Int64) : Nat → Int64 → Int32 → Option (Int64)
  | 0 => fun _ _ => none
  | n + 1 => fun x8 x10 => (if t_symbolCount ≤ x10 then some x8 else ((p_RK_has N a1 x10).bind fun r_26 => (if r_26 = 0 then q_Kernel_within_57 N (q_Kernel_within_6 N t_symbolCount a1 a3 a4 a6 n) x8 x10 else (if (lg_cmp (a3.toInt64 * x10.toInt64) a4) < 0 then q_Kernel_within_57 N (q_Kernel_within_6 N t_symbolCount a1 a3 a4 a6 n) x8 x10 else (if 0 < (lg_cmp (a3.toInt64 * x10.toInt64) a6) then q_Kernel_within_57 N (q_Kernel_within_6 N t_symbolCount a1 a3 a4 a6 n) x8 x10 else q_Kernel_within_57 N (q_Kernel_within_6 N t_symbolCount a1 a3 a4 a6 n) (x8 ||| (j_lshl (1 : Int64) x10)) x10)))))
def p_Kernel_within (N : Nat) (t_symbolCount : Int32) (a1 : Int64) (a3 : Int32) (a4 : Int64) (a6 : Int64) : Option (Int64) := q_Kernel_within_6 N t_symbolCount a1 a3 a4 a6  N (0 : Int64) (0 : Int32)
def p_Kernel_keepNothing (N : Nat) (t_keep : Nat → Int64) : Option ((Nat → Int64)) := ((p_Arr_fill N 16 t_keep (0 : Int64)).bind fun p0_f_5 => some p0_f_5)
def q_Kernel_keepUnlike_34 (N : Nat) (t_have : Nat → Int64) (a1 : Int32) : Nat → Int32 → (Nat → Int64) → Int64 → Int32 → (Nat → Int32) → (Nat → Int32) → (Nat → Int32) → (Nat → Int32) → Option ((Nat → Int64) × Int64 × Int32 × (Nat → Int32) × (Nat → Int32) × (Nat → Int32) × (Nat → Int32))
  | 0 => fun _ _ _ _ _ _ _ _ => none
  | n + 1 => fun x2 t_keep t_giving_used t_giving_movable t_giving_given t_giving_askedBy t_giving_line t_giving_reach => (if a1 ≤ x2 then some (t_keep, t_giving_used, t_giving_movable, t_giving_given, t_giving_askedBy, t_giving_line, t_giving_reach) else (jin x2 16 ((p_Giving_possible N t_giving_used t_giving_movable t_giving_given t_giving_reach (t_have x2.toNatClampNeg) x2 a1).bind fun r_56 => (jin x2 16 (q_Kernel_keepUnlike_34 N t_have a1 n (x2 + 1) (vp_updL t_keep x2.toNatClampNeg r_56) t_giving_used t_giving_movable t_giving_given t_giving_askedBy t_giving_line t_giving_reach)))))
def p_Kernel_keepUnlike (N : Nat) (t_have : Nat → Int64) (t_keep : Nat → Int64) (t_giving_movable : Int32) (t_giving_given : Nat → Int32) (t_giving_askedBy : Nat → Int32) (t_giving_line : Nat → Int32) (t_giving_reach : Nat → Int32) (a1 : Int32) : Option ((Nat → Int64) × Int64 × Int32 × (Nat → Int32) × (Nat → Int32) × (Nat → Int32) × (Nat → Int32)) := ((p_Giving_giveAll N t_giving_given t_giving_askedBy t_giving_line t_have a1).bind fun (r_9, t_used_9, t_given_9, t_askedBy_9, t_line_9) => (if r_9 = 0 then ((p_Kernel_keepNothing N t_keep).bind fun t_keep_16 => some (t_keep_16, t_used_9, t_giving_movable, t_given_9, t_askedBy_9, t_line_9, t_giving_reach)) else ((p_Giving_findReach N t_used_9 t_given_9 t_giving_reach t_have a1).bind fun (t_movable_29, t_reach_29) => q_Kernel_keepUnlike_34 N t_have a1  N (0 : Int32) t_keep t_used_9 t_movable_29 t_given_9 t_askedBy_9 t_line_9 t_reach_29)))
def q_Kernel_keepEqual_29 (N : Nat) (x2 : Int64) (t_keep : Nat → Int64) : Option ((Nat → Int64)) := ((p_Arr_fill N 16 t_keep x2).bind fun p0_f_34 => some p0_f_34)
def q_Kernel_keepEqual_7 (N : Nat) (t_have : Nat → Int64) (a1 : Int32) : Nat → Int64 → Int32 → (Nat → Int64) → Option ((Nat → Int64))
  | 0 => fun _ _ _ => none
  | n + 1 => fun x2 x4 t_keep => (if a1 ≤ x4 then q_Kernel_keepEqual_29 N  x2 t_keep else (jin x4 16 (q_Kernel_keepEqual_7 N t_have a1 n (x2 &&& (t_have x4.toNatClampNeg)) (x4 + 1) t_keep)))
def p_Kernel_keepEqual (N : Nat) (t_have : Nat → Int64) (t_keep : Nat → Int64) (a1 : Int32) : Option ((Nat → Int64)) := q_Kernel_keepEqual_7 N t_have a1  N (-1 : Int64) (0 : Int32) t_keep
def q_Kernel_keepSum_190 (N : Nat) (K68 : Int64 → Int64 → Int32 → (Nat → Int64) → Option ((Nat → Int64))) (x2 : Int64) (x4 : Int64) (x6 : Int32) (t_keep : Nat → Int64) : Option ((Nat → Int64)) := K68 x2 x4 (x6 + 1) t_keep
def q_Kernel_keepSum_166 (N : Nat) (t_symbolCount : Int32) (t_have : Nat → Int64) (K68 : Int64 → Int64 → Int32 → (Nat → Int64) → Option ((Nat → Int64))) (x2 : Int64) (x4 : Int64) (x6 : Int32) (x7 : Int32) (x12 : Int64) (x14 : Int64) (t_keep : Nat → Int64) : Option ((Nat → Int64)) := (jin x6 16 ((p_Kernel_within N t_symbolCount (t_have x6.toNatClampNeg) x7 x14 x12).bind fun r_186 => (jin x6 16 (q_Kernel_keepSum_190 N K68 x2 x4 x6 (vp_updL t_keep x6.toNatClampNeg r_186)))))
def q_Kernel_keepSum_148 (N : Nat) (t_symbolCount : Int32) (t_have : Nat → Int64) (K68 : Int64 → Int64 → Int32 → (Nat → Int64) → Option ((Nat → Int64))) (x2 : Int64) (x4 : Int64) (x6 : Int32) (x7 : Int32) (x8 : Int64) (x10 : Int64) (x12 : Int64) (z0 : Int64) (t_keep : Nat → Int64) : Option ((Nat → Int64)) := (if (lg_cmp x8 z0) < 0 then q_Kernel_keepSum_166 N t_symbolCount t_have K68 x2 x4 x6 x7 x12 z0 t_keep else (if (lg_cmp x10 x12) ≤ 0 then q_Kernel_keepSum_190 N K68 x2 x4 x6 t_keep else q_Kernel_keepSum_166 N t_symbolCount t_have K68 x2 x4 x6 x7 x12 z0 t_keep))
def q_Kernel_keepSum_68 (N : Nat) (t_symbolCount : Int32) (t_have : Nat → Int64) (p1_kind : Int32) (p1_right : Int64) (p1_size : Int32) (p1_factors : Nat → Int32) : Nat → Int64 → Int64 → Int32 → (Nat → Int64) → Option ((Nat → Int64))
  | 0 => fun _ _ _ _ => none
  | n + 1 => fun x2 x4 x6 t_keep => (if p1_size ≤ x6 then some t_keep else (jin x6 16 (jin x6 16 ((p_Kernel_leastOf N (p1_factors x6.toNatClampNeg) (t_have x6.toNatClampNeg)).bind fun r_95 => (jin x6 16 ((p_Kernel_mostOf N (p1_factors x6.toNatClampNeg) (t_have x6.toNatClampNeg)).bind fun r_109 => (if p1_kind = (2 : Int32) then q_Kernel_keepSum_148 N t_symbolCount t_have (q_Kernel_keepSum_68 N t_symbolCount t_have p1_kind p1_right p1_size p1_factors n) x2 x4 x6 (p1_factors x6.toNatClampNeg) r_95 r_109 (p1_right - (x2 - r_95)) (p1_right - (x4 - r_109)) t_keep else q_Kernel_keepSum_148 N t_symbolCount t_have (q_Kernel_keepSum_68 N t_symbolCount t_have p1_kind p1_right p1_size p1_factors n) x2 x4 x6 (p1_factors x6.toNatClampNeg) r_95 r_109 (p1_right - (x2 - r_95)) r_95 t_keep)))))))
def q_Kernel_keepSum_65 (N : Nat) (t_symbolCount : Int32) (t_have : Nat → Int64) (p1_kind : Int32) (p1_right : Int64) (p1_size : Int32) (p1_factors : Nat → Int32) (x2 : Int64) (x4 : Int64) (t_keep : Nat → Int64) : Option ((Nat → Int64)) := q_Kernel_keepSum_68 N t_symbolCount t_have p1_kind p1_right p1_size p1_factors  N x2 x4 (0 : Int32) t_keep
def q_Kernel_keepSum_8 (N : Nat) (t_symbolCount : Int32) (t_have : Nat → Int64) (p1_kind : Int32) (p1_right : Int64) (p1_size : Int32) (p1_factors : Nat → Int32) : Nat → Int64 → Int64 → Int32 → (Nat → Int64) → Option ((Nat → Int64))
  | 0 => fun _ _ _ _ => none
  | n + 1 => fun x2 x4 x6 t_keep => (if p1_size ≤ x6 then q_Kernel_keepSum_65 N t_symbolCount t_have p1_kind p1_right p1_size p1_factors  x2 x4 t_keep else (jin x6 16 (jin x6 16 ((p_Kernel_leastOf N (p1_factors x6.toNatClampNeg) (t_have x6.toNatClampNeg)).bind fun r_32 => (jin x6 16 (jin x6 16 ((p_Kernel_mostOf N (p1_factors x6.toNatClampNeg) (t_have x6.toNatClampNeg)).bind fun r_53 => q_Kernel_keepSum_8 N t_symbolCount t_have p1_kind p1_right p1_size p1_factors n (x2 + r_32) (x4 + r_53) (x6 + 1) t_keep)))))))
def p_Kernel_keepSum (N : Nat) (t_symbolCount : Int32) (t_have : Nat → Int64) (t_keep : Nat → Int64) (p1_kind : Int32) (p1_right : Int64) (p1_size : Int32) (p1_factors : Nat → Int32) : Option ((Nat → Int64)) := q_Kernel_keepSum_8 N t_symbolCount t_have p1_kind p1_right p1_size p1_factors  N (0 : Int64) (0 : Int64) (0 : Int32) t_keep
set_option maxHeartbeats 4000000 in
set_option maxRecDepth 100000 in
theorem c_Kernel_lowestOf {l : Launch} {D : va_G} {tys : List (ClassId × FieldType)} {kI kL kZ kR kM : ClassId} {N : Nat} {a0 : Int64} {u : Int32} (TY : mTy tys kI kL kZ kR kM) (hf : p_Kernel_lowestOf N a0 = some u) (sz : Nat) : Met l y_Kernel_lowestOf ws_Kernel_lowestOf { frames := 2, cells := 0, slots := 0, locals := 43 } (mPre D tys [.long a0] [] sz) (mPost D tys (fun _ : Unit => some (.int u)) [] (fun x : Unit => []) sz) 0 0 (va_A [] sz) := by
  refine m_ofW (cc := b_Kernel_lowestOf) (maxL := 2) (ret := (some .int)) (by decide) rfl (Nat.le_of_ble_eq_true rfl) ?_ sz
  intro p e s m args below meth c ls Q A hx hb hml hr hts hown hin hlk hK hN hP hD hA hS hl hQ hAe
  have hown : s.vm.findClass "RuleKernels$Kernel" = some m.cls := hown
  have hl : lv_has ls 2 [(0, .long a0)] := hl
  unfold p_Kernel_lowestOf at hf
  refine lv_lload_n hx hb d_Kernel_lowestOf_0 rfl (lv_at hl 0 rfl) ?_
  obtain ⟨r_1, hc_1, hf⟩ := jb hf
  refine m_call (wc := []) (wr := []) (w1 := fun x : Unit => []) (wn := fun x : Unit => []) (o := fun _ : Unit => some (.int r_1)) (va_runS (As := [.long a0]) (rest := []) ⟨hx, hb, hml, hown, hts⟩ (c_Lon_numberOfTrailingZeros (a0 := a0) (u := r_1) TY hc_1 _) (va_cwS 1 hts (gS tw_415 tw_376 tw_52 tc_Lon_numberOfTrailingZeros) rfl rfl rfl (by decide +kernel) ⟨Nat.le_of_ble_eq_true rfl, Nat.le_of_ble_eq_true rfl⟩) (m_preS hK hN hP hD [] rfl (by decide) _) rfl rfl hl.1 rfl (lv_room (Nat.le_of_ble_eq_true rfl)) d_Kernel_lowestOf_1 ⟨Nat.le_of_ble_eq_true rfl, Nat.le_of_ble_eq_true rfl⟩) hP hD hS hA [] [] [] rfl rfl (by decide) (by decide) (by decide) (fun _ => rfl) (fun x H locs hP hD hS => ?_)
  have hP : va_P D vwCl [] H := hP
  have hD : va_D A [] := hD
  refine W.eq (g2 := F0 m 4 ls [.int r_1]) rfl ?_
  have hu := Option.some.inj hf
  exact m_reti () hx hb hr hlk hK hP hD hS hQ hAe (by rw [← hu]) (Nat.le_of_ble_eq_true rfl) (Nat.le_of_ble_eq_true rfl) d_Kernel_lowestOf_4
set_option maxHeartbeats 4000000 in
set_option maxRecDepth 100000 in
theorem c_Kernel_highestOf {l : Launch} {D : va_G} {tys : List (ClassId × FieldType)} {kI kL kZ kR kM : ClassId} {N : Nat} {a0 : Int64} {u : Int32} (TY : mTy tys kI kL kZ kR kM) (hf : p_Kernel_highestOf N a0 = some u) (sz : Nat) : Met l y_Kernel_highestOf ws_Kernel_highestOf { frames := 2, cells := 0, slots := 0, locals := 43 } (mPre D tys [.long a0] [] sz) (mPost D tys (fun _ : Unit => some (.int u)) [] (fun x : Unit => []) sz) 0 0 (va_A [] sz) := by
  refine m_ofW (cc := b_Kernel_highestOf) (maxL := 2) (ret := (some .int)) (by decide) rfl (Nat.le_of_ble_eq_true rfl) ?_ sz
  intro p e s m args below meth c ls Q A hx hb hml hr hts hown hin hlk hK hN hP hD hA hS hl hQ hAe
  have hown : s.vm.findClass "RuleKernels$Kernel" = some m.cls := hown
  have hl : lv_has ls 2 [(0, .long a0)] := hl
  unfold p_Kernel_highestOf at hf
  refine lv_bipush (v := 63) hx hb d_Kernel_highestOf_0 (by decide) ?_
  refine lv_lload_n hx hb d_Kernel_highestOf_2 rfl (lv_at hl 0 rfl) ?_
  obtain ⟨r_3, hc_3, hf⟩ := jb hf
  refine m_call (wc := []) (wr := []) (w1 := fun x : Unit => []) (wn := fun x : Unit => []) (o := fun _ : Unit => some (.int r_3)) (va_runS (As := [.long a0]) (rest := [.int (63 : Int32)]) ⟨hx, hb, hml, hown, hts⟩ (c_Lon_numberOfLeadingZeros (a0 := a0) (u := r_3) TY hc_3 _) (va_cwS 1 hts (gS tw_419 tw_420 tw_52 tc_Lon_numberOfLeadingZeros) rfl rfl rfl (by decide +kernel) ⟨Nat.le_of_ble_eq_true rfl, Nat.le_of_ble_eq_true rfl⟩) (m_preS hK hN hP hD [] rfl (by decide) _) rfl rfl hl.1 rfl (lv_room (Nat.le_of_ble_eq_true rfl)) d_Kernel_highestOf_3 ⟨Nat.le_of_ble_eq_true rfl, Nat.le_of_ble_eq_true rfl⟩) hP hD hS hA [] [] [] rfl rfl (by decide) (by decide) (by decide) (fun _ => rfl) (fun x H locs hP hD hS => ?_)
  have hP : va_P D vwCl [] H := hP
  have hD : va_D A [] := hD
  refine W.eq (g2 := F0 m 6 ls [.int r_3, .int (63 : Int32)]) rfl ?_
  refine lv_isub hx hb d_Kernel_highestOf_6 ?_
  have hu := Option.some.inj hf
  exact m_reti () hx hb hr hlk hK hP hD hS hQ hAe (by rw [← hu]) (Nat.le_of_ble_eq_true rfl) (Nat.le_of_ble_eq_true rfl) d_Kernel_highestOf_7
set_option maxHeartbeats 4000000 in
set_option maxRecDepth 100000 in
theorem c_Kernel_leastOf {l : Launch} {D : va_G} {tys : List (ClassId × FieldType)} {kI kL kZ kR kM : ClassId} {N : Nat} {a0 : Int32} {a1 : Int64} {u : Int64} (TY : mTy tys kI kL kZ kR kM) (hf : p_Kernel_leastOf N a0 a1 = some u) (sz : Nat) : Met l y_Kernel_leastOf ws_Kernel_leastOf { frames := 3, cells := 0, slots := 0, locals := 64 } (mPre D tys [.int a0, .long a1] [] sz) (mPost D tys (fun _ : Unit => some (.long u)) [] (fun x : Unit => []) sz) 0 0 (va_A [] sz) := by
  refine m_ofW (cc := b_Kernel_leastOf) (maxL := 3) (ret := (some .long)) (by decide) rfl (Nat.le_of_ble_eq_true rfl) ?_ sz
  intro p e s m args below meth c ls Q A hx hb hml hr hts hown hin hlk hK hN hP hD hA hS hl hQ hAe
  have hown : s.vm.findClass "RuleKernels$Kernel" = some m.cls := hown
  have hl : lv_has ls 3 [(0, .int a0), (1, .long a1)] := hl
  unfold p_Kernel_leastOf at hf
  refine lv_iload_n hx hb d_Kernel_leastOf_0 rfl (lv_at hl 0 rfl) ?_
  refine lv_i2l (v := a0.toInt64) hx hb d_Kernel_leastOf_1 rfl ?_
  refine lv_iload_n hx hb d_Kernel_leastOf_2 rfl (lv_at hl 0 rfl) ?_
  refine lv_if_lt (tgt := 13) hx hb d_Kernel_leastOf_3 (by decide) (fun c_3 => ?_) (fun c_3 => ?_)
  · replace hf := (if_pos c_3).symm.trans hf
    refine lv_lload_n hx hb d_Kernel_leastOf_13 rfl (lv_at hl 1 rfl) ?_
    obtain ⟨r_14, hc_14, hf⟩ := jb hf
    refine m_call (wc := []) (wr := []) (w1 := fun x : Unit => []) (wn := fun x : Unit => []) (o := fun _ : Unit => some (.int r_14)) (va_runS (As := [.long a1]) (rest := [.long a0.toInt64]) ⟨hx, hb, hml, hown, hts⟩ (c_Kernel_highestOf (a0 := a1) (u := r_14) TY hc_14 _) (va_cwS 1 hts (gS tw_416 tw_417 tw_45 tc_Kernel_highestOf) rfl rfl rfl (by decide +kernel) ⟨Nat.le_of_ble_eq_true rfl, Nat.le_of_ble_eq_true rfl⟩) (m_preS hK hN hP hD [] rfl (by decide) _) rfl rfl hl.1 rfl (lv_room (Nat.le_of_ble_eq_true rfl)) d_Kernel_leastOf_14 ⟨Nat.le_of_ble_eq_true rfl, Nat.le_of_ble_eq_true rfl⟩) hP hD hS hA [] [] [] rfl rfl (by decide) (by decide) (by decide) (fun _ => rfl) (fun x H locs hP hD hS => ?_)
    have hP : va_P D vwCl [] H := hP
    have hD : va_D A [] := hD
    refine W.eq (g2 := F0 m 17 ls [.int r_14, .long a0.toInt64]) rfl ?_
    refine lv_i2l (v := r_14.toInt64) hx hb d_Kernel_leastOf_17 rfl ?_
    refine lv_lmul hx hb d_Kernel_leastOf_18 ?_
    have hu := Option.some.inj hf
    exact m_retl () hx hb hr hlk hK hP hD hS hQ hAe (by rw [← hu]) (Nat.le_of_ble_eq_true rfl) (Nat.le_of_ble_eq_true rfl) d_Kernel_leastOf_19
  · replace hf := (if_neg c_3).symm.trans hf
    refine lv_lload_n hx hb d_Kernel_leastOf_6 rfl (lv_at hl 1 rfl) ?_
    obtain ⟨r_7, hc_7, hf⟩ := jb hf
    refine m_call (wc := []) (wr := []) (w1 := fun x : Unit => []) (wn := fun x : Unit => []) (o := fun _ : Unit => some (.int r_7)) (va_runS (As := [.long a1]) (rest := [.long a0.toInt64]) ⟨hx, hb, hml, hown, hts⟩ (c_Kernel_lowestOf (a0 := a1) (u := r_7) TY hc_7 _) (va_cwS 1 hts (gS tw_412 tw_413 tw_45 tc_Kernel_lowestOf) rfl rfl rfl (by decide +kernel) ⟨Nat.le_of_ble_eq_true rfl, Nat.le_of_ble_eq_true rfl⟩) (m_preS hK hN hP hD [] rfl (by decide) _) rfl rfl hl.1 rfl (lv_room (Nat.le_of_ble_eq_true rfl)) d_Kernel_leastOf_7 ⟨Nat.le_of_ble_eq_true rfl, Nat.le_of_ble_eq_true rfl⟩) hP hD hS hA [] [] [] rfl rfl (by decide) (by decide) (by decide) (fun _ => rfl) (fun x H locs hP hD hS => ?_)
    have hP : va_P D vwCl [] H := hP
    have hD : va_D A [] := hD
    refine W.eq (g2 := F0 m 10 ls [.int r_7, .long a0.toInt64]) rfl ?_
    refine lv_goto (tgt := 17) hx hb d_Kernel_leastOf_10 (by decide) ?_
    refine lv_i2l (v := r_7.toInt64) hx hb d_Kernel_leastOf_17 rfl ?_
    refine lv_lmul hx hb d_Kernel_leastOf_18 ?_
    have hu := Option.some.inj hf
    exact m_retl () hx hb hr hlk hK hP hD hS hQ hAe (by rw [← hu]) (Nat.le_of_ble_eq_true rfl) (Nat.le_of_ble_eq_true rfl) d_Kernel_leastOf_19
set_option maxHeartbeats 4000000 in
set_option maxRecDepth 100000 in
theorem c_Kernel_mostOf {l : Launch} {D : va_G} {tys : List (ClassId × FieldType)} {kI kL kZ kR kM : ClassId} {N : Nat} {a0 : Int32} {a1 : Int64} {u : Int64} (TY : mTy tys kI kL kZ kR kM) (hf : p_Kernel_mostOf N a0 a1 = some u) (sz : Nat) : Met l y_Kernel_mostOf ws_Kernel_mostOf { frames := 3, cells := 0, slots := 0, locals := 64 } (mPre D tys [.int a0, .long a1] [] sz) (mPost D tys (fun _ : Unit => some (.long u)) [] (fun x : Unit => []) sz) 0 0 (va_A [] sz) := by
  refine m_ofW (cc := b_Kernel_mostOf) (maxL := 3) (ret := (some .long)) (by decide) rfl (Nat.le_of_ble_eq_true rfl) ?_ sz
  intro p e s m args below meth c ls Q A hx hb hml hr hts hown hin hlk hK hN hP hD hA hS hl hQ hAe
  have hown : s.vm.findClass "RuleKernels$Kernel" = some m.cls := hown
  have hl : lv_has ls 3 [(0, .int a0), (1, .long a1)] := hl
  unfold p_Kernel_mostOf at hf
  refine lv_iload_n hx hb d_Kernel_mostOf_0 rfl (lv_at hl 0 rfl) ?_
  refine lv_i2l (v := a0.toInt64) hx hb d_Kernel_mostOf_1 rfl ?_
  refine lv_iload_n hx hb d_Kernel_mostOf_2 rfl (lv_at hl 0 rfl) ?_
  refine lv_if_lt (tgt := 13) hx hb d_Kernel_mostOf_3 (by decide) (fun c_3 => ?_) (fun c_3 => ?_)
  · replace hf := (if_pos c_3).symm.trans hf
    refine lv_lload_n hx hb d_Kernel_mostOf_13 rfl (lv_at hl 1 rfl) ?_
    obtain ⟨r_14, hc_14, hf⟩ := jb hf
    refine m_call (wc := []) (wr := []) (w1 := fun x : Unit => []) (wn := fun x : Unit => []) (o := fun _ : Unit => some (.int r_14)) (va_runS (As := [.long a1]) (rest := [.long a0.toInt64]) ⟨hx, hb, hml, hown, hts⟩ (c_Kernel_lowestOf (a0 := a1) (u := r_14) TY hc_14 _) (va_cwS 1 hts (gS tw_412 tw_413 tw_45 tc_Kernel_lowestOf) rfl rfl rfl (by decide +kernel) ⟨Nat.le_of_ble_eq_true rfl, Nat.le_of_ble_eq_true rfl⟩) (m_preS hK hN hP hD [] rfl (by decide) _) rfl rfl hl.1 rfl (lv_room (Nat.le_of_ble_eq_true rfl)) d_Kernel_mostOf_14 ⟨Nat.le_of_ble_eq_true rfl, Nat.le_of_ble_eq_true rfl⟩) hP hD hS hA [] [] [] rfl rfl (by decide) (by decide) (by decide) (fun _ => rfl) (fun x H locs hP hD hS => ?_)
    have hP : va_P D vwCl [] H := hP
    have hD : va_D A [] := hD
    refine W.eq (g2 := F0 m 17 ls [.int r_14, .long a0.toInt64]) rfl ?_
    refine lv_i2l (v := r_14.toInt64) hx hb d_Kernel_mostOf_17 rfl ?_
    refine lv_lmul hx hb d_Kernel_mostOf_18 ?_
    have hu := Option.some.inj hf
    exact m_retl () hx hb hr hlk hK hP hD hS hQ hAe (by rw [← hu]) (Nat.le_of_ble_eq_true rfl) (Nat.le_of_ble_eq_true rfl) d_Kernel_mostOf_19
  · replace hf := (if_neg c_3).symm.trans hf
    refine lv_lload_n hx hb d_Kernel_mostOf_6 rfl (lv_at hl 1 rfl) ?_
    obtain ⟨r_7, hc_7, hf⟩ := jb hf
    refine m_call (wc := []) (wr := []) (w1 := fun x : Unit => []) (wn := fun x : Unit => []) (o := fun _ : Unit => some (.int r_7)) (va_runS (As := [.long a1]) (rest := [.long a0.toInt64]) ⟨hx, hb, hml, hown, hts⟩ (c_Kernel_highestOf (a0 := a1) (u := r_7) TY hc_7 _) (va_cwS 1 hts (gS tw_416 tw_417 tw_45 tc_Kernel_highestOf) rfl rfl rfl (by decide +kernel) ⟨Nat.le_of_ble_eq_true rfl, Nat.le_of_ble_eq_true rfl⟩) (m_preS hK hN hP hD [] rfl (by decide) _) rfl rfl hl.1 rfl (lv_room (Nat.le_of_ble_eq_true rfl)) d_Kernel_mostOf_7 ⟨Nat.le_of_ble_eq_true rfl, Nat.le_of_ble_eq_true rfl⟩) hP hD hS hA [] [] [] rfl rfl (by decide) (by decide) (by decide) (fun _ => rfl) (fun x H locs hP hD hS => ?_)
    have hP : va_P D vwCl [] H := hP
    have hD : va_D A [] := hD
    refine W.eq (g2 := F0 m 10 ls [.int r_7, .long a0.toInt64]) rfl ?_
    refine lv_goto (tgt := 17) hx hb d_Kernel_mostOf_10 (by decide) ?_
    refine lv_i2l (v := r_7.toInt64) hx hb d_Kernel_mostOf_17 rfl ?_
    refine lv_lmul hx hb d_Kernel_mostOf_18 ?_
    have hu := Option.some.inj hf
    exact m_retl () hx hb hr hlk hK hP hD hS hQ hAe (by rw [← hu]) (Nat.le_of_ble_eq_true rfl) (Nat.le_of_ble_eq_true rfl) d_Kernel_mostOf_19
set_option maxHeartbeats 4000000 in
set_option maxRecDepth 100000 in
theorem c_Kernel_below {l : Launch} {D : va_G} {tys : List (ClassId × FieldType)} {kI kL kZ kR kM : ClassId} {N : Nat} {a0 : Int32} {u : Int64} (TY : mTy tys kI kL kZ kR kM) (hf : p_Kernel_below N a0 = some u) (sz : Nat) : Met l y_Kernel_below ws_Kernel_below { frames := 0, cells := 0, slots := 0, locals := 0 } (mPre D tys [.int a0] [] sz) (mPost D tys (fun _ : Unit => some (.long u)) [] (fun x : Unit => []) sz) 0 0 (va_A [] sz) := by
  refine m_ofW (cc := b_Kernel_below) (maxL := 1) (ret := (some .long)) (by decide) rfl (Nat.le_of_ble_eq_true rfl) ?_ sz
  intro p e s m args below meth c ls Q A hx hb hml hr hts hown hin hlk hK hN hP hD hA hS hl hQ hAe
  have hown : s.vm.findClass "RuleKernels$Kernel" = some m.cls := hown
  have hl : lv_has ls 1 [(0, .int a0)] := hl
  have w_k87 := (hts _ (List.mem_cons_of_mem _ tw_404))
  unfold p_Kernel_below at hf
  refine lv_iload_n hx hb d_Kernel_below_0 rfl (lv_at hl 0 rfl) ?_
  refine lv_bipush (v := 64) hx hb d_Kernel_below_1 (by decide) ?_
  refine lv_icmp_lt (tgt := 12) hx hb d_Kernel_below_3 (by decide) (fun c_3 => ?_) (fun c_3 => ?_)
  · replace hf := (if_pos c_3).symm.trans hf
    refine lv_lconst (v := 1) hx hb d_Kernel_below_12 (by decide) ?_
    refine lv_iload_n hx hb d_Kernel_below_13 rfl (lv_at hl 0 rfl) ?_
    refine lv_lshl (v := (j_lshl (1 : Int64) a0)) hx hb d_Kernel_below_14 rfl ?_
    refine lv_lconst (v := 1) hx hb d_Kernel_below_15 (by decide) ?_
    refine lv_lsub hx hb d_Kernel_below_16 ?_
    have hu := Option.some.inj hf
    exact m_retl () hx hb hr hlk hK hP hD hS hQ hAe (by rw [← hu]) (Nat.le_of_ble_eq_true rfl) (Nat.le_of_ble_eq_true rfl) d_Kernel_below_17
  · replace hf := (if_neg c_3).symm.trans hf
    refine lv_ldc2 (v := -1) hx hb hown w_k87 d_Kernel_below_6 ?_
    refine lv_goto (tgt := 17) hx hb d_Kernel_below_9 (by decide) ?_
    have hu := Option.some.inj hf
    exact m_retl () hx hb hr hlk hK hP hD hS hQ hAe (by rw [← hu]) (Nat.le_of_ble_eq_true rfl) (Nat.le_of_ble_eq_true rfl) d_Kernel_below_17
set_option maxHeartbeats 4000000 in
set_option maxRecDepth 100000 in
theorem c_Kernel_bitOf {l : Launch} {D : va_G} {tys : List (ClassId × FieldType)} {kI kL kZ kR kM : ClassId} {N : Nat} {h_t h_t_have h_t_keep h_t_giving : Nat} {t_symbolCount : Int32} {a1 : Int32} {u : Int64} (TY : mTy tys kI kL kZ kR kM) (hf : p_Kernel_bitOf N t_symbolCount a1 = some u) (sz : Nat) : Met l y_Kernel_bitOf ws_Kernel_bitOf { frames := 0, cells := 0, slots := 0, locals := 0 } (mPre D tys [.ref h_t, .int a1] [(h_t, .inr (2, [.ref h_t_have, .ref h_t_keep, .int t_symbolCount, .ref h_t_giving]))] sz) (mPost D tys (fun _ : Unit => some (.long u)) [(h_t, .inr (2, [.ref h_t_have, .ref h_t_keep, .int t_symbolCount, .ref h_t_giving]))] (fun x : Unit => [(h_t, .inr (2, [.ref h_t_have, .ref h_t_keep, .int t_symbolCount, .ref h_t_giving]))]) sz) 0 0 (va_A [(h_t, .inr (2, [.ref h_t_have, .ref h_t_keep, .int t_symbolCount, .ref h_t_giving]))] sz) := by
  refine m_ofW (cc := b_Kernel_bitOf) (maxL := 2) (ret := (some .long)) (by decide) rfl (Nat.le_of_ble_eq_true rfl) ?_ sz
  intro p e s m args below meth c ls Q A hx hb hml hr hts hown hin hlk hK hN hP hD hA hS hl hQ hAe
  have hown : s.vm.findClass "RuleKernels$Kernel" = some m.cls := hown
  have hl : lv_has ls 2 [(0, .ref h_t), (1, .int a1)] := hl
  have w_f9 := (hts _ (List.mem_cons_of_mem _ tw_140))
  have w_i2 := (fun q h => List.mem_cons_of_mem _ (i_Kernel q h) : ∀ q ∈ u_ws "RuleKernels$Kernel" T_Kernel 4, q ∈ ws_Kernel_bitOf)
  unfold p_Kernel_bitOf at hf
  refine lv_iload_n hx hb d_Kernel_bitOf_0 rfl (lv_at hl 1 rfl) ?_
  refine lv_if_lt (tgt := 18) hx hb d_Kernel_bitOf_1 (by decide) (fun c_1 => ?_) (fun c_1 => ?_)
  · replace hf := (if_pos c_1).symm.trans hf
    refine lv_lconst (v := 0) hx hb d_Kernel_bitOf_18 (by decide) ?_
    have hu := Option.some.inj hf
    exact m_retl () hx hb hr hlk hK hP hD hS hQ hAe (by rw [← hu]) (Nat.le_of_ble_eq_true rfl) (Nat.le_of_ble_eq_true rfl) d_Kernel_bitOf_19
  · replace hf := (if_neg c_1).symm.trans hf
    refine lv_iload_n hx hb d_Kernel_bitOf_4 rfl (lv_at hl 1 rfl) ?_
    refine lv_aload_n hx hb d_Kernel_bitOf_5 rfl (lv_at hl 0 rfl) ?_
    refine va_get (D := D) (ci := 2) (v := .int t_symbolCount) (C := "RuleKernels$Kernel") (T := T_Kernel) (N := 4) hx hb hts w_i2 hown hK hP 0 rfl rfl 2 (by decide) w_f9 (fun _ h9 => h9) rfl d_Kernel_bitOf_6 ?_
    refine lv_icmp_ge (tgt := 18) hx hb d_Kernel_bitOf_9 (by decide) (fun c_9 => ?_) (fun c_9 => ?_)
    · replace hf := (if_pos c_9).symm.trans hf
      refine lv_lconst (v := 0) hx hb d_Kernel_bitOf_18 (by decide) ?_
      have hu := Option.some.inj hf
      exact m_retl () hx hb hr hlk hK hP hD hS hQ hAe (by rw [← hu]) (Nat.le_of_ble_eq_true rfl) (Nat.le_of_ble_eq_true rfl) d_Kernel_bitOf_19
    · replace hf := (if_neg c_9).symm.trans hf
      refine lv_lconst (v := 1) hx hb d_Kernel_bitOf_12 (by decide) ?_
      refine lv_iload_n hx hb d_Kernel_bitOf_13 rfl (lv_at hl 1 rfl) ?_
      refine lv_lshl (v := (j_lshl (1 : Int64) a1)) hx hb d_Kernel_bitOf_14 rfl ?_
      refine lv_goto (tgt := 19) hx hb d_Kernel_bitOf_15 (by decide) ?_
      have hu := Option.some.inj hf
      exact m_retl () hx hb hr hlk hK hP hD hS hQ hAe (by rw [← hu]) (Nat.le_of_ble_eq_true rfl) (Nat.le_of_ble_eq_true rfl) d_Kernel_bitOf_19
set_option maxHeartbeats 4000000 in
set_option maxRecDepth 100000 in
theorem c_Kernel_within {l : Launch} {D : va_G} {tys : List (ClassId × FieldType)} {kI kL kZ kR kM : ClassId} {N : Nat} {h_t h_t_have h_t_keep h_t_giving : Nat} {t_symbolCount : Int32} {a1 : Int64} {a3 : Int32} {a4 : Int64} {a6 : Int64} {u : Int64} (TY : mTy tys kI kL kZ kR kM) (hf : p_Kernel_within N t_symbolCount a1 a3 a4 a6 = some u) (sz : Nat) : Met l y_Kernel_within ws_Kernel_within { frames := 1, cells := 0, slots := 0, locals := 22 } (mPre D tys [.ref h_t, .long a1, .int a3, .long a4, .long a6] [(h_t, .inr (2, [.ref h_t_have, .ref h_t_keep, .int t_symbolCount, .ref h_t_giving]))] sz) (mPost D tys (fun _ : Unit => some (.long u)) [(h_t, .inr (2, [.ref h_t_have, .ref h_t_keep, .int t_symbolCount, .ref h_t_giving]))] (fun x : Unit => [(h_t, .inr (2, [.ref h_t_have, .ref h_t_keep, .int t_symbolCount, .ref h_t_giving]))]) sz) 0 0 (va_A [(h_t, .inr (2, [.ref h_t_have, .ref h_t_keep, .int t_symbolCount, .ref h_t_giving]))] sz) := by
  refine m_ofW (cc := b_Kernel_within) (maxL := 13) (ret := (some .long)) (by decide) rfl (Nat.le_of_ble_eq_true rfl) ?_ sz
  intro p e s m args below meth c ls Q A hx hb hml hr hts hown hin hlk hK hN hP hD hA hS hl hQ hAe
  have hown : s.vm.findClass "RuleKernels$Kernel" = some m.cls := hown
  have hl : lv_has ls 13 [(0, .ref h_t), (1, .long a1), (3, .int a3), (4, .long a4), (6, .long a6)] := hl
  have w_f9 := (hts _ (List.mem_cons_of_mem _ tw_140))
  have w_i2 := (fun q h => List.mem_cons_of_mem _ (i_Kernel q h) : ∀ q ∈ u_ws "RuleKernels$Kernel" T_Kernel 4, q ∈ ws_Kernel_within)
  have L57 : ∀ (K6 : Int64 → Int32 → Option (Int64)), (∀ (x8 : Int64) (x10 : Int32), K6 x8 x10 = some u → ∀ (H : Heap) (locs : List Loc), va_P D vwCl [(h_t, .inr (2, [.ref h_t_have, .ref h_t_keep, .int t_symbolCount, .ref h_t_giving]))] H → va_D A [(h_t, .inr (2, [.ref h_t_have, .ref h_t_keep, .int t_symbolCount, .ref h_t_giving]))] → va_S A s.heap H locs → ∀ ls : Array Slot, lv_has ls 13 [(0, .ref h_t), (1, .long a1), (3, .int a3), (4, .long a4), (6, .long a6), (8, .long x8), (10, .int x10)] → W p l e { frames := 1, cells := 0, slots := 0, locals := 22 } s m args below meth c H locs 0 0 Q (F0 m 6 ls [])) → ∀ (x8 : Int64) (x10 : Int32), q_Kernel_within_57 N K6 x8 x10 = some u → ∀ (H : Heap) (locs : List Loc), va_P D vwCl [(h_t, .inr (2, [.ref h_t_have, .ref h_t_keep, .int t_symbolCount, .ref h_t_giving]))] H → va_D A [(h_t, .inr (2, [.ref h_t_have, .ref h_t_keep, .int t_symbolCount, .ref h_t_giving]))] → va_S A s.heap H locs → ∀ ls : Array Slot, lv_has ls 13 [(0, .ref h_t), (1, .long a1), (3, .int a3), (4, .long a4), (6, .long a6), (8, .long x8), (10, .int x10)] → W p l e { frames := 1, cells := 0, slots := 0, locals := 22 } s m args below meth c H locs 0 0 Q (F0 m 57 ls []) := by
    intro K6 hK6 x8 x10 hf H locs hP hD hS ls hl
    unfold q_Kernel_within_57 at hf
    refine lv_iinc (v := (x10 + 1)) (lv' := [(10, .int (x10 + 1)), (0, .ref h_t), (1, .long a1), (3, .int a3), (4, .long a4), (6, .long a6), (8, .long x8)]) hx hb d_Kernel_within_57 hl (k := 6) rfl rfl (by decide) rfl (fun ls hl => ?_)
    refine lv_goto (tgt := 6) hx hb d_Kernel_within_60 (by decide) ?_
    exact hK6 x8 (x10 + 1) hf _ _ hP hD hS ls (lv_sub hl [1, 2, 3, 4, 5, 6, 0] rfl)
  have L6 : ∀ n : Nat, ∀ (x8 : Int64) (x10 : Int32), q_Kernel_within_6 N t_symbolCount a1 a3 a4 a6 n x8 x10 = some u → ∀ (H : Heap) (locs : List Loc), va_P D vwCl [(h_t, .inr (2, [.ref h_t_have, .ref h_t_keep, .int t_symbolCount, .ref h_t_giving]))] H → va_D A [(h_t, .inr (2, [.ref h_t_have, .ref h_t_keep, .int t_symbolCount, .ref h_t_giving]))] → va_S A s.heap H locs → ∀ ls : Array Slot, lv_has ls 13 [(0, .ref h_t), (1, .long a1), (3, .int a3), (4, .long a4), (6, .long a6), (8, .long x8), (10, .int x10)] → W p l e { frames := 1, cells := 0, slots := 0, locals := 22 } s m args below meth c H locs 0 0 Q (F0 m 6 ls []) := by
    intro n
    induction n with
    | zero =>
      intro x8 x10 hf
      exact nomatch (show (none : Option (Int64)) = some _ from hf)
    | succ n ih =>
      intro x8 x10 hf H locs hP hD hS ls hl
      rw [q_Kernel_within_6] at hf
      refine lv_iload hx hb d_Kernel_within_6 (lv_at hl 6 rfl) ?_
      refine lv_aload_n hx hb d_Kernel_within_8 rfl (lv_at hl 0 rfl) ?_
      refine va_get (D := D) (ci := 2) (v := .int t_symbolCount) (C := "RuleKernels$Kernel") (T := T_Kernel) (N := 4) hx hb hts w_i2 hown hK hP 0 rfl rfl 2 (by decide) w_f9 (fun _ h9 => h9) rfl d_Kernel_within_9 ?_
      refine lv_icmp_ge (tgt := 63) hx hb d_Kernel_within_12 (by decide) (fun c_12 => ?_) (fun c_12 => ?_)
      · replace hf := (if_pos c_12).symm.trans hf
        refine lv_lload hx hb d_Kernel_within_63 (lv_at hl 5 rfl) ?_
        have hu := Option.some.inj hf
        exact m_retl () hx hb hr hlk hK hP hD hS hQ hAe (by rw [← hu]) (Nat.le_of_ble_eq_true rfl) (Nat.le_of_ble_eq_true rfl) d_Kernel_within_65
      · replace hf := (if_neg c_12).symm.trans hf
        refine lv_iload_n hx hb d_Kernel_within_15 rfl (lv_at hl 2 rfl) ?_
        refine lv_i2l (v := a3.toInt64) hx hb d_Kernel_within_16 rfl ?_
        refine lv_iload hx hb d_Kernel_within_17 (lv_at hl 6 rfl) ?_
        refine lv_i2l (v := x10.toInt64) hx hb d_Kernel_within_19 rfl ?_
        refine lv_lmul hx hb d_Kernel_within_20 ?_
        refine lv_lstore (lv' := [(11, .long (a3.toInt64 * x10.toInt64)), (0, .ref h_t), (1, .long a1), (3, .int a3), (4, .long a4), (6, .long a6), (8, .long x8), (10, .int x10)]) hx hb d_Kernel_within_21 hl (by decide) rfl (fun ls hl => ?_)
        refine lv_lload_n hx hb d_Kernel_within_23 rfl (lv_at hl 2 rfl) ?_
        refine lv_iload hx hb d_Kernel_within_24 (lv_at hl 7 rfl) ?_
        obtain ⟨r_26, hc_26, hf⟩ := jb hf
        refine m_call (wc := []) (wr := [(h_t, .inr (2, [.ref h_t_have, .ref h_t_keep, .int t_symbolCount, .ref h_t_giving]))]) (w1 := fun x : Unit => []) (wn := fun x : Unit => [(h_t, .inr (2, [.ref h_t_have, .ref h_t_keep, .int t_symbolCount, .ref h_t_giving]))]) (o := fun _ : Unit => some (.int r_26)) (va_runSN (As := [.long a1, .int x10]) (rest := []) ⟨hx, hb, hml, hown, hts⟩ (c_RK_has (a0 := a1) (a2 := x10) (u := r_26) TY hc_26 _) ⟨va_cnB 2 hts (gT tc_RK_has) rfl rfl rfl (mN_2 hN) (hts _ (List.mem_cons_of_mem _ tw_41)) (by decide +kernel) ⟨Nat.le_of_ble_eq_true rfl, Nat.le_of_ble_eq_true rfl⟩, (hts _ (List.mem_cons_of_mem _ tw_302)), trivial⟩ (m_preS hK hN hP hD [] rfl (by decide) _) rfl rfl hl.1 rfl (lv_room (Nat.le_of_ble_eq_true rfl)) d_Kernel_within_26 ⟨Nat.le_of_ble_eq_true rfl, Nat.le_of_ble_eq_true rfl⟩) hP hD hS hA [] [0] [0] rfl rfl (by decide) (by decide) (by decide) (fun _ => rfl) (fun x H locs hP hD hS => ?_)
        have hP : va_P D vwCl [(h_t, .inr (2, [.ref h_t_have, .ref h_t_keep, .int t_symbolCount, .ref h_t_giving]))] H := hP
        have hD : va_D A [(h_t, .inr (2, [.ref h_t_have, .ref h_t_keep, .int t_symbolCount, .ref h_t_giving]))] := hD
        refine W.eq (g2 := F0 m 29 ls [.int r_26]) rfl ?_
        refine lv_if_eq (tgt := 57) hx hb d_Kernel_within_29 (by decide) (fun c_29 => ?_) (fun c_29 => ?_)
        · replace hf := (if_pos c_29).symm.trans hf
          exact L57 _ ih x8 x10 hf _ _ hP hD hS ls (lv_sub hl [1, 2, 3, 4, 5, 6, 7] rfl)
        · replace hf := (if_neg c_29).symm.trans hf
          refine lv_lload hx hb d_Kernel_within_32 (lv_at hl 0 rfl) ?_
          refine lv_lload hx hb d_Kernel_within_34 (lv_at hl 4 rfl) ?_
          refine W.lcmp hx hb d_Kernel_within_36 ?_
          refine lv_if_lt (tgt := 57) hx hb d_Kernel_within_37 (by decide) (fun c_37 => ?_) (fun c_37 => ?_)
          · replace hf := (if_pos c_37).symm.trans hf
            exact L57 _ ih x8 x10 hf _ _ hP hD hS ls (lv_sub hl [1, 2, 3, 4, 5, 6, 7] rfl)
          · replace hf := (if_neg c_37).symm.trans hf
            refine lv_lload hx hb d_Kernel_within_40 (lv_at hl 0 rfl) ?_
            refine lv_lload hx hb d_Kernel_within_42 (lv_at hl 5 rfl) ?_
            refine W.lcmp hx hb d_Kernel_within_44 ?_
            refine lv_if_gt (tgt := 57) hx hb d_Kernel_within_45 (by decide) (fun c_45 => ?_) (fun c_45 => ?_)
            · replace hf := (if_pos c_45).symm.trans hf
              exact L57 _ ih x8 x10 hf _ _ hP hD hS ls (lv_sub hl [1, 2, 3, 4, 5, 6, 7] rfl)
            · replace hf := (if_neg c_45).symm.trans hf
              refine lv_lload hx hb d_Kernel_within_48 (lv_at hl 6 rfl) ?_
              refine lv_lconst (v := 1) hx hb d_Kernel_within_50 (by decide) ?_
              refine lv_iload hx hb d_Kernel_within_51 (lv_at hl 7 rfl) ?_
              refine lv_lshl (v := (j_lshl (1 : Int64) x10)) hx hb d_Kernel_within_53 rfl ?_
              refine lv_lor hx hb d_Kernel_within_54 ?_
              refine lv_lstore (lv' := [(8, .long (x8 ||| (j_lshl (1 : Int64) x10))), (11, .long (a3.toInt64 * x10.toInt64)), (0, .ref h_t), (1, .long a1), (3, .int a3), (4, .long a4), (6, .long a6), (10, .int x10)]) hx hb d_Kernel_within_55 hl (by decide) rfl (fun ls hl => ?_)
              exact L57 _ ih (x8 ||| (j_lshl (1 : Int64) x10)) x10 hf _ _ hP hD hS ls (lv_sub hl [2, 3, 4, 5, 6, 0, 7] rfl)
  unfold p_Kernel_within at hf
  refine lv_lconst (v := 0) hx hb d_Kernel_within_0 (by decide) ?_
  refine lv_lstore (lv' := [(8, .long (0 : Int64)), (0, .ref h_t), (1, .long a1), (3, .int a3), (4, .long a4), (6, .long a6)]) hx hb d_Kernel_within_1 hl (by decide) rfl (fun ls hl => ?_)
  refine lv_iconst (v := 0) hx hb d_Kernel_within_3 (by decide) ?_
  refine lv_istore (lv' := [(10, .int (0 : Int32)), (8, .long (0 : Int64)), (0, .ref h_t), (1, .long a1), (3, .int a3), (4, .long a4), (6, .long a6)]) hx hb d_Kernel_within_4 hl (by decide) rfl (fun ls hl => ?_)
  exact L6  N (0 : Int64) (0 : Int32) hf _ _ hP hD hS ls (lv_sub hl [2, 3, 4, 5, 6, 1, 0] rfl)
set_option maxHeartbeats 4000000 in
set_option maxRecDepth 100000 in
theorem c_Kernel_keepNothing {l : Launch} {D : va_G} {tys : List (ClassId × FieldType)} {kI kL kZ kR kM : ClassId} {N : Nat} {h_t h_t_keep h_t_have h_t_giving : Nat} {t_symbolCount : Int32} {t_keep : Nat → Int64} {u : (Nat → Int64)} (TY : mTy tys kI kL kZ kR kM) (hf : p_Kernel_keepNothing N t_keep = some u) (sz : Nat) : Met l y_Kernel_keepNothing ws_Kernel_keepNothing { frames := 1, cells := 0, slots := 0, locals := 24 } (mPre D tys [.ref h_t] [(h_t, .inr (2, [.ref h_t_have, .ref h_t_keep, .int t_symbolCount, .ref h_t_giving])), (h_t_keep, .inl (kL, 16, .inr (.inl t_keep)))] sz) (mPost D tys (fun _ : Unit => none) [(h_t, .inr (2, [.ref h_t_have, .ref h_t_keep, .int t_symbolCount, .ref h_t_giving])), (h_t_keep, .inl (kL, 16, .inr (.inl t_keep)))] (fun x : Unit => [(h_t, .inr (2, [.ref h_t_have, .ref h_t_keep, .int t_symbolCount, .ref h_t_giving])), (h_t_keep, .inl (kL, 16, .inr (.inl u)))]) sz) 0 0 (va_A [(h_t, .inr (2, [.ref h_t_have, .ref h_t_keep, .int t_symbolCount, .ref h_t_giving])), (h_t_keep, .inl (kL, 16, .inr (.inl t_keep)))] sz) := by
  refine m_ofW (cc := b_Kernel_keepNothing) (maxL := 1) (ret := none) (by decide) rfl (Nat.le_of_ble_eq_true rfl) ?_ sz
  intro p e s m args below meth c ls Q A hx hb hml hr hts hown hin hlk hK hN hP hD hA hS hl hQ hAe
  have hown : s.vm.findClass "RuleKernels$Kernel" = some m.cls := hown
  have hl : lv_has ls 1 [(0, .ref h_t)] := hl
  have w_f19 := (hts _ (List.mem_cons_of_mem _ tw_138))
  have w_i2 := (fun q h => List.mem_cons_of_mem _ (i_Kernel q h) : ∀ q ∈ u_ws "RuleKernels$Kernel" T_Kernel 4, q ∈ ws_Kernel_keepNothing)
  unfold p_Kernel_keepNothing at hf
  refine lv_aload_n hx hb d_Kernel_keepNothing_0 rfl (lv_at hl 0 rfl) ?_
  refine va_get (D := D) (ci := 2) (v := .ref h_t_keep) (C := "RuleKernels$Kernel") (T := T_Kernel) (N := 4) hx hb hts w_i2 hown hK hP 0 rfl rfl 1 (by decide) w_f19 (fun _ h9 => h9) rfl d_Kernel_keepNothing_1 ?_
  refine lv_lconst (v := 0) hx hb d_Kernel_keepNothing_4 (by decide) ?_
  obtain ⟨p0_f_5, hc_5, hf⟩ := jb hf
  refine m_call (wc := [(h_t_keep, .inl (kL, 16, .inr (.inl t_keep)))]) (wr := [(h_t, .inr (2, [.ref h_t_have, .ref h_t_keep, .int t_symbolCount, .ref h_t_giving]))]) (w1 := fun x : Unit => [(h_t_keep, .inl (kL, 16, .inr (.inl p0_f_5)))]) (wn := fun x : Unit => [(h_t, .inr (2, [.ref h_t_have, .ref h_t_keep, .int t_symbolCount, .ref h_t_giving])), (h_t_keep, .inl (kL, 16, .inr (.inl p0_f_5)))]) (o := fun _ : Unit => none) (va_runS (As := [.ref h_t_keep, .long (0 : Int64)]) (rest := []) ⟨hx, hb, hml, hown, hts⟩ (c_Arr_fill (h_p0 := h_t_keep) (n_p0 := 16) (p0_f := t_keep) (a1 := (0 : Int64)) (u := p0_f_5) TY hc_5 _) (va_cwS 2 hts (gS tw_391 tw_76 tw_44 tc_Arr_fill) rfl rfl rfl (by decide +kernel) ⟨Nat.le_of_ble_eq_true rfl, Nat.le_of_ble_eq_true rfl⟩) (m_preS hK hN hP hD [1] rfl (by decide) _) rfl rfl hl.1 rfl (lv_room (Nat.le_of_ble_eq_true rfl)) d_Kernel_keepNothing_5 ⟨Nat.le_of_ble_eq_true rfl, Nat.le_of_ble_eq_true rfl⟩) hP hD hS hA [1] [0] [0, 1] rfl rfl (by decide) (by decide) (by decide) (fun _ => rfl) (fun x H locs hP hD hS => ?_)
  have hP : va_P D vwCl [(h_t, .inr (2, [.ref h_t_have, .ref h_t_keep, .int t_symbolCount, .ref h_t_giving])), (h_t_keep, .inl (kL, 16, .inr (.inl p0_f_5)))] H := hP
  have hD : va_D A [(h_t, .inr (2, [.ref h_t_have, .ref h_t_keep, .int t_symbolCount, .ref h_t_giving])), (h_t_keep, .inl (kL, 16, .inr (.inl p0_f_5)))] := hD
  refine W.eq (g2 := F0 m 8 ls []) rfl ?_
  have hu := Option.some.inj hf
  exact m_retv () hx hb hr hlk hK (by rw [← hu]; exact hP) (by rw [← hu]; exact hD) hS hQ hAe rfl (Nat.le_of_ble_eq_true rfl) (Nat.le_of_ble_eq_true rfl) d_Kernel_keepNothing_8
set_option maxHeartbeats 4000000 in
set_option maxRecDepth 100000 in
theorem c_Kernel_keepUnlike {l : Launch} {D : va_G} {tys : List (ClassId × FieldType)} {kI kL kZ kR kM : ClassId} {N : Nat} {h_t h_t_have h_t_keep h_t_giving h_t_giving_given h_t_giving_askedBy h_t_giving_line h_t_giving_reach : Nat} {t_symbolCount : Int32} {t_have : Nat → Int64} {t_keep : Nat → Int64} {t_giving_used : Int64} {t_giving_movable : Int32} {t_giving_given : Nat → Int32} {t_giving_askedBy : Nat → Int32} {t_giving_line : Nat → Int32} {t_giving_reach : Nat → Int32} {a1 : Int32} {u : (Nat → Int64) × Int64 × Int32 × (Nat → Int32) × (Nat → Int32) × (Nat → Int32) × (Nat → Int32)} (TY : mTy tys kI kL kZ kR kM) (hf : p_Kernel_keepUnlike N t_have t_keep t_giving_movable t_giving_given t_giving_askedBy t_giving_line t_giving_reach a1 = some u) (sz : Nat) : Met l y_Kernel_keepUnlike ws_Kernel_keepUnlike { frames := 4, cells := 0, slots := 0, locals := 95 } (mPre D tys [.ref h_t, .int a1] [(h_t, .inr (2, [.ref h_t_have, .ref h_t_keep, .int t_symbolCount, .ref h_t_giving])), (h_t_have, .inl (kL, 16, .inr (.inl t_have))), (h_t_keep, .inl (kL, 16, .inr (.inl t_keep))), (h_t_giving, .inr (1, [.ref h_t_giving_given, .ref h_t_giving_askedBy, .ref h_t_giving_line, .ref h_t_giving_reach, .long t_giving_used, .int t_giving_movable])), (h_t_giving_given, .inl (kI, 16, .inl t_giving_given)), (h_t_giving_askedBy, .inl (kI, 16, .inl t_giving_askedBy)), (h_t_giving_line, .inl (kI, 16, .inl t_giving_line)), (h_t_giving_reach, .inl (kI, 16, .inl t_giving_reach))] sz) (mPost D tys (fun _ : Unit => none) [(h_t, .inr (2, [.ref h_t_have, .ref h_t_keep, .int t_symbolCount, .ref h_t_giving])), (h_t_have, .inl (kL, 16, .inr (.inl t_have))), (h_t_keep, .inl (kL, 16, .inr (.inl t_keep))), (h_t_giving, .inr (1, [.ref h_t_giving_given, .ref h_t_giving_askedBy, .ref h_t_giving_line, .ref h_t_giving_reach, .long t_giving_used, .int t_giving_movable])), (h_t_giving_given, .inl (kI, 16, .inl t_giving_given)), (h_t_giving_askedBy, .inl (kI, 16, .inl t_giving_askedBy)), (h_t_giving_line, .inl (kI, 16, .inl t_giving_line)), (h_t_giving_reach, .inl (kI, 16, .inl t_giving_reach))] (fun x : Unit => [(h_t, .inr (2, [.ref h_t_have, .ref h_t_keep, .int t_symbolCount, .ref h_t_giving])), (h_t_have, .inl (kL, 16, .inr (.inl t_have))), (h_t_keep, .inl (kL, 16, .inr (.inl u.1))), (h_t_giving, .inr (1, [.ref h_t_giving_given, .ref h_t_giving_askedBy, .ref h_t_giving_line, .ref h_t_giving_reach, .long u.2.1, .int u.2.2.1])), (h_t_giving_given, .inl (kI, 16, .inl u.2.2.2.1)), (h_t_giving_askedBy, .inl (kI, 16, .inl u.2.2.2.2.1)), (h_t_giving_line, .inl (kI, 16, .inl u.2.2.2.2.2.1)), (h_t_giving_reach, .inl (kI, 16, .inl u.2.2.2.2.2.2))]) sz) 0 0 (va_A [(h_t, .inr (2, [.ref h_t_have, .ref h_t_keep, .int t_symbolCount, .ref h_t_giving])), (h_t_have, .inl (kL, 16, .inr (.inl t_have))), (h_t_keep, .inl (kL, 16, .inr (.inl t_keep))), (h_t_giving, .inr (1, [.ref h_t_giving_given, .ref h_t_giving_askedBy, .ref h_t_giving_line, .ref h_t_giving_reach, .long t_giving_used, .int t_giving_movable])), (h_t_giving_given, .inl (kI, 16, .inl t_giving_given)), (h_t_giving_askedBy, .inl (kI, 16, .inl t_giving_askedBy)), (h_t_giving_line, .inl (kI, 16, .inl t_giving_line)), (h_t_giving_reach, .inl (kI, 16, .inl t_giving_reach))] sz) := by
  refine m_ofW (cc := b_Kernel_keepUnlike) (maxL := 3) (ret := none) (by decide) rfl (Nat.le_of_ble_eq_true rfl) ?_ sz
  intro p e s m args below meth c ls Q A hx hb hml hr hts hown hin hlk hK hN hP hD hA hS hl hQ hAe
  have hown : s.vm.findClass "RuleKernels$Kernel" = some m.cls := hown
  have hl : lv_has ls 3 [(0, .ref h_t), (1, .int a1)] := hl
  have w_f15 := (hts _ (List.mem_cons_of_mem _ tw_136))
  have w_f19 := (hts _ (List.mem_cons_of_mem _ tw_138))
  have w_f25 := (hts _ (List.mem_cons_of_mem _ tw_141))
  have w_i2 := (fun q h => List.mem_cons_of_mem _ (i_Kernel q h) : ∀ q ∈ u_ws "RuleKernels$Kernel" T_Kernel 4, q ∈ ws_Kernel_keepUnlike)
  have L34 : ∀ n : Nat, ∀ (x2 : Int32) (t_keep : Nat → Int64) (t_giving_used : Int64) (t_giving_movable : Int32) (t_giving_given : Nat → Int32) (t_giving_askedBy : Nat → Int32) (t_giving_line : Nat → Int32) (t_giving_reach : Nat → Int32), q_Kernel_keepUnlike_34 N t_have a1 n x2 t_keep t_giving_used t_giving_movable t_giving_given t_giving_askedBy t_giving_line t_giving_reach = some u → ∀ (H : Heap) (locs : List Loc), va_P D vwCl [(h_t, .inr (2, [.ref h_t_have, .ref h_t_keep, .int t_symbolCount, .ref h_t_giving])), (h_t_have, .inl (kL, 16, .inr (.inl t_have))), (h_t_keep, .inl (kL, 16, .inr (.inl t_keep))), (h_t_giving, .inr (1, [.ref h_t_giving_given, .ref h_t_giving_askedBy, .ref h_t_giving_line, .ref h_t_giving_reach, .long t_giving_used, .int t_giving_movable])), (h_t_giving_given, .inl (kI, 16, .inl t_giving_given)), (h_t_giving_askedBy, .inl (kI, 16, .inl t_giving_askedBy)), (h_t_giving_line, .inl (kI, 16, .inl t_giving_line)), (h_t_giving_reach, .inl (kI, 16, .inl t_giving_reach))] H → va_D A [(h_t, .inr (2, [.ref h_t_have, .ref h_t_keep, .int t_symbolCount, .ref h_t_giving])), (h_t_have, .inl (kL, 16, .inr (.inl t_have))), (h_t_keep, .inl (kL, 16, .inr (.inl t_keep))), (h_t_giving, .inr (1, [.ref h_t_giving_given, .ref h_t_giving_askedBy, .ref h_t_giving_line, .ref h_t_giving_reach, .long t_giving_used, .int t_giving_movable])), (h_t_giving_given, .inl (kI, 16, .inl t_giving_given)), (h_t_giving_askedBy, .inl (kI, 16, .inl t_giving_askedBy)), (h_t_giving_line, .inl (kI, 16, .inl t_giving_line)), (h_t_giving_reach, .inl (kI, 16, .inl t_giving_reach))] → va_S A s.heap H locs → ∀ ls : Array Slot, lv_has ls 3 [(0, .ref h_t), (1, .int a1), (2, .int x2)] → W p l e { frames := 4, cells := 0, slots := 0, locals := 95 } s m args below meth c H locs 0 0 Q (F0 m 34 ls []) := by
    intro n
    induction n with
    | zero =>
      intro x2 t_keep t_giving_used t_giving_movable t_giving_given t_giving_askedBy t_giving_line t_giving_reach hf
      exact nomatch (show (none : Option ((Nat → Int64) × Int64 × Int32 × (Nat → Int32) × (Nat → Int32) × (Nat → Int32) × (Nat → Int32))) = some _ from hf)
    | succ n ih =>
      intro x2 t_keep t_giving_used t_giving_movable t_giving_given t_giving_askedBy t_giving_line t_giving_reach hf H locs hP hD hS ls hl
      rw [q_Kernel_keepUnlike_34] at hf
      refine lv_iload_n hx hb d_Kernel_keepUnlike_34 rfl (lv_at hl 2 rfl) ?_
      refine lv_iload_n hx hb d_Kernel_keepUnlike_35 rfl (lv_at hl 1 rfl) ?_
      refine lv_icmp_ge (tgt := 66) hx hb d_Kernel_keepUnlike_36 (by decide) (fun c_36 => ?_) (fun c_36 => ?_)
      · replace hf := (if_pos c_36).symm.trans hf
        have hu := Option.some.inj hf
        exact m_retv () hx hb hr hlk hK (by rw [← hu]; exact hP) (by rw [← hu]; exact hD) hS hQ hAe rfl (Nat.le_of_ble_eq_true rfl) (Nat.le_of_ble_eq_true rfl) d_Kernel_keepUnlike_66
      · replace hf := (if_neg c_36).symm.trans hf
        refine lv_aload_n hx hb d_Kernel_keepUnlike_39 rfl (lv_at hl 0 rfl) ?_
        refine va_get (D := D) (ci := 2) (v := .ref h_t_keep) (C := "RuleKernels$Kernel") (T := T_Kernel) (N := 4) hx hb hts w_i2 hown hK hP 0 rfl rfl 1 (by decide) w_f19 (fun _ h9 => h9) rfl d_Kernel_keepUnlike_40 ?_
        refine lv_iload_n hx hb d_Kernel_keepUnlike_43 rfl (lv_at hl 2 rfl) ?_
        refine lv_aload_n hx hb d_Kernel_keepUnlike_44 rfl (lv_at hl 0 rfl) ?_
        refine va_get (D := D) (ci := 2) (v := .ref h_t_giving) (C := "RuleKernels$Kernel") (T := T_Kernel) (N := 4) hx hb hts w_i2 hown hK hP 0 rfl rfl 3 (by decide) w_f25 (fun _ h9 => h9) rfl d_Kernel_keepUnlike_45 ?_
        refine lv_aload_n hx hb d_Kernel_keepUnlike_48 rfl (lv_at hl 0 rfl) ?_
        refine va_get (D := D) (ci := 2) (v := .ref h_t_have) (C := "RuleKernels$Kernel") (T := T_Kernel) (N := 4) hx hb hts w_i2 hown hK hP 0 rfl rfl 0 (by decide) w_f15 (fun _ h9 => h9) rfl d_Kernel_keepUnlike_49 ?_
        refine lv_iload_n hx hb d_Kernel_keepUnlike_52 rfl (lv_at hl 2 rfl) ?_
        obtain ⟨h_53, hf⟩ := jin_some hf
        refine va_lald hx hb hK hP 1 1 rfl TY.2.1 h_53 d_Kernel_keepUnlike_53 ?_
        refine lv_iload_n hx hb d_Kernel_keepUnlike_54 rfl (lv_at hl 2 rfl) ?_
        refine lv_iload_n hx hb d_Kernel_keepUnlike_55 rfl (lv_at hl 1 rfl) ?_
        obtain ⟨r_56, hc_56, hf⟩ := jb hf
        refine m_call (wc := [(h_t_giving, .inr (1, [.ref h_t_giving_given, .ref h_t_giving_askedBy, .ref h_t_giving_line, .ref h_t_giving_reach, .long t_giving_used, .int t_giving_movable])), (h_t_giving_given, .inl (kI, 16, .inl t_giving_given)), (h_t_giving_reach, .inl (kI, 16, .inl t_giving_reach))]) (wr := [(h_t, .inr (2, [.ref h_t_have, .ref h_t_keep, .int t_symbolCount, .ref h_t_giving])), (h_t_have, .inl (kL, 16, .inr (.inl t_have))), (h_t_keep, .inl (kL, 16, .inr (.inl t_keep))), (h_t_giving_askedBy, .inl (kI, 16, .inl t_giving_askedBy)), (h_t_giving_line, .inl (kI, 16, .inl t_giving_line))]) (w1 := fun x : Unit => [(h_t_giving, .inr (1, [.ref h_t_giving_given, .ref h_t_giving_askedBy, .ref h_t_giving_line, .ref h_t_giving_reach, .long t_giving_used, .int t_giving_movable])), (h_t_giving_given, .inl (kI, 16, .inl t_giving_given)), (h_t_giving_reach, .inl (kI, 16, .inl t_giving_reach))]) (wn := fun x : Unit => [(h_t, .inr (2, [.ref h_t_have, .ref h_t_keep, .int t_symbolCount, .ref h_t_giving])), (h_t_have, .inl (kL, 16, .inr (.inl t_have))), (h_t_keep, .inl (kL, 16, .inr (.inl t_keep))), (h_t_giving, .inr (1, [.ref h_t_giving_given, .ref h_t_giving_askedBy, .ref h_t_giving_line, .ref h_t_giving_reach, .long t_giving_used, .int t_giving_movable])), (h_t_giving_given, .inl (kI, 16, .inl t_giving_given)), (h_t_giving_askedBy, .inl (kI, 16, .inl t_giving_askedBy)), (h_t_giving_line, .inl (kI, 16, .inl t_giving_line)), (h_t_giving_reach, .inl (kI, 16, .inl t_giving_reach))]) (o := fun _ : Unit => some (.long r_56)) (va_runV (As := [.long (t_have x2.toNatClampNeg), .int x2, .int a1]) (rest := [.int x2, .ref h_t_keep]) ⟨hx, hb, hml, hown, hts⟩ (c_Giving_possible (h_t := h_t_giving) (h_t_given := h_t_giving_given) (h_t_reach := h_t_giving_reach) (h_t_askedBy := h_t_giving_askedBy) (h_t_line := h_t_giving_line) (t_used := t_giving_used) (t_movable := t_giving_movable) (t_given := t_giving_given) (t_reach := t_giving_reach) (a1 := (t_have x2.toNatClampNeg)) (a3 := x2) (a4 := a1) (u := r_56) TY hc_56 _) (cwV 3 hts (gV tw_396 tw_397 tw_398 tw_46 tc_Giving_possible) rfl rfl rfl (by decide +kernel) ⟨Nat.le_of_ble_eq_true rfl, Nat.le_of_ble_eq_true rfl⟩) (m_preV hK hN hP hD [3, 4, 7] rfl (by decide) (ci := 1) (q0 := 0) rfl rfl _) rfl rfl hl.1 rfl (lv_room (Nat.le_of_ble_eq_true rfl)) d_Kernel_keepUnlike_56 ⟨Nat.le_of_ble_eq_true rfl, Nat.le_of_ble_eq_true rfl⟩) hP hD hS hA [3, 4, 7] [0, 1, 2, 5, 6] [0, 1, 2, 5, 6, 3, 4, 7] rfl rfl (by decide) (by decide) (by decide) (fun _ => rfl) (fun x H locs hP hD hS => ?_)
        have hP : va_P D vwCl [(h_t, .inr (2, [.ref h_t_have, .ref h_t_keep, .int t_symbolCount, .ref h_t_giving])), (h_t_have, .inl (kL, 16, .inr (.inl t_have))), (h_t_keep, .inl (kL, 16, .inr (.inl t_keep))), (h_t_giving, .inr (1, [.ref h_t_giving_given, .ref h_t_giving_askedBy, .ref h_t_giving_line, .ref h_t_giving_reach, .long t_giving_used, .int t_giving_movable])), (h_t_giving_given, .inl (kI, 16, .inl t_giving_given)), (h_t_giving_askedBy, .inl (kI, 16, .inl t_giving_askedBy)), (h_t_giving_line, .inl (kI, 16, .inl t_giving_line)), (h_t_giving_reach, .inl (kI, 16, .inl t_giving_reach))] H := hP
        have hD : va_D A [(h_t, .inr (2, [.ref h_t_have, .ref h_t_keep, .int t_symbolCount, .ref h_t_giving])), (h_t_have, .inl (kL, 16, .inr (.inl t_have))), (h_t_keep, .inl (kL, 16, .inr (.inl t_keep))), (h_t_giving, .inr (1, [.ref h_t_giving_given, .ref h_t_giving_askedBy, .ref h_t_giving_line, .ref h_t_giving_reach, .long t_giving_used, .int t_giving_movable])), (h_t_giving_given, .inl (kI, 16, .inl t_giving_given)), (h_t_giving_askedBy, .inl (kI, 16, .inl t_giving_askedBy)), (h_t_giving_line, .inl (kI, 16, .inl t_giving_line)), (h_t_giving_reach, .inl (kI, 16, .inl t_giving_reach))] := hD
        refine W.eq (g2 := F0 m 59 ls [.long r_56, .int x2, .ref h_t_keep]) rfl ?_
        obtain ⟨h_59, hf⟩ := jin_some hf
        refine va_last hx hb hK hP hD hS 2 1 rfl TY.2.1 h_59 d_Kernel_keepUnlike_59 (fun H locs hP hD hS => ?_)
        have hP : va_P D vwCl [(h_t, .inr (2, [.ref h_t_have, .ref h_t_keep, .int t_symbolCount, .ref h_t_giving])), (h_t_have, .inl (kL, 16, .inr (.inl t_have))), (h_t_keep, .inl (kL, 16, .inr (.inl (vp_updL t_keep x2.toNatClampNeg r_56)))), (h_t_giving, .inr (1, [.ref h_t_giving_given, .ref h_t_giving_askedBy, .ref h_t_giving_line, .ref h_t_giving_reach, .long t_giving_used, .int t_giving_movable])), (h_t_giving_given, .inl (kI, 16, .inl t_giving_given)), (h_t_giving_askedBy, .inl (kI, 16, .inl t_giving_askedBy)), (h_t_giving_line, .inl (kI, 16, .inl t_giving_line)), (h_t_giving_reach, .inl (kI, 16, .inl t_giving_reach))] H := hP
        have hD : va_D A [(h_t, .inr (2, [.ref h_t_have, .ref h_t_keep, .int t_symbolCount, .ref h_t_giving])), (h_t_have, .inl (kL, 16, .inr (.inl t_have))), (h_t_keep, .inl (kL, 16, .inr (.inl (vp_updL t_keep x2.toNatClampNeg r_56)))), (h_t_giving, .inr (1, [.ref h_t_giving_given, .ref h_t_giving_askedBy, .ref h_t_giving_line, .ref h_t_giving_reach, .long t_giving_used, .int t_giving_movable])), (h_t_giving_given, .inl (kI, 16, .inl t_giving_given)), (h_t_giving_askedBy, .inl (kI, 16, .inl t_giving_askedBy)), (h_t_giving_line, .inl (kI, 16, .inl t_giving_line)), (h_t_giving_reach, .inl (kI, 16, .inl t_giving_reach))] := hD
        refine lv_iinc (v := (x2 + 1)) (lv' := [(2, .int (x2 + 1)), (0, .ref h_t), (1, .int a1)]) hx hb d_Kernel_keepUnlike_60 hl (k := 2) rfl rfl (by decide) rfl (fun ls hl => ?_)
        refine lv_goto (tgt := 34) hx hb d_Kernel_keepUnlike_63 (by decide) ?_
        exact ih (x2 + 1) (vp_updL t_keep x2.toNatClampNeg r_56) t_giving_used t_giving_movable t_giving_given t_giving_askedBy t_giving_line t_giving_reach hf _ _ hP hD hS ls (lv_sub hl [1, 2, 0] rfl)
  unfold p_Kernel_keepUnlike at hf
  refine lv_aload_n hx hb d_Kernel_keepUnlike_0 rfl (lv_at hl 0 rfl) ?_
  refine va_get (D := D) (ci := 2) (v := .ref h_t_giving) (C := "RuleKernels$Kernel") (T := T_Kernel) (N := 4) hx hb hts w_i2 hown hK hP 0 rfl rfl 3 (by decide) w_f25 (fun _ h9 => h9) rfl d_Kernel_keepUnlike_1 ?_
  refine lv_aload_n hx hb d_Kernel_keepUnlike_4 rfl (lv_at hl 0 rfl) ?_
  refine va_get (D := D) (ci := 2) (v := .ref h_t_have) (C := "RuleKernels$Kernel") (T := T_Kernel) (N := 4) hx hb hts w_i2 hown hK hP 0 rfl rfl 0 (by decide) w_f15 (fun _ h9 => h9) rfl d_Kernel_keepUnlike_5 ?_
  refine lv_iload_n hx hb d_Kernel_keepUnlike_8 rfl (lv_at hl 1 rfl) ?_
  obtain ⟨⟨r_9, t_used_9, t_given_9, t_askedBy_9, t_line_9⟩, hc_9, hf⟩ := jb hf
  refine m_call (wc := [(h_t_giving, .inr (1, [.ref h_t_giving_given, .ref h_t_giving_askedBy, .ref h_t_giving_line, .ref h_t_giving_reach, .long t_giving_used, .int t_giving_movable])), (h_t_giving_given, .inl (kI, 16, .inl t_giving_given)), (h_t_giving_askedBy, .inl (kI, 16, .inl t_giving_askedBy)), (h_t_giving_line, .inl (kI, 16, .inl t_giving_line)), (h_t_have, .inl (kL, 16, .inr (.inl t_have)))]) (wr := [(h_t, .inr (2, [.ref h_t_have, .ref h_t_keep, .int t_symbolCount, .ref h_t_giving])), (h_t_keep, .inl (kL, 16, .inr (.inl t_keep))), (h_t_giving_reach, .inl (kI, 16, .inl t_giving_reach))]) (w1 := fun x : Unit => [(h_t_giving, .inr (1, [.ref h_t_giving_given, .ref h_t_giving_askedBy, .ref h_t_giving_line, .ref h_t_giving_reach, .long t_used_9, .int t_giving_movable])), (h_t_giving_given, .inl (kI, 16, .inl t_given_9)), (h_t_giving_askedBy, .inl (kI, 16, .inl t_askedBy_9)), (h_t_giving_line, .inl (kI, 16, .inl t_line_9)), (h_t_have, .inl (kL, 16, .inr (.inl t_have)))]) (wn := fun x : Unit => [(h_t, .inr (2, [.ref h_t_have, .ref h_t_keep, .int t_symbolCount, .ref h_t_giving])), (h_t_have, .inl (kL, 16, .inr (.inl t_have))), (h_t_keep, .inl (kL, 16, .inr (.inl t_keep))), (h_t_giving, .inr (1, [.ref h_t_giving_given, .ref h_t_giving_askedBy, .ref h_t_giving_line, .ref h_t_giving_reach, .long t_used_9, .int t_giving_movable])), (h_t_giving_given, .inl (kI, 16, .inl t_given_9)), (h_t_giving_askedBy, .inl (kI, 16, .inl t_askedBy_9)), (h_t_giving_line, .inl (kI, 16, .inl t_line_9)), (h_t_giving_reach, .inl (kI, 16, .inl t_giving_reach))]) (o := fun _ : Unit => some (.int r_9)) (va_runV (As := [.ref h_t_have, .int a1]) (rest := []) ⟨hx, hb, hml, hown, hts⟩ (c_Giving_giveAll (h_t := h_t_giving) (h_t_given := h_t_giving_given) (h_t_askedBy := h_t_giving_askedBy) (h_t_line := h_t_giving_line) (h_p1 := h_t_have) (h_t_reach := h_t_giving_reach) (t_used := t_giving_used) (t_movable := t_giving_movable) (t_given := t_giving_given) (t_askedBy := t_giving_askedBy) (t_line := t_giving_line) (p1_f := t_have) (a2 := a1) (u := (r_9, t_used_9, t_given_9, t_askedBy_9, t_line_9)) TY hc_9 _) (cwV 2 hts (gV tw_366 tw_367 tw_368 tw_46 tc_Giving_giveAll) rfl rfl rfl (by decide +kernel) ⟨Nat.le_of_ble_eq_true rfl, Nat.le_of_ble_eq_true rfl⟩) (m_preV hK hN hP hD [3, 4, 5, 6, 1] rfl (by decide) (ci := 1) (q0 := 0) rfl rfl _) rfl rfl hl.1 rfl (lv_room (Nat.le_of_ble_eq_true rfl)) d_Kernel_keepUnlike_9 ⟨Nat.le_of_ble_eq_true rfl, Nat.le_of_ble_eq_true rfl⟩) hP hD hS hA [3, 4, 5, 6, 1] [0, 2, 7] [0, 7, 1, 3, 4, 5, 6, 2] rfl rfl (by decide) (by decide) (by decide) (fun _ => rfl) (fun x H locs hP hD hS => ?_)
  have hP : va_P D vwCl [(h_t, .inr (2, [.ref h_t_have, .ref h_t_keep, .int t_symbolCount, .ref h_t_giving])), (h_t_have, .inl (kL, 16, .inr (.inl t_have))), (h_t_keep, .inl (kL, 16, .inr (.inl t_keep))), (h_t_giving, .inr (1, [.ref h_t_giving_given, .ref h_t_giving_askedBy, .ref h_t_giving_line, .ref h_t_giving_reach, .long t_used_9, .int t_giving_movable])), (h_t_giving_given, .inl (kI, 16, .inl t_given_9)), (h_t_giving_askedBy, .inl (kI, 16, .inl t_askedBy_9)), (h_t_giving_line, .inl (kI, 16, .inl t_line_9)), (h_t_giving_reach, .inl (kI, 16, .inl t_giving_reach))] H := hP
  have hD : va_D A [(h_t, .inr (2, [.ref h_t_have, .ref h_t_keep, .int t_symbolCount, .ref h_t_giving])), (h_t_have, .inl (kL, 16, .inr (.inl t_have))), (h_t_keep, .inl (kL, 16, .inr (.inl t_keep))), (h_t_giving, .inr (1, [.ref h_t_giving_given, .ref h_t_giving_askedBy, .ref h_t_giving_line, .ref h_t_giving_reach, .long t_used_9, .int t_giving_movable])), (h_t_giving_given, .inl (kI, 16, .inl t_given_9)), (h_t_giving_askedBy, .inl (kI, 16, .inl t_askedBy_9)), (h_t_giving_line, .inl (kI, 16, .inl t_line_9)), (h_t_giving_reach, .inl (kI, 16, .inl t_giving_reach))] := hD
  refine W.eq (g2 := F0 m 12 ls [.int r_9]) rfl ?_
  refine lv_if_ne (tgt := 20) hx hb d_Kernel_keepUnlike_12 (by decide) (fun c_12 => ?_) (fun c_12 => ?_)
  · replace hf := (if_neg c_12).symm.trans hf
    refine lv_aload_n hx hb d_Kernel_keepUnlike_20 rfl (lv_at hl 0 rfl) ?_
    refine va_get (D := D) (ci := 2) (v := .ref h_t_giving) (C := "RuleKernels$Kernel") (T := T_Kernel) (N := 4) hx hb hts w_i2 hown hK hP 0 rfl rfl 3 (by decide) w_f25 (fun _ h9 => h9) rfl d_Kernel_keepUnlike_21 ?_
    refine lv_aload_n hx hb d_Kernel_keepUnlike_24 rfl (lv_at hl 0 rfl) ?_
    refine va_get (D := D) (ci := 2) (v := .ref h_t_have) (C := "RuleKernels$Kernel") (T := T_Kernel) (N := 4) hx hb hts w_i2 hown hK hP 0 rfl rfl 0 (by decide) w_f15 (fun _ h9 => h9) rfl d_Kernel_keepUnlike_25 ?_
    refine lv_iload_n hx hb d_Kernel_keepUnlike_28 rfl (lv_at hl 1 rfl) ?_
    obtain ⟨⟨t_movable_29, t_reach_29⟩, hc_29, hf⟩ := jb hf
    refine m_call (wc := [(h_t_giving, .inr (1, [.ref h_t_giving_given, .ref h_t_giving_askedBy, .ref h_t_giving_line, .ref h_t_giving_reach, .long t_used_9, .int t_giving_movable])), (h_t_giving_given, .inl (kI, 16, .inl t_given_9)), (h_t_giving_reach, .inl (kI, 16, .inl t_giving_reach)), (h_t_have, .inl (kL, 16, .inr (.inl t_have)))]) (wr := [(h_t, .inr (2, [.ref h_t_have, .ref h_t_keep, .int t_symbolCount, .ref h_t_giving])), (h_t_keep, .inl (kL, 16, .inr (.inl t_keep))), (h_t_giving_askedBy, .inl (kI, 16, .inl t_askedBy_9)), (h_t_giving_line, .inl (kI, 16, .inl t_line_9))]) (w1 := fun x : Unit => [(h_t_giving, .inr (1, [.ref h_t_giving_given, .ref h_t_giving_askedBy, .ref h_t_giving_line, .ref h_t_giving_reach, .long t_used_9, .int t_movable_29])), (h_t_giving_given, .inl (kI, 16, .inl t_given_9)), (h_t_giving_reach, .inl (kI, 16, .inl t_reach_29)), (h_t_have, .inl (kL, 16, .inr (.inl t_have)))]) (wn := fun x : Unit => [(h_t, .inr (2, [.ref h_t_have, .ref h_t_keep, .int t_symbolCount, .ref h_t_giving])), (h_t_have, .inl (kL, 16, .inr (.inl t_have))), (h_t_keep, .inl (kL, 16, .inr (.inl t_keep))), (h_t_giving, .inr (1, [.ref h_t_giving_given, .ref h_t_giving_askedBy, .ref h_t_giving_line, .ref h_t_giving_reach, .long t_used_9, .int t_movable_29])), (h_t_giving_given, .inl (kI, 16, .inl t_given_9)), (h_t_giving_askedBy, .inl (kI, 16, .inl t_askedBy_9)), (h_t_giving_line, .inl (kI, 16, .inl t_line_9)), (h_t_giving_reach, .inl (kI, 16, .inl t_reach_29))]) (o := fun _ : Unit => none) (va_runV (As := [.ref h_t_have, .int a1]) (rest := []) ⟨hx, hb, hml, hown, hts⟩ (c_Giving_findReach (h_t := h_t_giving) (h_t_given := h_t_giving_given) (h_t_reach := h_t_giving_reach) (h_p1 := h_t_have) (h_t_askedBy := h_t_giving_askedBy) (h_t_line := h_t_giving_line) (t_used := t_used_9) (t_movable := t_giving_movable) (t_given := t_given_9) (t_reach := t_giving_reach) (p1_f := t_have) (a2 := a1) (u := (t_movable_29, t_reach_29)) TY hc_29 _) (cwV 2 hts (gV tw_392 tw_393 tw_394 tw_46 tc_Giving_findReach) rfl rfl rfl (by decide +kernel) ⟨Nat.le_of_ble_eq_true rfl, Nat.le_of_ble_eq_true rfl⟩) (m_preV hK hN hP hD [3, 4, 7, 1] rfl (by decide) (ci := 1) (q0 := 0) rfl rfl _) rfl rfl hl.1 rfl (lv_room (Nat.le_of_ble_eq_true rfl)) d_Kernel_keepUnlike_29 ⟨Nat.le_of_ble_eq_true rfl, Nat.le_of_ble_eq_true rfl⟩) hP hD hS hA [3, 4, 7, 1] [0, 2, 5, 6] [0, 7, 1, 4, 5, 2, 3, 6] rfl rfl (by decide) (by decide) (by decide) (fun _ => rfl) (fun x H locs hP hD hS => ?_)
    have hP : va_P D vwCl [(h_t, .inr (2, [.ref h_t_have, .ref h_t_keep, .int t_symbolCount, .ref h_t_giving])), (h_t_have, .inl (kL, 16, .inr (.inl t_have))), (h_t_keep, .inl (kL, 16, .inr (.inl t_keep))), (h_t_giving, .inr (1, [.ref h_t_giving_given, .ref h_t_giving_askedBy, .ref h_t_giving_line, .ref h_t_giving_reach, .long t_used_9, .int t_movable_29])), (h_t_giving_given, .inl (kI, 16, .inl t_given_9)), (h_t_giving_askedBy, .inl (kI, 16, .inl t_askedBy_9)), (h_t_giving_line, .inl (kI, 16, .inl t_line_9)), (h_t_giving_reach, .inl (kI, 16, .inl t_reach_29))] H := hP
    have hD : va_D A [(h_t, .inr (2, [.ref h_t_have, .ref h_t_keep, .int t_symbolCount, .ref h_t_giving])), (h_t_have, .inl (kL, 16, .inr (.inl t_have))), (h_t_keep, .inl (kL, 16, .inr (.inl t_keep))), (h_t_giving, .inr (1, [.ref h_t_giving_given, .ref h_t_giving_askedBy, .ref h_t_giving_line, .ref h_t_giving_reach, .long t_used_9, .int t_movable_29])), (h_t_giving_given, .inl (kI, 16, .inl t_given_9)), (h_t_giving_askedBy, .inl (kI, 16, .inl t_askedBy_9)), (h_t_giving_line, .inl (kI, 16, .inl t_line_9)), (h_t_giving_reach, .inl (kI, 16, .inl t_reach_29))] := hD
    refine W.eq (g2 := F0 m 32 ls []) rfl ?_
    refine lv_iconst (v := 0) hx hb d_Kernel_keepUnlike_32 (by decide) ?_
    refine lv_istore_n (lv' := [(2, .int (0 : Int32)), (0, .ref h_t), (1, .int a1)]) hx hb d_Kernel_keepUnlike_33 rfl hl (by decide) rfl (fun ls hl => ?_)
    exact L34  N (0 : Int32) t_keep t_used_9 t_movable_29 t_given_9 t_askedBy_9 t_line_9 t_reach_29 hf _ _ hP hD hS ls (lv_sub hl [1, 2, 0] rfl)
  · replace hf := (if_pos c_12).symm.trans hf
    refine lv_aload_n hx hb d_Kernel_keepUnlike_15 rfl (lv_at hl 0 rfl) ?_
    obtain ⟨t_keep_16, hc_16, hf⟩ := jb hf
    refine m_call (wc := [(h_t, .inr (2, [.ref h_t_have, .ref h_t_keep, .int t_symbolCount, .ref h_t_giving])), (h_t_keep, .inl (kL, 16, .inr (.inl t_keep)))]) (wr := [(h_t_have, .inl (kL, 16, .inr (.inl t_have))), (h_t_giving, .inr (1, [.ref h_t_giving_given, .ref h_t_giving_askedBy, .ref h_t_giving_line, .ref h_t_giving_reach, .long t_used_9, .int t_giving_movable])), (h_t_giving_given, .inl (kI, 16, .inl t_given_9)), (h_t_giving_askedBy, .inl (kI, 16, .inl t_askedBy_9)), (h_t_giving_line, .inl (kI, 16, .inl t_line_9)), (h_t_giving_reach, .inl (kI, 16, .inl t_giving_reach))]) (w1 := fun x : Unit => [(h_t, .inr (2, [.ref h_t_have, .ref h_t_keep, .int t_symbolCount, .ref h_t_giving])), (h_t_keep, .inl (kL, 16, .inr (.inl t_keep_16)))]) (wn := fun x : Unit => [(h_t, .inr (2, [.ref h_t_have, .ref h_t_keep, .int t_symbolCount, .ref h_t_giving])), (h_t_have, .inl (kL, 16, .inr (.inl t_have))), (h_t_keep, .inl (kL, 16, .inr (.inl t_keep_16))), (h_t_giving, .inr (1, [.ref h_t_giving_given, .ref h_t_giving_askedBy, .ref h_t_giving_line, .ref h_t_giving_reach, .long t_used_9, .int t_giving_movable])), (h_t_giving_given, .inl (kI, 16, .inl t_given_9)), (h_t_giving_askedBy, .inl (kI, 16, .inl t_askedBy_9)), (h_t_giving_line, .inl (kI, 16, .inl t_line_9)), (h_t_giving_reach, .inl (kI, 16, .inl t_giving_reach))]) (o := fun _ : Unit => none) (va_runV (As := []) (rest := []) ⟨hx, hb, hml, hown, hts⟩ (c_Kernel_keepNothing (h_t := h_t) (h_t_keep := h_t_keep) (h_t_have := h_t_have) (h_t_giving := h_t_giving) (t_symbolCount := t_symbolCount) (t_keep := t_keep) (u := t_keep_16) TY hc_16 _) (cwV 0 hts (gV tw_387 tw_389 tw_9 tw_45 tc_Kernel_keepNothing) rfl rfl rfl (by decide +kernel) ⟨Nat.le_of_ble_eq_true rfl, Nat.le_of_ble_eq_true rfl⟩) (m_preV hK hN hP hD [0, 2] rfl (by decide) (ci := 2) (q0 := 0) rfl rfl _) rfl rfl hl.1 rfl (lv_room (Nat.le_of_ble_eq_true rfl)) d_Kernel_keepUnlike_16 ⟨Nat.le_of_ble_eq_true rfl, Nat.le_of_ble_eq_true rfl⟩) hP hD hS hA [0, 2] [1, 3, 4, 5, 6, 7] [6, 0, 7, 1, 2, 3, 4, 5] rfl rfl (by decide) (by decide) (by decide) (fun _ => rfl) (fun x H locs hP hD hS => ?_)
    have hP : va_P D vwCl [(h_t, .inr (2, [.ref h_t_have, .ref h_t_keep, .int t_symbolCount, .ref h_t_giving])), (h_t_have, .inl (kL, 16, .inr (.inl t_have))), (h_t_keep, .inl (kL, 16, .inr (.inl t_keep_16))), (h_t_giving, .inr (1, [.ref h_t_giving_given, .ref h_t_giving_askedBy, .ref h_t_giving_line, .ref h_t_giving_reach, .long t_used_9, .int t_giving_movable])), (h_t_giving_given, .inl (kI, 16, .inl t_given_9)), (h_t_giving_askedBy, .inl (kI, 16, .inl t_askedBy_9)), (h_t_giving_line, .inl (kI, 16, .inl t_line_9)), (h_t_giving_reach, .inl (kI, 16, .inl t_giving_reach))] H := hP
    have hD : va_D A [(h_t, .inr (2, [.ref h_t_have, .ref h_t_keep, .int t_symbolCount, .ref h_t_giving])), (h_t_have, .inl (kL, 16, .inr (.inl t_have))), (h_t_keep, .inl (kL, 16, .inr (.inl t_keep_16))), (h_t_giving, .inr (1, [.ref h_t_giving_given, .ref h_t_giving_askedBy, .ref h_t_giving_line, .ref h_t_giving_reach, .long t_used_9, .int t_giving_movable])), (h_t_giving_given, .inl (kI, 16, .inl t_given_9)), (h_t_giving_askedBy, .inl (kI, 16, .inl t_askedBy_9)), (h_t_giving_line, .inl (kI, 16, .inl t_line_9)), (h_t_giving_reach, .inl (kI, 16, .inl t_giving_reach))] := hD
    refine W.eq (g2 := F0 m 19 ls []) rfl ?_
    have hu := Option.some.inj hf
    exact m_retv () hx hb hr hlk hK (by rw [← hu]; exact hP) (by rw [← hu]; exact hD) hS hQ hAe rfl (Nat.le_of_ble_eq_true rfl) (Nat.le_of_ble_eq_true rfl) d_Kernel_keepUnlike_19
set_option maxHeartbeats 4000000 in
set_option maxRecDepth 100000 in
theorem c_Kernel_keepEqual {l : Launch} {D : va_G} {tys : List (ClassId × FieldType)} {kI kL kZ kR kM : ClassId} {N : Nat} {h_t h_t_have h_t_keep h_t_giving : Nat} {t_symbolCount : Int32} {t_have : Nat → Int64} {t_keep : Nat → Int64} {a1 : Int32} {u : (Nat → Int64)} (TY : mTy tys kI kL kZ kR kM) (hf : p_Kernel_keepEqual N t_have t_keep a1 = some u) (sz : Nat) : Met l y_Kernel_keepEqual ws_Kernel_keepEqual { frames := 1, cells := 0, slots := 0, locals := 24 } (mPre D tys [.ref h_t, .int a1] [(h_t, .inr (2, [.ref h_t_have, .ref h_t_keep, .int t_symbolCount, .ref h_t_giving])), (h_t_have, .inl (kL, 16, .inr (.inl t_have))), (h_t_keep, .inl (kL, 16, .inr (.inl t_keep)))] sz) (mPost D tys (fun _ : Unit => none) [(h_t, .inr (2, [.ref h_t_have, .ref h_t_keep, .int t_symbolCount, .ref h_t_giving])), (h_t_have, .inl (kL, 16, .inr (.inl t_have))), (h_t_keep, .inl (kL, 16, .inr (.inl t_keep)))] (fun x : Unit => [(h_t, .inr (2, [.ref h_t_have, .ref h_t_keep, .int t_symbolCount, .ref h_t_giving])), (h_t_have, .inl (kL, 16, .inr (.inl t_have))), (h_t_keep, .inl (kL, 16, .inr (.inl u)))]) sz) 0 0 (va_A [(h_t, .inr (2, [.ref h_t_have, .ref h_t_keep, .int t_symbolCount, .ref h_t_giving])), (h_t_have, .inl (kL, 16, .inr (.inl t_have))), (h_t_keep, .inl (kL, 16, .inr (.inl t_keep)))] sz) := by
  refine m_ofW (cc := b_Kernel_keepEqual) (maxL := 5) (ret := none) (by decide) rfl (Nat.le_of_ble_eq_true rfl) ?_ sz
  intro p e s m args below meth c ls Q A hx hb hml hr hts hown hin hlk hK hN hP hD hA hS hl hQ hAe
  have hown : s.vm.findClass "RuleKernels$Kernel" = some m.cls := hown
  have hl : lv_has ls 5 [(0, .ref h_t), (1, .int a1)] := hl
  have w_f15 := (hts _ (List.mem_cons_of_mem _ tw_136))
  have w_f19 := (hts _ (List.mem_cons_of_mem _ tw_138))
  have w_i2 := (fun q h => List.mem_cons_of_mem _ (i_Kernel q h) : ∀ q ∈ u_ws "RuleKernels$Kernel" T_Kernel 4, q ∈ ws_Kernel_keepEqual)
  have w_k87 := (hts _ (List.mem_cons_of_mem _ tw_404))
  have L29 : ∀ (x2 : Int64) (t_keep : Nat → Int64), q_Kernel_keepEqual_29 N x2 t_keep = some u → ∀ (H : Heap) (locs : List Loc), va_P D vwCl [(h_t, .inr (2, [.ref h_t_have, .ref h_t_keep, .int t_symbolCount, .ref h_t_giving])), (h_t_have, .inl (kL, 16, .inr (.inl t_have))), (h_t_keep, .inl (kL, 16, .inr (.inl t_keep)))] H → va_D A [(h_t, .inr (2, [.ref h_t_have, .ref h_t_keep, .int t_symbolCount, .ref h_t_giving])), (h_t_have, .inl (kL, 16, .inr (.inl t_have))), (h_t_keep, .inl (kL, 16, .inr (.inl t_keep)))] → va_S A s.heap H locs → ∀ ls : Array Slot, lv_has ls 5 [(0, .ref h_t), (2, .long x2)] → W p l e { frames := 1, cells := 0, slots := 0, locals := 24 } s m args below meth c H locs 0 0 Q (F0 m 29 ls []) := by
    intro x2 t_keep hf H locs hP hD hS ls hl
    unfold q_Kernel_keepEqual_29 at hf
    refine lv_aload_n hx hb d_Kernel_keepEqual_29 rfl (lv_at hl 0 rfl) ?_
    refine va_get (D := D) (ci := 2) (v := .ref h_t_keep) (C := "RuleKernels$Kernel") (T := T_Kernel) (N := 4) hx hb hts w_i2 hown hK hP 0 rfl rfl 1 (by decide) w_f19 (fun _ h9 => h9) rfl d_Kernel_keepEqual_30 ?_
    refine lv_lload_n hx hb d_Kernel_keepEqual_33 rfl (lv_at hl 1 rfl) ?_
    obtain ⟨p0_f_34, hc_34, hf⟩ := jb hf
    refine m_call (wc := [(h_t_keep, .inl (kL, 16, .inr (.inl t_keep)))]) (wr := [(h_t, .inr (2, [.ref h_t_have, .ref h_t_keep, .int t_symbolCount, .ref h_t_giving])), (h_t_have, .inl (kL, 16, .inr (.inl t_have)))]) (w1 := fun x : Unit => [(h_t_keep, .inl (kL, 16, .inr (.inl p0_f_34)))]) (wn := fun x : Unit => [(h_t, .inr (2, [.ref h_t_have, .ref h_t_keep, .int t_symbolCount, .ref h_t_giving])), (h_t_have, .inl (kL, 16, .inr (.inl t_have))), (h_t_keep, .inl (kL, 16, .inr (.inl p0_f_34)))]) (o := fun _ : Unit => none) (va_runS (As := [.ref h_t_keep, .long x2]) (rest := []) ⟨hx, hb, hml, hown, hts⟩ (c_Arr_fill (h_p0 := h_t_keep) (n_p0 := 16) (p0_f := t_keep) (a1 := x2) (u := p0_f_34) TY hc_34 _) (va_cwS 2 hts (gS tw_391 tw_76 tw_44 tc_Arr_fill) rfl rfl rfl (by decide +kernel) ⟨Nat.le_of_ble_eq_true rfl, Nat.le_of_ble_eq_true rfl⟩) (m_preS hK hN hP hD [2] rfl (by decide) _) rfl rfl hl.1 rfl (lv_room (Nat.le_of_ble_eq_true rfl)) d_Kernel_keepEqual_34 ⟨Nat.le_of_ble_eq_true rfl, Nat.le_of_ble_eq_true rfl⟩) hP hD hS hA [2] [0, 1] [0, 1, 2] rfl rfl (by decide) (by decide) (by decide) (fun _ => rfl) (fun x H locs hP hD hS => ?_)
    have hP : va_P D vwCl [(h_t, .inr (2, [.ref h_t_have, .ref h_t_keep, .int t_symbolCount, .ref h_t_giving])), (h_t_have, .inl (kL, 16, .inr (.inl t_have))), (h_t_keep, .inl (kL, 16, .inr (.inl p0_f_34)))] H := hP
    have hD : va_D A [(h_t, .inr (2, [.ref h_t_have, .ref h_t_keep, .int t_symbolCount, .ref h_t_giving])), (h_t_have, .inl (kL, 16, .inr (.inl t_have))), (h_t_keep, .inl (kL, 16, .inr (.inl p0_f_34)))] := hD
    refine W.eq (g2 := F0 m 37 ls []) rfl ?_
    have hu := Option.some.inj hf
    exact m_retv () hx hb hr hlk hK (by rw [← hu]; exact hP) (by rw [← hu]; exact hD) hS hQ hAe rfl (Nat.le_of_ble_eq_true rfl) (Nat.le_of_ble_eq_true rfl) d_Kernel_keepEqual_37
  have L7 : ∀ n : Nat, ∀ (x2 : Int64) (x4 : Int32) (t_keep : Nat → Int64), q_Kernel_keepEqual_7 N t_have a1 n x2 x4 t_keep = some u → ∀ (H : Heap) (locs : List Loc), va_P D vwCl [(h_t, .inr (2, [.ref h_t_have, .ref h_t_keep, .int t_symbolCount, .ref h_t_giving])), (h_t_have, .inl (kL, 16, .inr (.inl t_have))), (h_t_keep, .inl (kL, 16, .inr (.inl t_keep)))] H → va_D A [(h_t, .inr (2, [.ref h_t_have, .ref h_t_keep, .int t_symbolCount, .ref h_t_giving])), (h_t_have, .inl (kL, 16, .inr (.inl t_have))), (h_t_keep, .inl (kL, 16, .inr (.inl t_keep)))] → va_S A s.heap H locs → ∀ ls : Array Slot, lv_has ls 5 [(0, .ref h_t), (1, .int a1), (2, .long x2), (4, .int x4)] → W p l e { frames := 1, cells := 0, slots := 0, locals := 24 } s m args below meth c H locs 0 0 Q (F0 m 7 ls []) := by
    intro n
    induction n with
    | zero =>
      intro x2 x4 t_keep hf
      exact nomatch (show (none : Option ((Nat → Int64))) = some _ from hf)
    | succ n ih =>
      intro x2 x4 t_keep hf H locs hP hD hS ls hl
      rw [q_Kernel_keepEqual_7] at hf
      refine lv_iload hx hb d_Kernel_keepEqual_7 (lv_at hl 3 rfl) ?_
      refine lv_iload_n hx hb d_Kernel_keepEqual_9 rfl (lv_at hl 1 rfl) ?_
      refine lv_icmp_ge (tgt := 29) hx hb d_Kernel_keepEqual_10 (by decide) (fun c_10 => ?_) (fun c_10 => ?_)
      · replace hf := (if_pos c_10).symm.trans hf
        exact L29  x2 t_keep hf _ _ hP hD hS ls (lv_sub hl [0, 2] rfl)
      · replace hf := (if_neg c_10).symm.trans hf
        refine lv_lload_n hx hb d_Kernel_keepEqual_13 rfl (lv_at hl 2 rfl) ?_
        refine lv_aload_n hx hb d_Kernel_keepEqual_14 rfl (lv_at hl 0 rfl) ?_
        refine va_get (D := D) (ci := 2) (v := .ref h_t_have) (C := "RuleKernels$Kernel") (T := T_Kernel) (N := 4) hx hb hts w_i2 hown hK hP 0 rfl rfl 0 (by decide) w_f15 (fun _ h9 => h9) rfl d_Kernel_keepEqual_15 ?_
        refine lv_iload hx hb d_Kernel_keepEqual_18 (lv_at hl 3 rfl) ?_
        obtain ⟨h_20, hf⟩ := jin_some hf
        refine va_lald hx hb hK hP 1 1 rfl TY.2.1 h_20 d_Kernel_keepEqual_20 ?_
        refine lv_land hx hb d_Kernel_keepEqual_21 ?_
        refine lv_lstore_n (lv' := [(2, .long (x2 &&& (t_have x4.toNatClampNeg))), (0, .ref h_t), (1, .int a1), (4, .int x4)]) hx hb d_Kernel_keepEqual_22 rfl hl (by decide) rfl (fun ls hl => ?_)
        refine lv_iinc (v := (x4 + 1)) (lv' := [(4, .int (x4 + 1)), (2, .long (x2 &&& (t_have x4.toNatClampNeg))), (0, .ref h_t), (1, .int a1)]) hx hb d_Kernel_keepEqual_23 hl (k := 3) rfl rfl (by decide) rfl (fun ls hl => ?_)
        refine lv_goto (tgt := 7) hx hb d_Kernel_keepEqual_26 (by decide) ?_
        exact ih (x2 &&& (t_have x4.toNatClampNeg)) (x4 + 1) t_keep hf _ _ hP hD hS ls (lv_sub hl [2, 3, 1, 0] rfl)
  unfold p_Kernel_keepEqual at hf
  refine lv_ldc2 (v := -1) hx hb hown w_k87 d_Kernel_keepEqual_0 ?_
  refine lv_lstore_n (lv' := [(2, .long (-1 : Int64)), (0, .ref h_t), (1, .int a1)]) hx hb d_Kernel_keepEqual_3 rfl hl (by decide) rfl (fun ls hl => ?_)
  refine lv_iconst (v := 0) hx hb d_Kernel_keepEqual_4 (by decide) ?_
  refine lv_istore (lv' := [(4, .int (0 : Int32)), (2, .long (-1 : Int64)), (0, .ref h_t), (1, .int a1)]) hx hb d_Kernel_keepEqual_5 hl (by decide) rfl (fun ls hl => ?_)
  exact L7  N (-1 : Int64) (0 : Int32) t_keep hf _ _ hP hD hS ls (lv_sub hl [2, 3, 1, 0] rfl)
set_option maxHeartbeats 4000000 in
set_option maxRecDepth 100000 in
theorem c_Kernel_keepSum {l : Launch} {D : va_G} {tys : List (ClassId × FieldType)} {kI kL kZ kR kM : ClassId} {N : Nat} {h_t h_t_have h_t_keep h_p1 h_p1_factors h_t_giving h_p1_places h_p1_partners : Nat} {t_symbolCount : Int32} {t_have : Nat → Int64} {t_keep : Nat → Int64} {p1_kind : Int32} {p1_right : Int64} {p1_size : Int32} {p1_pairs : Int32} {p1_factors : Nat → Int32} {u : (Nat → Int64)} (TY : mTy tys kI kL kZ kR kM) (hf : p_Kernel_keepSum N t_symbolCount t_have t_keep p1_kind p1_right p1_size p1_factors = some u) (sz : Nat) : Met l y_Kernel_keepSum ws_Kernel_keepSum { frames := 4, cells := 0, slots := 0, locals := 86 } (mPre D tys [.ref h_t, .ref h_p1] [(h_t, .inr (2, [.ref h_t_have, .ref h_t_keep, .int t_symbolCount, .ref h_t_giving])), (h_t_have, .inl (kL, 16, .inr (.inl t_have))), (h_t_keep, .inl (kL, 16, .inr (.inl t_keep))), (h_p1, .inr (5, [.int p1_kind, .long p1_right, .ref h_p1_places, .ref h_p1_factors, .ref h_p1_partners, .int p1_size, .int p1_pairs])), (h_p1_factors, .inl (kI, 16, .inl p1_factors))] sz) (mPost D tys (fun _ : Unit => none) [(h_t, .inr (2, [.ref h_t_have, .ref h_t_keep, .int t_symbolCount, .ref h_t_giving])), (h_t_have, .inl (kL, 16, .inr (.inl t_have))), (h_t_keep, .inl (kL, 16, .inr (.inl t_keep))), (h_p1, .inr (5, [.int p1_kind, .long p1_right, .ref h_p1_places, .ref h_p1_factors, .ref h_p1_partners, .int p1_size, .int p1_pairs])), (h_p1_factors, .inl (kI, 16, .inl p1_factors))] (fun x : Unit => [(h_t, .inr (2, [.ref h_t_have, .ref h_t_keep, .int t_symbolCount, .ref h_t_giving])), (h_t_have, .inl (kL, 16, .inr (.inl t_have))), (h_t_keep, .inl (kL, 16, .inr (.inl u))), (h_p1, .inr (5, [.int p1_kind, .long p1_right, .ref h_p1_places, .ref h_p1_factors, .ref h_p1_partners, .int p1_size, .int p1_pairs])), (h_p1_factors, .inl (kI, 16, .inl p1_factors))]) sz) 0 0 (va_A [(h_t, .inr (2, [.ref h_t_have, .ref h_t_keep, .int t_symbolCount, .ref h_t_giving])), (h_t_have, .inl (kL, 16, .inr (.inl t_have))), (h_t_keep, .inl (kL, 16, .inr (.inl t_keep))), (h_p1, .inr (5, [.int p1_kind, .long p1_right, .ref h_p1_places, .ref h_p1_factors, .ref h_p1_partners, .int p1_size, .int p1_pairs])), (h_p1_factors, .inl (kI, 16, .inl p1_factors))] sz) := by
  refine m_ofW (cc := b_Kernel_keepSum) (maxL := 16) (ret := none) (by decide) rfl (Nat.le_of_ble_eq_true rfl) ?_ sz
  intro p e s m args below meth c ls Q A hx hb hml hr hts hown hin hlk hK hN hP hD hA hS hl hQ hAe
  have hown : s.vm.findClass "RuleKernels$Kernel" = some m.cls := hown
  have hl : lv_has ls 16 [(0, .ref h_t), (1, .ref h_p1)] := hl
  have w_f100 := (hts _ (List.mem_cons_of_mem _ tw_233))
  have w_f15 := (hts _ (List.mem_cons_of_mem _ tw_136))
  have w_f19 := (hts _ (List.mem_cons_of_mem _ tw_138))
  have w_f35 := (hts _ (List.mem_cons_of_mem _ tw_241))
  have w_f40 := (hts _ (List.mem_cons_of_mem _ tw_231))
  have w_f89 := (hts _ (List.mem_cons_of_mem _ tw_237))
  have w_i2 := (fun q h => List.mem_cons_of_mem _ (i_Kernel q h) : ∀ q ∈ u_ws "RuleKernels$Kernel" T_Kernel 4, q ∈ ws_Kernel_keepSum)
  have w_i5 := (fun q h => List.mem_cons_of_mem _ (i_Rule q h) : ∀ q ∈ u_ws "RuleKernels$Rule" T_Rule 7, q ∈ ws_Kernel_keepSum)
  have L190 : ∀ (K68 : Int64 → Int64 → Int32 → (Nat → Int64) → Option ((Nat → Int64))), (∀ (x2 : Int64) (x4 : Int64) (x6 : Int32) (t_keep : Nat → Int64), K68 x2 x4 x6 t_keep = some u → ∀ (H : Heap) (locs : List Loc), va_P D vwCl [(h_t, .inr (2, [.ref h_t_have, .ref h_t_keep, .int t_symbolCount, .ref h_t_giving])), (h_t_have, .inl (kL, 16, .inr (.inl t_have))), (h_t_keep, .inl (kL, 16, .inr (.inl t_keep))), (h_p1, .inr (5, [.int p1_kind, .long p1_right, .ref h_p1_places, .ref h_p1_factors, .ref h_p1_partners, .int p1_size, .int p1_pairs])), (h_p1_factors, .inl (kI, 16, .inl p1_factors))] H → va_D A [(h_t, .inr (2, [.ref h_t_have, .ref h_t_keep, .int t_symbolCount, .ref h_t_giving])), (h_t_have, .inl (kL, 16, .inr (.inl t_have))), (h_t_keep, .inl (kL, 16, .inr (.inl t_keep))), (h_p1, .inr (5, [.int p1_kind, .long p1_right, .ref h_p1_places, .ref h_p1_factors, .ref h_p1_partners, .int p1_size, .int p1_pairs])), (h_p1_factors, .inl (kI, 16, .inl p1_factors))] → va_S A s.heap H locs → ∀ ls : Array Slot, lv_has ls 16 [(0, .ref h_t), (1, .ref h_p1), (2, .long x2), (4, .long x4), (6, .int x6)] → W p l e { frames := 4, cells := 0, slots := 0, locals := 86 } s m args below meth c H locs 0 0 Q (F0 m 68 ls [])) → ∀ (x2 : Int64) (x4 : Int64) (x6 : Int32) (t_keep : Nat → Int64), q_Kernel_keepSum_190 N K68 x2 x4 x6 t_keep = some u → ∀ (H : Heap) (locs : List Loc), va_P D vwCl [(h_t, .inr (2, [.ref h_t_have, .ref h_t_keep, .int t_symbolCount, .ref h_t_giving])), (h_t_have, .inl (kL, 16, .inr (.inl t_have))), (h_t_keep, .inl (kL, 16, .inr (.inl t_keep))), (h_p1, .inr (5, [.int p1_kind, .long p1_right, .ref h_p1_places, .ref h_p1_factors, .ref h_p1_partners, .int p1_size, .int p1_pairs])), (h_p1_factors, .inl (kI, 16, .inl p1_factors))] H → va_D A [(h_t, .inr (2, [.ref h_t_have, .ref h_t_keep, .int t_symbolCount, .ref h_t_giving])), (h_t_have, .inl (kL, 16, .inr (.inl t_have))), (h_t_keep, .inl (kL, 16, .inr (.inl t_keep))), (h_p1, .inr (5, [.int p1_kind, .long p1_right, .ref h_p1_places, .ref h_p1_factors, .ref h_p1_partners, .int p1_size, .int p1_pairs])), (h_p1_factors, .inl (kI, 16, .inl p1_factors))] → va_S A s.heap H locs → ∀ ls : Array Slot, lv_has ls 16 [(0, .ref h_t), (1, .ref h_p1), (2, .long x2), (4, .long x4), (6, .int x6)] → W p l e { frames := 4, cells := 0, slots := 0, locals := 86 } s m args below meth c H locs 0 0 Q (F0 m 190 ls []) := by
    intro K68 hK68 x2 x4 x6 t_keep hf H locs hP hD hS ls hl
    unfold q_Kernel_keepSum_190 at hf
    refine lv_iinc (v := (x6 + 1)) (lv' := [(6, .int (x6 + 1)), (0, .ref h_t), (1, .ref h_p1), (2, .long x2), (4, .long x4)]) hx hb d_Kernel_keepSum_190 hl (k := 4) rfl rfl (by decide) rfl (fun ls hl => ?_)
    refine lv_goto (tgt := 68) hx hb d_Kernel_keepSum_193 (by decide) ?_
    exact hK68 x2 x4 (x6 + 1) t_keep hf _ _ hP hD hS ls (lv_sub hl [1, 2, 3, 4, 0] rfl)
  have L166 : ∀ (K68 : Int64 → Int64 → Int32 → (Nat → Int64) → Option ((Nat → Int64))), (∀ (x2 : Int64) (x4 : Int64) (x6 : Int32) (t_keep : Nat → Int64), K68 x2 x4 x6 t_keep = some u → ∀ (H : Heap) (locs : List Loc), va_P D vwCl [(h_t, .inr (2, [.ref h_t_have, .ref h_t_keep, .int t_symbolCount, .ref h_t_giving])), (h_t_have, .inl (kL, 16, .inr (.inl t_have))), (h_t_keep, .inl (kL, 16, .inr (.inl t_keep))), (h_p1, .inr (5, [.int p1_kind, .long p1_right, .ref h_p1_places, .ref h_p1_factors, .ref h_p1_partners, .int p1_size, .int p1_pairs])), (h_p1_factors, .inl (kI, 16, .inl p1_factors))] H → va_D A [(h_t, .inr (2, [.ref h_t_have, .ref h_t_keep, .int t_symbolCount, .ref h_t_giving])), (h_t_have, .inl (kL, 16, .inr (.inl t_have))), (h_t_keep, .inl (kL, 16, .inr (.inl t_keep))), (h_p1, .inr (5, [.int p1_kind, .long p1_right, .ref h_p1_places, .ref h_p1_factors, .ref h_p1_partners, .int p1_size, .int p1_pairs])), (h_p1_factors, .inl (kI, 16, .inl p1_factors))] → va_S A s.heap H locs → ∀ ls : Array Slot, lv_has ls 16 [(0, .ref h_t), (1, .ref h_p1), (2, .long x2), (4, .long x4), (6, .int x6)] → W p l e { frames := 4, cells := 0, slots := 0, locals := 86 } s m args below meth c H locs 0 0 Q (F0 m 68 ls [])) → ∀ (x2 : Int64) (x4 : Int64) (x6 : Int32) (x7 : Int32) (x12 : Int64) (x14 : Int64) (t_keep : Nat → Int64), q_Kernel_keepSum_166 N t_symbolCount t_have K68 x2 x4 x6 x7 x12 x14 t_keep = some u → ∀ (H : Heap) (locs : List Loc), va_P D vwCl [(h_t, .inr (2, [.ref h_t_have, .ref h_t_keep, .int t_symbolCount, .ref h_t_giving])), (h_t_have, .inl (kL, 16, .inr (.inl t_have))), (h_t_keep, .inl (kL, 16, .inr (.inl t_keep))), (h_p1, .inr (5, [.int p1_kind, .long p1_right, .ref h_p1_places, .ref h_p1_factors, .ref h_p1_partners, .int p1_size, .int p1_pairs])), (h_p1_factors, .inl (kI, 16, .inl p1_factors))] H → va_D A [(h_t, .inr (2, [.ref h_t_have, .ref h_t_keep, .int t_symbolCount, .ref h_t_giving])), (h_t_have, .inl (kL, 16, .inr (.inl t_have))), (h_t_keep, .inl (kL, 16, .inr (.inl t_keep))), (h_p1, .inr (5, [.int p1_kind, .long p1_right, .ref h_p1_places, .ref h_p1_factors, .ref h_p1_partners, .int p1_size, .int p1_pairs])), (h_p1_factors, .inl (kI, 16, .inl p1_factors))] → va_S A s.heap H locs → ∀ ls : Array Slot, lv_has ls 16 [(0, .ref h_t), (1, .ref h_p1), (2, .long x2), (4, .long x4), (6, .int x6), (7, .int x7), (12, .long x12), (14, .long x14)] → W p l e { frames := 4, cells := 0, slots := 0, locals := 86 } s m args below meth c H locs 0 0 Q (F0 m 166 ls []) := by
    intro K68 hK68 x2 x4 x6 x7 x12 x14 t_keep hf H locs hP hD hS ls hl
    unfold q_Kernel_keepSum_166 at hf
    refine lv_aload_n hx hb d_Kernel_keepSum_166 rfl (lv_at hl 0 rfl) ?_
    refine va_get (D := D) (ci := 2) (v := .ref h_t_keep) (C := "RuleKernels$Kernel") (T := T_Kernel) (N := 4) hx hb hts w_i2 hown hK hP 0 rfl rfl 1 (by decide) w_f19 (fun _ h9 => h9) rfl d_Kernel_keepSum_167 ?_
    refine lv_iload hx hb d_Kernel_keepSum_170 (lv_at hl 4 rfl) ?_
    refine lv_aload_n hx hb d_Kernel_keepSum_172 rfl (lv_at hl 0 rfl) ?_
    refine lv_aload_n hx hb d_Kernel_keepSum_173 rfl (lv_at hl 0 rfl) ?_
    refine va_get (D := D) (ci := 2) (v := .ref h_t_have) (C := "RuleKernels$Kernel") (T := T_Kernel) (N := 4) hx hb hts w_i2 hown hK hP 0 rfl rfl 0 (by decide) w_f15 (fun _ h9 => h9) rfl d_Kernel_keepSum_174 ?_
    refine lv_iload hx hb d_Kernel_keepSum_177 (lv_at hl 4 rfl) ?_
    obtain ⟨h_179, hf⟩ := jin_some hf
    refine va_lald hx hb hK hP 1 1 rfl TY.2.1 h_179 d_Kernel_keepSum_179 ?_
    refine lv_iload hx hb d_Kernel_keepSum_180 (lv_at hl 5 rfl) ?_
    refine lv_lload hx hb d_Kernel_keepSum_182 (lv_at hl 7 rfl) ?_
    refine lv_lload hx hb d_Kernel_keepSum_184 (lv_at hl 6 rfl) ?_
    obtain ⟨r_186, hc_186, hf⟩ := jb hf
    refine m_call (wc := [(h_t, .inr (2, [.ref h_t_have, .ref h_t_keep, .int t_symbolCount, .ref h_t_giving]))]) (wr := [(h_t_have, .inl (kL, 16, .inr (.inl t_have))), (h_t_keep, .inl (kL, 16, .inr (.inl t_keep))), (h_p1, .inr (5, [.int p1_kind, .long p1_right, .ref h_p1_places, .ref h_p1_factors, .ref h_p1_partners, .int p1_size, .int p1_pairs])), (h_p1_factors, .inl (kI, 16, .inl p1_factors))]) (w1 := fun x : Unit => [(h_t, .inr (2, [.ref h_t_have, .ref h_t_keep, .int t_symbolCount, .ref h_t_giving]))]) (wn := fun x : Unit => [(h_t, .inr (2, [.ref h_t_have, .ref h_t_keep, .int t_symbolCount, .ref h_t_giving])), (h_t_have, .inl (kL, 16, .inr (.inl t_have))), (h_t_keep, .inl (kL, 16, .inr (.inl t_keep))), (h_p1, .inr (5, [.int p1_kind, .long p1_right, .ref h_p1_places, .ref h_p1_factors, .ref h_p1_partners, .int p1_size, .int p1_pairs])), (h_p1_factors, .inl (kI, 16, .inl p1_factors))]) (o := fun _ : Unit => some (.long r_186)) (va_runV (As := [.long (t_have x6.toNatClampNeg), .int x7, .long x14, .long x12]) (rest := [.int x6, .ref h_t_keep]) ⟨hx, hb, hml, hown, hts⟩ (c_Kernel_within (h_t := h_t) (h_t_have := h_t_have) (h_t_keep := h_t_keep) (h_t_giving := h_t_giving) (t_symbolCount := t_symbolCount) (a1 := (t_have x6.toNatClampNeg)) (a3 := x7) (a4 := x14) (a6 := x12) (u := r_186) TY hc_186 _) (cwV 4 hts (gV tw_428 tw_430 tw_12 tw_45 tc_Kernel_within) rfl rfl rfl (by decide +kernel) ⟨Nat.le_of_ble_eq_true rfl, Nat.le_of_ble_eq_true rfl⟩) (m_preV hK hN hP hD [0] rfl (by decide) (ci := 2) (q0 := 0) rfl rfl _) rfl rfl hl.1 rfl (lv_room (Nat.le_of_ble_eq_true rfl)) d_Kernel_keepSum_186 ⟨Nat.le_of_ble_eq_true rfl, Nat.le_of_ble_eq_true rfl⟩) hP hD hS hA [0] [1, 2, 3, 4] [4, 0, 1, 2, 3] rfl rfl (by decide) (by decide) (by decide) (fun _ => rfl) (fun x H locs hP hD hS => ?_)
    have hP : va_P D vwCl [(h_t, .inr (2, [.ref h_t_have, .ref h_t_keep, .int t_symbolCount, .ref h_t_giving])), (h_t_have, .inl (kL, 16, .inr (.inl t_have))), (h_t_keep, .inl (kL, 16, .inr (.inl t_keep))), (h_p1, .inr (5, [.int p1_kind, .long p1_right, .ref h_p1_places, .ref h_p1_factors, .ref h_p1_partners, .int p1_size, .int p1_pairs])), (h_p1_factors, .inl (kI, 16, .inl p1_factors))] H := hP
    have hD : va_D A [(h_t, .inr (2, [.ref h_t_have, .ref h_t_keep, .int t_symbolCount, .ref h_t_giving])), (h_t_have, .inl (kL, 16, .inr (.inl t_have))), (h_t_keep, .inl (kL, 16, .inr (.inl t_keep))), (h_p1, .inr (5, [.int p1_kind, .long p1_right, .ref h_p1_places, .ref h_p1_factors, .ref h_p1_partners, .int p1_size, .int p1_pairs])), (h_p1_factors, .inl (kI, 16, .inl p1_factors))] := hD
    refine W.eq (g2 := F0 m 189 ls [.long r_186, .int x6, .ref h_t_keep]) rfl ?_
    obtain ⟨h_189, hf⟩ := jin_some hf
    refine va_last hx hb hK hP hD hS 2 1 rfl TY.2.1 h_189 d_Kernel_keepSum_189 (fun H locs hP hD hS => ?_)
    have hP : va_P D vwCl [(h_t, .inr (2, [.ref h_t_have, .ref h_t_keep, .int t_symbolCount, .ref h_t_giving])), (h_t_have, .inl (kL, 16, .inr (.inl t_have))), (h_t_keep, .inl (kL, 16, .inr (.inl (vp_updL t_keep x6.toNatClampNeg r_186)))), (h_p1, .inr (5, [.int p1_kind, .long p1_right, .ref h_p1_places, .ref h_p1_factors, .ref h_p1_partners, .int p1_size, .int p1_pairs])), (h_p1_factors, .inl (kI, 16, .inl p1_factors))] H := hP
    have hD : va_D A [(h_t, .inr (2, [.ref h_t_have, .ref h_t_keep, .int t_symbolCount, .ref h_t_giving])), (h_t_have, .inl (kL, 16, .inr (.inl t_have))), (h_t_keep, .inl (kL, 16, .inr (.inl (vp_updL t_keep x6.toNatClampNeg r_186)))), (h_p1, .inr (5, [.int p1_kind, .long p1_right, .ref h_p1_places, .ref h_p1_factors, .ref h_p1_partners, .int p1_size, .int p1_pairs])), (h_p1_factors, .inl (kI, 16, .inl p1_factors))] := hD
    exact L190 K68 hK68 x2 x4 x6 (vp_updL t_keep x6.toNatClampNeg r_186) hf _ _ hP hD hS ls (lv_sub hl [0, 1, 2, 3, 4] rfl)
  have L148 : ∀ (K68 : Int64 → Int64 → Int32 → (Nat → Int64) → Option ((Nat → Int64))), (∀ (x2 : Int64) (x4 : Int64) (x6 : Int32) (t_keep : Nat → Int64), K68 x2 x4 x6 t_keep = some u → ∀ (H : Heap) (locs : List Loc), va_P D vwCl [(h_t, .inr (2, [.ref h_t_have, .ref h_t_keep, .int t_symbolCount, .ref h_t_giving])), (h_t_have, .inl (kL, 16, .inr (.inl t_have))), (h_t_keep, .inl (kL, 16, .inr (.inl t_keep))), (h_p1, .inr (5, [.int p1_kind, .long p1_right, .ref h_p1_places, .ref h_p1_factors, .ref h_p1_partners, .int p1_size, .int p1_pairs])), (h_p1_factors, .inl (kI, 16, .inl p1_factors))] H → va_D A [(h_t, .inr (2, [.ref h_t_have, .ref h_t_keep, .int t_symbolCount, .ref h_t_giving])), (h_t_have, .inl (kL, 16, .inr (.inl t_have))), (h_t_keep, .inl (kL, 16, .inr (.inl t_keep))), (h_p1, .inr (5, [.int p1_kind, .long p1_right, .ref h_p1_places, .ref h_p1_factors, .ref h_p1_partners, .int p1_size, .int p1_pairs])), (h_p1_factors, .inl (kI, 16, .inl p1_factors))] → va_S A s.heap H locs → ∀ ls : Array Slot, lv_has ls 16 [(0, .ref h_t), (1, .ref h_p1), (2, .long x2), (4, .long x4), (6, .int x6)] → W p l e { frames := 4, cells := 0, slots := 0, locals := 86 } s m args below meth c H locs 0 0 Q (F0 m 68 ls [])) → ∀ (x2 : Int64) (x4 : Int64) (x6 : Int32) (x7 : Int32) (x8 : Int64) (x10 : Int64) (x12 : Int64) (z0 : Int64) (t_keep : Nat → Int64), q_Kernel_keepSum_148 N t_symbolCount t_have K68 x2 x4 x6 x7 x8 x10 x12 z0 t_keep = some u → ∀ (H : Heap) (locs : List Loc), va_P D vwCl [(h_t, .inr (2, [.ref h_t_have, .ref h_t_keep, .int t_symbolCount, .ref h_t_giving])), (h_t_have, .inl (kL, 16, .inr (.inl t_have))), (h_t_keep, .inl (kL, 16, .inr (.inl t_keep))), (h_p1, .inr (5, [.int p1_kind, .long p1_right, .ref h_p1_places, .ref h_p1_factors, .ref h_p1_partners, .int p1_size, .int p1_pairs])), (h_p1_factors, .inl (kI, 16, .inl p1_factors))] H → va_D A [(h_t, .inr (2, [.ref h_t_have, .ref h_t_keep, .int t_symbolCount, .ref h_t_giving])), (h_t_have, .inl (kL, 16, .inr (.inl t_have))), (h_t_keep, .inl (kL, 16, .inr (.inl t_keep))), (h_p1, .inr (5, [.int p1_kind, .long p1_right, .ref h_p1_places, .ref h_p1_factors, .ref h_p1_partners, .int p1_size, .int p1_pairs])), (h_p1_factors, .inl (kI, 16, .inl p1_factors))] → va_S A s.heap H locs → ∀ ls : Array Slot, lv_has ls 16 [(0, .ref h_t), (1, .ref h_p1), (2, .long x2), (4, .long x4), (6, .int x6), (7, .int x7), (8, .long x8), (10, .long x10), (12, .long x12)] → W p l e { frames := 4, cells := 0, slots := 0, locals := 86 } s m args below meth c H locs 0 0 Q (F0 m 148 ls [.long z0]) := by
    intro K68 hK68 x2 x4 x6 x7 x8 x10 x12 z0 t_keep hf H locs hP hD hS ls hl
    unfold q_Kernel_keepSum_148 at hf
    refine lv_lstore (lv' := [(14, .long z0), (0, .ref h_t), (1, .ref h_p1), (2, .long x2), (4, .long x4), (6, .int x6), (7, .int x7), (8, .long x8), (10, .long x10), (12, .long x12)]) hx hb d_Kernel_keepSum_148 hl (by decide) rfl (fun ls hl => ?_)
    refine lv_lload hx hb d_Kernel_keepSum_150 (lv_at hl 7 rfl) ?_
    refine lv_lload hx hb d_Kernel_keepSum_152 (lv_at hl 0 rfl) ?_
    refine W.lcmp hx hb d_Kernel_keepSum_154 ?_
    refine lv_if_lt (tgt := 166) hx hb d_Kernel_keepSum_155 (by decide) (fun c_155 => ?_) (fun c_155 => ?_)
    · replace hf := (if_pos c_155).symm.trans hf
      exact L166 K68 hK68 x2 x4 x6 x7 x12 z0 t_keep hf _ _ hP hD hS ls (lv_sub hl [1, 2, 3, 4, 5, 6, 9, 0] rfl)
    · replace hf := (if_neg c_155).symm.trans hf
      refine lv_lload hx hb d_Kernel_keepSum_158 (lv_at hl 8 rfl) ?_
      refine lv_lload hx hb d_Kernel_keepSum_160 (lv_at hl 9 rfl) ?_
      refine W.lcmp hx hb d_Kernel_keepSum_162 ?_
      refine lv_if_le (tgt := 190) hx hb d_Kernel_keepSum_163 (by decide) (fun c_163 => ?_) (fun c_163 => ?_)
      · replace hf := (if_pos c_163).symm.trans hf
        exact L190 K68 hK68 x2 x4 x6 t_keep hf _ _ hP hD hS ls (lv_sub hl [1, 2, 3, 4, 5] rfl)
      · replace hf := (if_neg c_163).symm.trans hf
        exact L166 K68 hK68 x2 x4 x6 x7 x12 z0 t_keep hf _ _ hP hD hS ls (lv_sub hl [1, 2, 3, 4, 5, 6, 9, 0] rfl)
  have L68 : ∀ n : Nat, ∀ (x2 : Int64) (x4 : Int64) (x6 : Int32) (t_keep : Nat → Int64), q_Kernel_keepSum_68 N t_symbolCount t_have p1_kind p1_right p1_size p1_factors n x2 x4 x6 t_keep = some u → ∀ (H : Heap) (locs : List Loc), va_P D vwCl [(h_t, .inr (2, [.ref h_t_have, .ref h_t_keep, .int t_symbolCount, .ref h_t_giving])), (h_t_have, .inl (kL, 16, .inr (.inl t_have))), (h_t_keep, .inl (kL, 16, .inr (.inl t_keep))), (h_p1, .inr (5, [.int p1_kind, .long p1_right, .ref h_p1_places, .ref h_p1_factors, .ref h_p1_partners, .int p1_size, .int p1_pairs])), (h_p1_factors, .inl (kI, 16, .inl p1_factors))] H → va_D A [(h_t, .inr (2, [.ref h_t_have, .ref h_t_keep, .int t_symbolCount, .ref h_t_giving])), (h_t_have, .inl (kL, 16, .inr (.inl t_have))), (h_t_keep, .inl (kL, 16, .inr (.inl t_keep))), (h_p1, .inr (5, [.int p1_kind, .long p1_right, .ref h_p1_places, .ref h_p1_factors, .ref h_p1_partners, .int p1_size, .int p1_pairs])), (h_p1_factors, .inl (kI, 16, .inl p1_factors))] → va_S A s.heap H locs → ∀ ls : Array Slot, lv_has ls 16 [(0, .ref h_t), (1, .ref h_p1), (2, .long x2), (4, .long x4), (6, .int x6)] → W p l e { frames := 4, cells := 0, slots := 0, locals := 86 } s m args below meth c H locs 0 0 Q (F0 m 68 ls []) := by
    intro n
    induction n with
    | zero =>
      intro x2 x4 x6 t_keep hf
      exact nomatch (show (none : Option ((Nat → Int64))) = some _ from hf)
    | succ n ih =>
      intro x2 x4 x6 t_keep hf H locs hP hD hS ls hl
      rw [q_Kernel_keepSum_68] at hf
      refine lv_iload hx hb d_Kernel_keepSum_68 (lv_at hl 4 rfl) ?_
      refine lv_aload_n hx hb d_Kernel_keepSum_70 rfl (lv_at hl 1 rfl) ?_
      refine va_get (D := D) (ci := 5) (v := .int p1_size) (C := "RuleKernels$Rule") (T := T_Rule) (N := 7) hx hb hts w_i5 hown hK hP 3 rfl rfl 5 (by decide) w_f35 (fun _ h9 => h9) rfl d_Kernel_keepSum_71 ?_
      refine lv_icmp_ge (tgt := 196) hx hb d_Kernel_keepSum_74 (by decide) (fun c_74 => ?_) (fun c_74 => ?_)
      · replace hf := (if_pos c_74).symm.trans hf
        have hu := Option.some.inj hf
        exact m_retv () hx hb hr hlk hK (by rw [← hu]; exact hP) (by rw [← hu]; exact hD) hS hQ hAe rfl (Nat.le_of_ble_eq_true rfl) (Nat.le_of_ble_eq_true rfl) d_Kernel_keepSum_196
      · replace hf := (if_neg c_74).symm.trans hf
        refine lv_aload_n hx hb d_Kernel_keepSum_77 rfl (lv_at hl 1 rfl) ?_
        refine va_get (D := D) (ci := 5) (v := .ref h_p1_factors) (C := "RuleKernels$Rule") (T := T_Rule) (N := 7) hx hb hts w_i5 hown hK hP 3 rfl rfl 3 (by decide) w_f89 (fun _ h9 => h9) rfl d_Kernel_keepSum_78 ?_
        refine lv_iload hx hb d_Kernel_keepSum_81 (lv_at hl 4 rfl) ?_
        obtain ⟨h_83, hf⟩ := jin_some hf
        refine va_iald hx hb hK hP 4 0 rfl TY.1 h_83 d_Kernel_keepSum_83 ?_
        refine lv_istore (lv' := [(7, .int (p1_factors x6.toNatClampNeg)), (0, .ref h_t), (1, .ref h_p1), (2, .long x2), (4, .long x4), (6, .int x6)]) hx hb d_Kernel_keepSum_84 hl (by decide) rfl (fun ls hl => ?_)
        refine lv_iload hx hb d_Kernel_keepSum_86 (lv_at hl 0 rfl) ?_
        refine lv_aload_n hx hb d_Kernel_keepSum_88 rfl (lv_at hl 1 rfl) ?_
        refine va_get (D := D) (ci := 2) (v := .ref h_t_have) (C := "RuleKernels$Kernel") (T := T_Kernel) (N := 4) hx hb hts w_i2 hown hK hP 0 rfl rfl 0 (by decide) w_f15 (fun _ h9 => h9) rfl d_Kernel_keepSum_89 ?_
        refine lv_iload hx hb d_Kernel_keepSum_92 (lv_at hl 5 rfl) ?_
        obtain ⟨h_94, hf⟩ := jin_some hf
        refine va_lald hx hb hK hP 1 1 rfl TY.2.1 h_94 d_Kernel_keepSum_94 ?_
        obtain ⟨r_95, hc_95, hf⟩ := jb hf
        refine m_call (wc := []) (wr := [(h_t, .inr (2, [.ref h_t_have, .ref h_t_keep, .int t_symbolCount, .ref h_t_giving])), (h_t_have, .inl (kL, 16, .inr (.inl t_have))), (h_t_keep, .inl (kL, 16, .inr (.inl t_keep))), (h_p1, .inr (5, [.int p1_kind, .long p1_right, .ref h_p1_places, .ref h_p1_factors, .ref h_p1_partners, .int p1_size, .int p1_pairs])), (h_p1_factors, .inl (kI, 16, .inl p1_factors))]) (w1 := fun x : Unit => []) (wn := fun x : Unit => [(h_t, .inr (2, [.ref h_t_have, .ref h_t_keep, .int t_symbolCount, .ref h_t_giving])), (h_t_have, .inl (kL, 16, .inr (.inl t_have))), (h_t_keep, .inl (kL, 16, .inr (.inl t_keep))), (h_p1, .inr (5, [.int p1_kind, .long p1_right, .ref h_p1_places, .ref h_p1_factors, .ref h_p1_partners, .int p1_size, .int p1_pairs])), (h_p1_factors, .inl (kI, 16, .inl p1_factors))]) (o := fun _ : Unit => some (.long r_95)) (va_runS (As := [.int (p1_factors x6.toNatClampNeg), .long (t_have x6.toNatClampNeg)]) (rest := []) ⟨hx, hb, hml, hown, hts⟩ (c_Kernel_leastOf (a0 := (p1_factors x6.toNatClampNeg)) (a1 := (t_have x6.toNatClampNeg)) (u := r_95) TY hc_95 _) (va_cwS 2 hts (gS tw_409 tw_410 tw_45 tc_Kernel_leastOf) rfl rfl rfl (by decide +kernel) ⟨Nat.le_of_ble_eq_true rfl, Nat.le_of_ble_eq_true rfl⟩) (m_preS hK hN hP hD [] rfl (by decide) _) rfl rfl hl.1 rfl (lv_room (Nat.le_of_ble_eq_true rfl)) d_Kernel_keepSum_95 ⟨Nat.le_of_ble_eq_true rfl, Nat.le_of_ble_eq_true rfl⟩) hP hD hS hA [] [0, 1, 2, 3, 4] [0, 1, 2, 3, 4] rfl rfl (by decide) (by decide) (by decide) (fun _ => rfl) (fun x H locs hP hD hS => ?_)
        have hP : va_P D vwCl [(h_t, .inr (2, [.ref h_t_have, .ref h_t_keep, .int t_symbolCount, .ref h_t_giving])), (h_t_have, .inl (kL, 16, .inr (.inl t_have))), (h_t_keep, .inl (kL, 16, .inr (.inl t_keep))), (h_p1, .inr (5, [.int p1_kind, .long p1_right, .ref h_p1_places, .ref h_p1_factors, .ref h_p1_partners, .int p1_size, .int p1_pairs])), (h_p1_factors, .inl (kI, 16, .inl p1_factors))] H := hP
        have hD : va_D A [(h_t, .inr (2, [.ref h_t_have, .ref h_t_keep, .int t_symbolCount, .ref h_t_giving])), (h_t_have, .inl (kL, 16, .inr (.inl t_have))), (h_t_keep, .inl (kL, 16, .inr (.inl t_keep))), (h_p1, .inr (5, [.int p1_kind, .long p1_right, .ref h_p1_places, .ref h_p1_factors, .ref h_p1_partners, .int p1_size, .int p1_pairs])), (h_p1_factors, .inl (kI, 16, .inl p1_factors))] := hD
        refine W.eq (g2 := F0 m 98 ls [.long r_95]) rfl ?_
        refine lv_lstore (lv' := [(8, .long r_95), (7, .int (p1_factors x6.toNatClampNeg)), (0, .ref h_t), (1, .ref h_p1), (2, .long x2), (4, .long x4), (6, .int x6)]) hx hb d_Kernel_keepSum_98 hl (by decide) rfl (fun ls hl => ?_)
        refine lv_iload hx hb d_Kernel_keepSum_100 (lv_at hl 1 rfl) ?_
        refine lv_aload_n hx hb d_Kernel_keepSum_102 rfl (lv_at hl 2 rfl) ?_
        refine va_get (D := D) (ci := 2) (v := .ref h_t_have) (C := "RuleKernels$Kernel") (T := T_Kernel) (N := 4) hx hb hts w_i2 hown hK hP 0 rfl rfl 0 (by decide) w_f15 (fun _ h9 => h9) rfl d_Kernel_keepSum_103 ?_
        refine lv_iload hx hb d_Kernel_keepSum_106 (lv_at hl 6 rfl) ?_
        obtain ⟨h_108, hf⟩ := jin_some hf
        refine va_lald hx hb hK hP 1 1 rfl TY.2.1 h_108 d_Kernel_keepSum_108 ?_
        obtain ⟨r_109, hc_109, hf⟩ := jb hf
        refine m_call (wc := []) (wr := [(h_t, .inr (2, [.ref h_t_have, .ref h_t_keep, .int t_symbolCount, .ref h_t_giving])), (h_t_have, .inl (kL, 16, .inr (.inl t_have))), (h_t_keep, .inl (kL, 16, .inr (.inl t_keep))), (h_p1, .inr (5, [.int p1_kind, .long p1_right, .ref h_p1_places, .ref h_p1_factors, .ref h_p1_partners, .int p1_size, .int p1_pairs])), (h_p1_factors, .inl (kI, 16, .inl p1_factors))]) (w1 := fun x : Unit => []) (wn := fun x : Unit => [(h_t, .inr (2, [.ref h_t_have, .ref h_t_keep, .int t_symbolCount, .ref h_t_giving])), (h_t_have, .inl (kL, 16, .inr (.inl t_have))), (h_t_keep, .inl (kL, 16, .inr (.inl t_keep))), (h_p1, .inr (5, [.int p1_kind, .long p1_right, .ref h_p1_places, .ref h_p1_factors, .ref h_p1_partners, .int p1_size, .int p1_pairs])), (h_p1_factors, .inl (kI, 16, .inl p1_factors))]) (o := fun _ : Unit => some (.long r_109)) (va_runS (As := [.int (p1_factors x6.toNatClampNeg), .long (t_have x6.toNatClampNeg)]) (rest := []) ⟨hx, hb, hml, hown, hts⟩ (c_Kernel_mostOf (a0 := (p1_factors x6.toNatClampNeg)) (a1 := (t_have x6.toNatClampNeg)) (u := r_109) TY hc_109 _) (va_cwS 2 hts (gS tw_425 tw_426 tw_45 tc_Kernel_mostOf) rfl rfl rfl (by decide +kernel) ⟨Nat.le_of_ble_eq_true rfl, Nat.le_of_ble_eq_true rfl⟩) (m_preS hK hN hP hD [] rfl (by decide) _) rfl rfl hl.1 rfl (lv_room (Nat.le_of_ble_eq_true rfl)) d_Kernel_keepSum_109 ⟨Nat.le_of_ble_eq_true rfl, Nat.le_of_ble_eq_true rfl⟩) hP hD hS hA [] [0, 1, 2, 3, 4] [0, 1, 2, 3, 4] rfl rfl (by decide) (by decide) (by decide) (fun _ => rfl) (fun x H locs hP hD hS => ?_)
        have hP : va_P D vwCl [(h_t, .inr (2, [.ref h_t_have, .ref h_t_keep, .int t_symbolCount, .ref h_t_giving])), (h_t_have, .inl (kL, 16, .inr (.inl t_have))), (h_t_keep, .inl (kL, 16, .inr (.inl t_keep))), (h_p1, .inr (5, [.int p1_kind, .long p1_right, .ref h_p1_places, .ref h_p1_factors, .ref h_p1_partners, .int p1_size, .int p1_pairs])), (h_p1_factors, .inl (kI, 16, .inl p1_factors))] H := hP
        have hD : va_D A [(h_t, .inr (2, [.ref h_t_have, .ref h_t_keep, .int t_symbolCount, .ref h_t_giving])), (h_t_have, .inl (kL, 16, .inr (.inl t_have))), (h_t_keep, .inl (kL, 16, .inr (.inl t_keep))), (h_p1, .inr (5, [.int p1_kind, .long p1_right, .ref h_p1_places, .ref h_p1_factors, .ref h_p1_partners, .int p1_size, .int p1_pairs])), (h_p1_factors, .inl (kI, 16, .inl p1_factors))] := hD
        refine W.eq (g2 := F0 m 112 ls [.long r_109]) rfl ?_
        refine lv_lstore (lv' := [(10, .long r_109), (8, .long r_95), (7, .int (p1_factors x6.toNatClampNeg)), (0, .ref h_t), (1, .ref h_p1), (2, .long x2), (4, .long x4), (6, .int x6)]) hx hb d_Kernel_keepSum_112 hl (by decide) rfl (fun ls hl => ?_)
        refine lv_aload_n hx hb d_Kernel_keepSum_114 rfl (lv_at hl 4 rfl) ?_
        refine va_get (D := D) (ci := 5) (v := .long p1_right) (C := "RuleKernels$Rule") (T := T_Rule) (N := 7) hx hb hts w_i5 hown hK hP 3 rfl rfl 1 (by decide) w_f100 (fun _ h9 => h9) rfl d_Kernel_keepSum_115 ?_
        refine lv_lload_n hx hb d_Kernel_keepSum_118 rfl (lv_at hl 5 rfl) ?_
        refine lv_lload hx hb d_Kernel_keepSum_119 (lv_at hl 1 rfl) ?_
        refine lv_lsub hx hb d_Kernel_keepSum_121 ?_
        refine lv_lsub hx hb d_Kernel_keepSum_122 ?_
        refine lv_lstore (lv' := [(12, .long (p1_right - (x2 - r_95))), (10, .long r_109), (8, .long r_95), (7, .int (p1_factors x6.toNatClampNeg)), (0, .ref h_t), (1, .ref h_p1), (2, .long x2), (4, .long x4), (6, .int x6)]) hx hb d_Kernel_keepSum_123 hl (by decide) rfl (fun ls hl => ?_)
        refine lv_aload_n hx hb d_Kernel_keepSum_125 rfl (lv_at hl 5 rfl) ?_
        refine va_get (D := D) (ci := 5) (v := .int p1_kind) (C := "RuleKernels$Rule") (T := T_Rule) (N := 7) hx hb hts w_i5 hown hK hP 3 rfl rfl 0 (by decide) w_f40 (fun _ h9 => h9) rfl d_Kernel_keepSum_126 ?_
        refine lv_iconst (v := 2) hx hb d_Kernel_keepSum_129 (by decide) ?_
        refine lv_icmp_ne (tgt := 146) hx hb d_Kernel_keepSum_130 (by decide) (fun c_130 => ?_) (fun c_130 => ?_)
        · replace hf := (if_neg c_130).symm.trans hf
          refine lv_lload hx hb d_Kernel_keepSum_146 (lv_at hl 2 rfl) ?_
          exact L148 _ ih x2 x4 x6 (p1_factors x6.toNatClampNeg) r_95 r_109 (p1_right - (x2 - r_95)) r_95 t_keep hf _ _ hP hD hS ls (lv_sub hl [4, 5, 6, 7, 8, 3, 2, 1, 0] rfl)
        · replace hf := (if_pos c_130).symm.trans hf
          refine lv_aload_n hx hb d_Kernel_keepSum_133 rfl (lv_at hl 5 rfl) ?_
          refine va_get (D := D) (ci := 5) (v := .long p1_right) (C := "RuleKernels$Rule") (T := T_Rule) (N := 7) hx hb hts w_i5 hown hK hP 3 rfl rfl 1 (by decide) w_f100 (fun _ h9 => h9) rfl d_Kernel_keepSum_134 ?_
          refine lv_lload hx hb d_Kernel_keepSum_137 (lv_at hl 7 rfl) ?_
          refine lv_lload hx hb d_Kernel_keepSum_139 (lv_at hl 1 rfl) ?_
          refine lv_lsub hx hb d_Kernel_keepSum_141 ?_
          refine lv_lsub hx hb d_Kernel_keepSum_142 ?_
          refine lv_goto (tgt := 148) hx hb d_Kernel_keepSum_143 (by decide) ?_
          exact L148 _ ih x2 x4 x6 (p1_factors x6.toNatClampNeg) r_95 r_109 (p1_right - (x2 - r_95)) (p1_right - (x4 - r_109)) t_keep hf _ _ hP hD hS ls (lv_sub hl [4, 5, 6, 7, 8, 3, 2, 1, 0] rfl)
  have L65 : ∀ (x2 : Int64) (x4 : Int64) (t_keep : Nat → Int64), q_Kernel_keepSum_65 N t_symbolCount t_have p1_kind p1_right p1_size p1_factors x2 x4 t_keep = some u → ∀ (H : Heap) (locs : List Loc), va_P D vwCl [(h_t, .inr (2, [.ref h_t_have, .ref h_t_keep, .int t_symbolCount, .ref h_t_giving])), (h_t_have, .inl (kL, 16, .inr (.inl t_have))), (h_t_keep, .inl (kL, 16, .inr (.inl t_keep))), (h_p1, .inr (5, [.int p1_kind, .long p1_right, .ref h_p1_places, .ref h_p1_factors, .ref h_p1_partners, .int p1_size, .int p1_pairs])), (h_p1_factors, .inl (kI, 16, .inl p1_factors))] H → va_D A [(h_t, .inr (2, [.ref h_t_have, .ref h_t_keep, .int t_symbolCount, .ref h_t_giving])), (h_t_have, .inl (kL, 16, .inr (.inl t_have))), (h_t_keep, .inl (kL, 16, .inr (.inl t_keep))), (h_p1, .inr (5, [.int p1_kind, .long p1_right, .ref h_p1_places, .ref h_p1_factors, .ref h_p1_partners, .int p1_size, .int p1_pairs])), (h_p1_factors, .inl (kI, 16, .inl p1_factors))] → va_S A s.heap H locs → ∀ ls : Array Slot, lv_has ls 16 [(0, .ref h_t), (1, .ref h_p1), (2, .long x2), (4, .long x4)] → W p l e { frames := 4, cells := 0, slots := 0, locals := 86 } s m args below meth c H locs 0 0 Q (F0 m 65 ls []) := by
    intro x2 x4 t_keep hf H locs hP hD hS ls hl
    unfold q_Kernel_keepSum_65 at hf
    refine lv_iconst (v := 0) hx hb d_Kernel_keepSum_65 (by decide) ?_
    refine lv_istore (lv' := [(6, .int (0 : Int32)), (0, .ref h_t), (1, .ref h_p1), (2, .long x2), (4, .long x4)]) hx hb d_Kernel_keepSum_66 hl (by decide) rfl (fun ls hl => ?_)
    exact L68  N x2 x4 (0 : Int32) t_keep hf _ _ hP hD hS ls (lv_sub hl [1, 2, 3, 4, 0] rfl)
  have L8 : ∀ n : Nat, ∀ (x2 : Int64) (x4 : Int64) (x6 : Int32) (t_keep : Nat → Int64), q_Kernel_keepSum_8 N t_symbolCount t_have p1_kind p1_right p1_size p1_factors n x2 x4 x6 t_keep = some u → ∀ (H : Heap) (locs : List Loc), va_P D vwCl [(h_t, .inr (2, [.ref h_t_have, .ref h_t_keep, .int t_symbolCount, .ref h_t_giving])), (h_t_have, .inl (kL, 16, .inr (.inl t_have))), (h_t_keep, .inl (kL, 16, .inr (.inl t_keep))), (h_p1, .inr (5, [.int p1_kind, .long p1_right, .ref h_p1_places, .ref h_p1_factors, .ref h_p1_partners, .int p1_size, .int p1_pairs])), (h_p1_factors, .inl (kI, 16, .inl p1_factors))] H → va_D A [(h_t, .inr (2, [.ref h_t_have, .ref h_t_keep, .int t_symbolCount, .ref h_t_giving])), (h_t_have, .inl (kL, 16, .inr (.inl t_have))), (h_t_keep, .inl (kL, 16, .inr (.inl t_keep))), (h_p1, .inr (5, [.int p1_kind, .long p1_right, .ref h_p1_places, .ref h_p1_factors, .ref h_p1_partners, .int p1_size, .int p1_pairs])), (h_p1_factors, .inl (kI, 16, .inl p1_factors))] → va_S A s.heap H locs → ∀ ls : Array Slot, lv_has ls 16 [(0, .ref h_t), (1, .ref h_p1), (2, .long x2), (4, .long x4), (6, .int x6)] → W p l e { frames := 4, cells := 0, slots := 0, locals := 86 } s m args below meth c H locs 0 0 Q (F0 m 8 ls []) := by
    intro n
    induction n with
    | zero =>
      intro x2 x4 x6 t_keep hf
      exact nomatch (show (none : Option ((Nat → Int64))) = some _ from hf)
    | succ n ih =>
      intro x2 x4 x6 t_keep hf H locs hP hD hS ls hl
      rw [q_Kernel_keepSum_8] at hf
      refine lv_iload hx hb d_Kernel_keepSum_8 (lv_at hl 4 rfl) ?_
      refine lv_aload_n hx hb d_Kernel_keepSum_10 rfl (lv_at hl 1 rfl) ?_
      refine va_get (D := D) (ci := 5) (v := .int p1_size) (C := "RuleKernels$Rule") (T := T_Rule) (N := 7) hx hb hts w_i5 hown hK hP 3 rfl rfl 5 (by decide) w_f35 (fun _ h9 => h9) rfl d_Kernel_keepSum_11 ?_
      refine lv_icmp_ge (tgt := 65) hx hb d_Kernel_keepSum_14 (by decide) (fun c_14 => ?_) (fun c_14 => ?_)
      · replace hf := (if_pos c_14).symm.trans hf
        exact L65  x2 x4 t_keep hf _ _ hP hD hS ls (lv_sub hl [0, 1, 2, 3] rfl)
      · replace hf := (if_neg c_14).symm.trans hf
        refine lv_lload_n hx hb d_Kernel_keepSum_17 rfl (lv_at hl 2 rfl) ?_
        refine lv_aload_n hx hb d_Kernel_keepSum_18 rfl (lv_at hl 1 rfl) ?_
        refine va_get (D := D) (ci := 5) (v := .ref h_p1_factors) (C := "RuleKernels$Rule") (T := T_Rule) (N := 7) hx hb hts w_i5 hown hK hP 3 rfl rfl 3 (by decide) w_f89 (fun _ h9 => h9) rfl d_Kernel_keepSum_19 ?_
        refine lv_iload hx hb d_Kernel_keepSum_22 (lv_at hl 4 rfl) ?_
        obtain ⟨h_24, hf⟩ := jin_some hf
        refine va_iald hx hb hK hP 4 0 rfl TY.1 h_24 d_Kernel_keepSum_24 ?_
        refine lv_aload_n hx hb d_Kernel_keepSum_25 rfl (lv_at hl 0 rfl) ?_
        refine va_get (D := D) (ci := 2) (v := .ref h_t_have) (C := "RuleKernels$Kernel") (T := T_Kernel) (N := 4) hx hb hts w_i2 hown hK hP 0 rfl rfl 0 (by decide) w_f15 (fun _ h9 => h9) rfl d_Kernel_keepSum_26 ?_
        refine lv_iload hx hb d_Kernel_keepSum_29 (lv_at hl 4 rfl) ?_
        obtain ⟨h_31, hf⟩ := jin_some hf
        refine va_lald hx hb hK hP 1 1 rfl TY.2.1 h_31 d_Kernel_keepSum_31 ?_
        obtain ⟨r_32, hc_32, hf⟩ := jb hf
        refine m_call (wc := []) (wr := [(h_t, .inr (2, [.ref h_t_have, .ref h_t_keep, .int t_symbolCount, .ref h_t_giving])), (h_t_have, .inl (kL, 16, .inr (.inl t_have))), (h_t_keep, .inl (kL, 16, .inr (.inl t_keep))), (h_p1, .inr (5, [.int p1_kind, .long p1_right, .ref h_p1_places, .ref h_p1_factors, .ref h_p1_partners, .int p1_size, .int p1_pairs])), (h_p1_factors, .inl (kI, 16, .inl p1_factors))]) (w1 := fun x : Unit => []) (wn := fun x : Unit => [(h_t, .inr (2, [.ref h_t_have, .ref h_t_keep, .int t_symbolCount, .ref h_t_giving])), (h_t_have, .inl (kL, 16, .inr (.inl t_have))), (h_t_keep, .inl (kL, 16, .inr (.inl t_keep))), (h_p1, .inr (5, [.int p1_kind, .long p1_right, .ref h_p1_places, .ref h_p1_factors, .ref h_p1_partners, .int p1_size, .int p1_pairs])), (h_p1_factors, .inl (kI, 16, .inl p1_factors))]) (o := fun _ : Unit => some (.long r_32)) (va_runS (As := [.int (p1_factors x6.toNatClampNeg), .long (t_have x6.toNatClampNeg)]) (rest := [.long x2]) ⟨hx, hb, hml, hown, hts⟩ (c_Kernel_leastOf (a0 := (p1_factors x6.toNatClampNeg)) (a1 := (t_have x6.toNatClampNeg)) (u := r_32) TY hc_32 _) (va_cwS 2 hts (gS tw_409 tw_410 tw_45 tc_Kernel_leastOf) rfl rfl rfl (by decide +kernel) ⟨Nat.le_of_ble_eq_true rfl, Nat.le_of_ble_eq_true rfl⟩) (m_preS hK hN hP hD [] rfl (by decide) _) rfl rfl hl.1 rfl (lv_room (Nat.le_of_ble_eq_true rfl)) d_Kernel_keepSum_32 ⟨Nat.le_of_ble_eq_true rfl, Nat.le_of_ble_eq_true rfl⟩) hP hD hS hA [] [0, 1, 2, 3, 4] [0, 1, 2, 3, 4] rfl rfl (by decide) (by decide) (by decide) (fun _ => rfl) (fun x H locs hP hD hS => ?_)
        have hP : va_P D vwCl [(h_t, .inr (2, [.ref h_t_have, .ref h_t_keep, .int t_symbolCount, .ref h_t_giving])), (h_t_have, .inl (kL, 16, .inr (.inl t_have))), (h_t_keep, .inl (kL, 16, .inr (.inl t_keep))), (h_p1, .inr (5, [.int p1_kind, .long p1_right, .ref h_p1_places, .ref h_p1_factors, .ref h_p1_partners, .int p1_size, .int p1_pairs])), (h_p1_factors, .inl (kI, 16, .inl p1_factors))] H := hP
        have hD : va_D A [(h_t, .inr (2, [.ref h_t_have, .ref h_t_keep, .int t_symbolCount, .ref h_t_giving])), (h_t_have, .inl (kL, 16, .inr (.inl t_have))), (h_t_keep, .inl (kL, 16, .inr (.inl t_keep))), (h_p1, .inr (5, [.int p1_kind, .long p1_right, .ref h_p1_places, .ref h_p1_factors, .ref h_p1_partners, .int p1_size, .int p1_pairs])), (h_p1_factors, .inl (kI, 16, .inl p1_factors))] := hD
        refine W.eq (g2 := F0 m 35 ls [.long r_32, .long x2]) rfl ?_
        refine lv_ladd hx hb d_Kernel_keepSum_35 ?_
        refine lv_lstore_n (lv' := [(2, .long (x2 + r_32)), (0, .ref h_t), (1, .ref h_p1), (4, .long x4), (6, .int x6)]) hx hb d_Kernel_keepSum_36 rfl hl (by decide) rfl (fun ls hl => ?_)
        refine lv_lload hx hb d_Kernel_keepSum_37 (lv_at hl 3 rfl) ?_
        refine lv_aload_n hx hb d_Kernel_keepSum_39 rfl (lv_at hl 2 rfl) ?_
        refine va_get (D := D) (ci := 5) (v := .ref h_p1_factors) (C := "RuleKernels$Rule") (T := T_Rule) (N := 7) hx hb hts w_i5 hown hK hP 3 rfl rfl 3 (by decide) w_f89 (fun _ h9 => h9) rfl d_Kernel_keepSum_40 ?_
        refine lv_iload hx hb d_Kernel_keepSum_43 (lv_at hl 4 rfl) ?_
        obtain ⟨h_45, hf⟩ := jin_some hf
        refine va_iald hx hb hK hP 4 0 rfl TY.1 h_45 d_Kernel_keepSum_45 ?_
        refine lv_aload_n hx hb d_Kernel_keepSum_46 rfl (lv_at hl 1 rfl) ?_
        refine va_get (D := D) (ci := 2) (v := .ref h_t_have) (C := "RuleKernels$Kernel") (T := T_Kernel) (N := 4) hx hb hts w_i2 hown hK hP 0 rfl rfl 0 (by decide) w_f15 (fun _ h9 => h9) rfl d_Kernel_keepSum_47 ?_
        refine lv_iload hx hb d_Kernel_keepSum_50 (lv_at hl 4 rfl) ?_
        obtain ⟨h_52, hf⟩ := jin_some hf
        refine va_lald hx hb hK hP 1 1 rfl TY.2.1 h_52 d_Kernel_keepSum_52 ?_
        obtain ⟨r_53, hc_53, hf⟩ := jb hf
        refine m_call (wc := []) (wr := [(h_t, .inr (2, [.ref h_t_have, .ref h_t_keep, .int t_symbolCount, .ref h_t_giving])), (h_t_have, .inl (kL, 16, .inr (.inl t_have))), (h_t_keep, .inl (kL, 16, .inr (.inl t_keep))), (h_p1, .inr (5, [.int p1_kind, .long p1_right, .ref h_p1_places, .ref h_p1_factors, .ref h_p1_partners, .int p1_size, .int p1_pairs])), (h_p1_factors, .inl (kI, 16, .inl p1_factors))]) (w1 := fun x : Unit => []) (wn := fun x : Unit => [(h_t, .inr (2, [.ref h_t_have, .ref h_t_keep, .int t_symbolCount, .ref h_t_giving])), (h_t_have, .inl (kL, 16, .inr (.inl t_have))), (h_t_keep, .inl (kL, 16, .inr (.inl t_keep))), (h_p1, .inr (5, [.int p1_kind, .long p1_right, .ref h_p1_places, .ref h_p1_factors, .ref h_p1_partners, .int p1_size, .int p1_pairs])), (h_p1_factors, .inl (kI, 16, .inl p1_factors))]) (o := fun _ : Unit => some (.long r_53)) (va_runS (As := [.int (p1_factors x6.toNatClampNeg), .long (t_have x6.toNatClampNeg)]) (rest := [.long x4]) ⟨hx, hb, hml, hown, hts⟩ (c_Kernel_mostOf (a0 := (p1_factors x6.toNatClampNeg)) (a1 := (t_have x6.toNatClampNeg)) (u := r_53) TY hc_53 _) (va_cwS 2 hts (gS tw_425 tw_426 tw_45 tc_Kernel_mostOf) rfl rfl rfl (by decide +kernel) ⟨Nat.le_of_ble_eq_true rfl, Nat.le_of_ble_eq_true rfl⟩) (m_preS hK hN hP hD [] rfl (by decide) _) rfl rfl hl.1 rfl (lv_room (Nat.le_of_ble_eq_true rfl)) d_Kernel_keepSum_53 ⟨Nat.le_of_ble_eq_true rfl, Nat.le_of_ble_eq_true rfl⟩) hP hD hS hA [] [0, 1, 2, 3, 4] [0, 1, 2, 3, 4] rfl rfl (by decide) (by decide) (by decide) (fun _ => rfl) (fun x H locs hP hD hS => ?_)
        have hP : va_P D vwCl [(h_t, .inr (2, [.ref h_t_have, .ref h_t_keep, .int t_symbolCount, .ref h_t_giving])), (h_t_have, .inl (kL, 16, .inr (.inl t_have))), (h_t_keep, .inl (kL, 16, .inr (.inl t_keep))), (h_p1, .inr (5, [.int p1_kind, .long p1_right, .ref h_p1_places, .ref h_p1_factors, .ref h_p1_partners, .int p1_size, .int p1_pairs])), (h_p1_factors, .inl (kI, 16, .inl p1_factors))] H := hP
        have hD : va_D A [(h_t, .inr (2, [.ref h_t_have, .ref h_t_keep, .int t_symbolCount, .ref h_t_giving])), (h_t_have, .inl (kL, 16, .inr (.inl t_have))), (h_t_keep, .inl (kL, 16, .inr (.inl t_keep))), (h_p1, .inr (5, [.int p1_kind, .long p1_right, .ref h_p1_places, .ref h_p1_factors, .ref h_p1_partners, .int p1_size, .int p1_pairs])), (h_p1_factors, .inl (kI, 16, .inl p1_factors))] := hD
        refine W.eq (g2 := F0 m 56 ls [.long r_53, .long x4]) rfl ?_
        refine lv_ladd hx hb d_Kernel_keepSum_56 ?_
        refine lv_lstore (lv' := [(4, .long (x4 + r_53)), (2, .long (x2 + r_32)), (0, .ref h_t), (1, .ref h_p1), (6, .int x6)]) hx hb d_Kernel_keepSum_57 hl (by decide) rfl (fun ls hl => ?_)
        refine lv_iinc (v := (x6 + 1)) (lv' := [(6, .int (x6 + 1)), (4, .long (x4 + r_53)), (2, .long (x2 + r_32)), (0, .ref h_t), (1, .ref h_p1)]) hx hb d_Kernel_keepSum_59 hl (k := 4) rfl rfl (by decide) rfl (fun ls hl => ?_)
        refine lv_goto (tgt := 8) hx hb d_Kernel_keepSum_62 (by decide) ?_
        exact ih (x2 + r_32) (x4 + r_53) (x6 + 1) t_keep hf _ _ hP hD hS ls (lv_sub hl [3, 4, 2, 1, 0] rfl)
  unfold p_Kernel_keepSum at hf
  refine lv_lconst (v := 0) hx hb d_Kernel_keepSum_0 (by decide) ?_
  refine lv_lstore_n (lv' := [(2, .long (0 : Int64)), (0, .ref h_t), (1, .ref h_p1)]) hx hb d_Kernel_keepSum_1 rfl hl (by decide) rfl (fun ls hl => ?_)
  refine lv_lconst (v := 0) hx hb d_Kernel_keepSum_2 (by decide) ?_
  refine lv_lstore (lv' := [(4, .long (0 : Int64)), (2, .long (0 : Int64)), (0, .ref h_t), (1, .ref h_p1)]) hx hb d_Kernel_keepSum_3 hl (by decide) rfl (fun ls hl => ?_)
  refine lv_iconst (v := 0) hx hb d_Kernel_keepSum_5 (by decide) ?_
  refine lv_istore (lv' := [(6, .int (0 : Int32)), (4, .long (0 : Int64)), (2, .long (0 : Int64)), (0, .ref h_t), (1, .ref h_p1)]) hx hb d_Kernel_keepSum_6 hl (by decide) rfl (fun ls hl => ?_)
  exact L8  N (0 : Int64) (0 : Int64) (0 : Int32) t_keep hf _ _ hP hD hS ls (lv_sub hl [3, 4, 2, 1, 0] rfl)
