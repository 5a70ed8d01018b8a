def q_Int_numberOfTrailingZeros_74 (N : Nat) (x0 : Int32) (x1 : Int32) : Option (Int32) := some (x1 + (j_iushr x0 (1 : Int32)))
def q_Int_numberOfTrailingZeros_62 (N : Nat) (x0 : Int32) (x1 : Int32) : Option (Int32) := (if x0 ≤ (4 : Int32) then q_Int_numberOfTrailingZeros_74 N  x0 x1 else q_Int_numberOfTrailingZeros_74 N  (j_iushr x0 (2 : Int32)) (x1 + 2))
def q_Int_numberOfTrailingZeros_49 (N : Nat) (x0 : Int32) (x1 : Int32) : Option (Int32) := (if x0 ≤ (16 : Int32) then q_Int_numberOfTrailingZeros_62 N  x0 x1 else q_Int_numberOfTrailingZeros_62 N  (j_iushr x0 (4 : Int32)) (x1 + 4))
def q_Int_numberOfTrailingZeros_34 (N : Nat) (x0 : Int32) (x1 : Int32) : Option (Int32) := (if x0 ≤ (256 : Int32) then q_Int_numberOfTrailingZeros_49 N  x0 x1 else q_Int_numberOfTrailingZeros_49 N  (j_iushr x0 (8 : Int32)) (x1 + 8))
def p_Int_numberOfTrailingZeros (N : Nat) (a0 : Int32) : Option (Int32) := (if 0 < ((a0 ^^^ (-1 : Int32)) &&& (a0 - (1 : Int32))) then (if ((a0 ^^^ (-1 : Int32)) &&& (a0 - (1 : Int32))) ≤ (65536 : Int32) then q_Int_numberOfTrailingZeros_34 N  ((a0 ^^^ (-1 : Int32)) &&& (a0 - (1 : Int32))) (1 : Int32) else q_Int_numberOfTrailingZeros_34 N  (j_iushr ((a0 ^^^ (-1 : Int32)) &&& (a0 - (1 : Int32))) (16 : Int32)) ((1 : Int32) + 16)) else some (((a0 ^^^ (-1 : Int32)) &&& (a0 - (1 : Int32))) &&& (32 : Int32)))
def q_Int_numberOfLeadingZeros_73 (N : Nat) (x0 : Int32) (x1 : Int32) : Option (Int32) := some (x1 - (j_iushr x0 (1 : Int32)))
def q_Int_numberOfLeadingZeros_61 (N : Nat) (x0 : Int32) (x1 : Int32) : Option (Int32) := (if x0 < (4 : Int32) then q_Int_numberOfLeadingZeros_73 N  x0 x1 else q_Int_numberOfLeadingZeros_73 N  (j_iushr x0 (2 : Int32)) (x1 + (-2)))
def q_Int_numberOfLeadingZeros_48 (N : Nat) (x0 : Int32) (x1 : Int32) : Option (Int32) := (if x0 < (16 : Int32) then q_Int_numberOfLeadingZeros_61 N  x0 x1 else q_Int_numberOfLeadingZeros_61 N  (j_iushr x0 (4 : Int32)) (x1 + (-4)))
def q_Int_numberOfLeadingZeros_33 (N : Nat) (x0 : Int32) (x1 : Int32) : Option (Int32) := (if x0 < (256 : Int32) then q_Int_numberOfLeadingZeros_48 N  x0 x1 else q_Int_numberOfLeadingZeros_48 N  (j_iushr x0 (8 : Int32)) (x1 + (-8)))
def p_Int_numberOfLeadingZeros (N : Nat) (a0 : Int32) : Option (Int32) := (if 0 < a0 then (if a0 < (65536 : Int32) then q_Int_numberOfLeadingZeros_33 N  a0 (31 : Int32) else q_Int_numberOfLeadingZeros_33 N  (j_iushr a0 (16 : Int32)) ((31 : Int32) + (-16))) else (if a0 = 0 then some (32 : Int32) else some (0 : Int32)))
def p_Lon_numberOfTrailingZeros (N : Nat) (a0 : Int64) : Option (Int32) := (if a0.toInt32 = 0 then ((p_Int_numberOfTrailingZeros N ((j_lushr a0 (32 : Int32)).toInt32)).bind fun r_14 => some ((32 : Int32) + r_14)) else ((p_Int_numberOfTrailingZeros N a0.toInt32).bind fun r_22 => some r_22))
def p_Lon_numberOfLeadingZeros (N : Nat) (a0 : Int64) : Option (Int32) := (if (j_lushr a0 (32 : Int32)).toInt32 = 0 then ((p_Int_numberOfLeadingZeros N a0.toInt32).bind fun r_14 => some ((32 : Int32) + r_14)) else ((p_Int_numberOfLeadingZeros N ((j_lushr a0 (32 : Int32)).toInt32)).bind fun r_22 => some r_22))
def q_Arr_fill_6 (N : Nat) (n_p0 : Nat) (a1 : Int64) : Nat → Int32 → Int32 → (Nat → Int64) → Option ((Nat → Int64))
  | 0 => fun _ _ _ => none
  | n + 1 => fun x3 x4 p0_f => (if x4 ≤ x3 then some p0_f else (jin x3 n_p0 (q_Arr_fill_6 N n_p0 a1 n (x3 + 1) x4 (vp_updL p0_f x3.toNatClampNeg a1))))
def p_Arr_fill (N : Nat) (n_p0 : Nat) (p0_f : Nat → Int64) (a1 : Int64) : Option ((Nat → Int64)) := q_Arr_fill_6 N n_p0 a1  N (0 : Int32) (nI n_p0) p0_f
def p_RK_has (N : Nat) (a0 : Int64) (a2 : Int32) : Option (Int32) := (if (lg_cmp ((j_lushr a0 a2) &&& (1 : Int64)) (0 : Int64)) = 0 then some (0 : Int32) else some (1 : Int32))
set_option maxHeartbeats 4000000 in
set_option maxRecDepth 100000 in
theorem c_Int_numberOfTrailingZeros {l : Launch} {D : va_G} {tys : List (ClassId × FieldType)} {kI kL kZ kR kM : ClassId} {N : Nat} {a0 : Int32} {u : Int32} (TY : mTy tys kI kL kZ kR kM) (hf : p_Int_numberOfTrailingZeros N a0 = some u) (sz : Nat) : Met l y_Int_numberOfTrailingZeros ws_Int_numberOfTrailingZeros { frames := 0, cells := 0, slots := 0, locals := 0 } (mPre D tys [.int a0] [] sz) (mPost D tys (fun _ : Unit => some (.int u)) [] (fun x : Unit => []) sz) 0 0 (va_A [] sz) := by
  refine m_ofW (cc := b_Int_numberOfTrailingZeros) (maxL := 2) (ret := (some .int)) (by decide) rfl (Nat.le_of_ble_eq_true rfl) ?_ sz
  intro p e s m args below meth c ls Q A hx hb hml hr hts hown hin hlk hK hN hP hD hA hS hl hQ hAe
  have hown : s.vm.findClass "java/lang/Integer" = some m.cls := hown
  have hl : lv_has ls 2 [(0, .int a0)] := hl
  have w_k264 := (hts _ (List.mem_cons_of_mem _ tw_381))
  have L74 : ∀ (x0 : Int32) (x1 : Int32), q_Int_numberOfTrailingZeros_74 N x0 x1 = some u → ∀ (H : Heap) (locs : List Loc), va_P D vwCl [] H → va_D A [] → va_S A s.heap H locs → ∀ ls : Array Slot, lv_has ls 2 [(0, .int x0), (1, .int x1)] → W p l e { frames := 0, cells := 0, slots := 0, locals := 0 } s m args below meth c H locs 0 0 Q (F0 m 74 ls []) := by
    intro x0 x1 hf H locs hP hD hS ls hl
    unfold q_Int_numberOfTrailingZeros_74 at hf
    refine lv_iload_n hx hb d_Int_numberOfTrailingZeros_74 rfl (lv_at hl 1 rfl) ?_
    refine lv_iload_n hx hb d_Int_numberOfTrailingZeros_75 rfl (lv_at hl 0 rfl) ?_
    refine lv_iconst (v := 1) hx hb d_Int_numberOfTrailingZeros_76 (by decide) ?_
    refine lv_iushr (v := (j_iushr x0 (1 : Int32))) hx hb d_Int_numberOfTrailingZeros_77 rfl ?_
    refine lv_iadd hx hb d_Int_numberOfTrailingZeros_78 ?_
    have hu := Option.some.inj hf
    exact m_reti () hx hb hr hlk hK hP hD hS hQ hAe (by rw [← hu]) (Nat.le_of_ble_eq_true rfl) (Nat.le_of_ble_eq_true rfl) d_Int_numberOfTrailingZeros_79
  have L62 : ∀ (x0 : Int32) (x1 : Int32), q_Int_numberOfTrailingZeros_62 N x0 x1 = some u → ∀ (H : Heap) (locs : List Loc), va_P D vwCl [] H → va_D A [] → va_S A s.heap H locs → ∀ ls : Array Slot, lv_has ls 2 [(0, .int x0), (1, .int x1)] → W p l e { frames := 0, cells := 0, slots := 0, locals := 0 } s m args below meth c H locs 0 0 Q (F0 m 62 ls []) := by
    intro x0 x1 hf H locs hP hD hS ls hl
    unfold q_Int_numberOfTrailingZeros_62 at hf
    refine lv_iload_n hx hb d_Int_numberOfTrailingZeros_62 rfl (lv_at hl 0 rfl) ?_
    refine lv_iconst (v := 4) hx hb d_Int_numberOfTrailingZeros_63 (by decide) ?_
    refine lv_icmp_le (tgt := 74) hx hb d_Int_numberOfTrailingZeros_64 (by decide) (fun c_64 => ?_) (fun c_64 => ?_)
    · replace hf := (if_pos c_64).symm.trans hf
      exact L74  x0 x1 hf _ _ hP hD hS ls (lv_sub hl [0, 1] rfl)
    · replace hf := (if_neg c_64).symm.trans hf
      refine lv_iinc (v := (x1 + 2)) (lv' := [(1, .int (x1 + 2)), (0, .int x0)]) hx hb d_Int_numberOfTrailingZeros_67 hl (k := 1) rfl rfl (by decide) rfl (fun ls hl => ?_)
      refine lv_iload_n hx hb d_Int_numberOfTrailingZeros_70 rfl (lv_at hl 1 rfl) ?_
      refine lv_iconst (v := 2) hx hb d_Int_numberOfTrailingZeros_71 (by decide) ?_
      refine lv_iushr (v := (j_iushr x0 (2 : Int32))) hx hb d_Int_numberOfTrailingZeros_72 rfl ?_
      refine lv_istore_n (lv' := [(0, .int (j_iushr x0 (2 : Int32))), (1, .int (x1 + 2))]) hx hb d_Int_numberOfTrailingZeros_73 rfl hl (by decide) rfl (fun ls hl => ?_)
      exact L74  (j_iushr x0 (2 : Int32)) (x1 + 2) hf _ _ hP hD hS ls (lv_sub hl [0, 1] rfl)
  have L49 : ∀ (x0 : Int32) (x1 : Int32), q_Int_numberOfTrailingZeros_49 N x0 x1 = some u → ∀ (H : Heap) (locs : List Loc), va_P D vwCl [] H → va_D A [] → va_S A s.heap H locs → ∀ ls : Array Slot, lv_has ls 2 [(0, .int x0), (1, .int x1)] → W p l e { frames := 0, cells := 0, slots := 0, locals := 0 } s m args below meth c H locs 0 0 Q (F0 m 49 ls []) := by
    intro x0 x1 hf H locs hP hD hS ls hl
    unfold q_Int_numberOfTrailingZeros_49 at hf
    refine lv_iload_n hx hb d_Int_numberOfTrailingZeros_49 rfl (lv_at hl 0 rfl) ?_
    refine lv_bipush (v := 16) hx hb d_Int_numberOfTrailingZeros_50 (by decide) ?_
    refine lv_icmp_le (tgt := 62) hx hb d_Int_numberOfTrailingZeros_52 (by decide) (fun c_52 => ?_) (fun c_52 => ?_)
    · replace hf := (if_pos c_52).symm.trans hf
      exact L62  x0 x1 hf _ _ hP hD hS ls (lv_sub hl [0, 1] rfl)
    · replace hf := (if_neg c_52).symm.trans hf
      refine lv_iinc (v := (x1 + 4)) (lv' := [(1, .int (x1 + 4)), (0, .int x0)]) hx hb d_Int_numberOfTrailingZeros_55 hl (k := 1) rfl rfl (by decide) rfl (fun ls hl => ?_)
      refine lv_iload_n hx hb d_Int_numberOfTrailingZeros_58 rfl (lv_at hl 1 rfl) ?_
      refine lv_iconst (v := 4) hx hb d_Int_numberOfTrailingZeros_59 (by decide) ?_
      refine lv_iushr (v := (j_iushr x0 (4 : Int32))) hx hb d_Int_numberOfTrailingZeros_60 rfl ?_
      refine lv_istore_n (lv' := [(0, .int (j_iushr x0 (4 : Int32))), (1, .int (x1 + 4))]) hx hb d_Int_numberOfTrailingZeros_61 rfl hl (by decide) rfl (fun ls hl => ?_)
      exact L62  (j_iushr x0 (4 : Int32)) (x1 + 4) hf _ _ hP hD hS ls (lv_sub hl [0, 1] rfl)
  have L34 : ∀ (x0 : Int32) (x1 : Int32), q_Int_numberOfTrailingZeros_34 N x0 x1 = some u → ∀ (H : Heap) (locs : List Loc), va_P D vwCl [] H → va_D A [] → va_S A s.heap H locs → ∀ ls : Array Slot, lv_has ls 2 [(0, .int x0), (1, .int x1)] → W p l e { frames := 0, cells := 0, slots := 0, locals := 0 } s m args below meth c H locs 0 0 Q (F0 m 34 ls []) := by
    intro x0 x1 hf H locs hP hD hS ls hl
    unfold q_Int_numberOfTrailingZeros_34 at hf
    refine lv_iload_n hx hb d_Int_numberOfTrailingZeros_34 rfl (lv_at hl 0 rfl) ?_
    refine lv_sipush (v := 256) hx hb d_Int_numberOfTrailingZeros_35 (by decide) ?_
    refine lv_icmp_le (tgt := 49) hx hb d_Int_numberOfTrailingZeros_38 (by decide) (fun c_38 => ?_) (fun c_38 => ?_)
    · replace hf := (if_pos c_38).symm.trans hf
      exact L49  x0 x1 hf _ _ hP hD hS ls (lv_sub hl [0, 1] rfl)
    · replace hf := (if_neg c_38).symm.trans hf
      refine lv_iinc (v := (x1 + 8)) (lv' := [(1, .int (x1 + 8)), (0, .int x0)]) hx hb d_Int_numberOfTrailingZeros_41 hl (k := 1) rfl rfl (by decide) rfl (fun ls hl => ?_)
      refine lv_iload_n hx hb d_Int_numberOfTrailingZeros_44 rfl (lv_at hl 1 rfl) ?_
      refine lv_bipush (v := 8) hx hb d_Int_numberOfTrailingZeros_45 (by decide) ?_
      refine lv_iushr (v := (j_iushr x0 (8 : Int32))) hx hb d_Int_numberOfTrailingZeros_47 rfl ?_
      refine lv_istore_n (lv' := [(0, .int (j_iushr x0 (8 : Int32))), (1, .int (x1 + 8))]) hx hb d_Int_numberOfTrailingZeros_48 rfl hl (by decide) rfl (fun ls hl => ?_)
      exact L49  (j_iushr x0 (8 : Int32)) (x1 + 8) hf _ _ hP hD hS ls (lv_sub hl [0, 1] rfl)
  unfold p_Int_numberOfTrailingZeros at hf
  refine lv_iload_n hx hb d_Int_numberOfTrailingZeros_0 rfl (lv_at hl 0 rfl) ?_
  refine lv_iconst (v := -1) hx hb d_Int_numberOfTrailingZeros_1 (by decide) ?_
  refine lv_ixor hx hb d_Int_numberOfTrailingZeros_2 ?_
  refine lv_iload_n hx hb d_Int_numberOfTrailingZeros_3 rfl (lv_at hl 0 rfl) ?_
  refine lv_iconst (v := 1) hx hb d_Int_numberOfTrailingZeros_4 (by decide) ?_
  refine lv_isub hx hb d_Int_numberOfTrailingZeros_5 ?_
  refine lv_iand hx hb d_Int_numberOfTrailingZeros_6 ?_
  refine lv_istore_n (lv' := [(0, .int ((a0 ^^^ (-1 : Int32)) &&& (a0 - (1 : Int32))))]) hx hb d_Int_numberOfTrailingZeros_7 rfl hl (by decide) rfl (fun ls hl => ?_)
  refine lv_iload_n hx hb d_Int_numberOfTrailingZeros_8 rfl (lv_at hl 0 rfl) ?_
  refine lv_if_gt (tgt := 17) hx hb d_Int_numberOfTrailingZeros_9 (by decide) (fun c_9 => ?_) (fun c_9 => ?_)
  · replace hf := (if_pos c_9).symm.trans hf
    refine lv_iconst (v := 1) hx hb d_Int_numberOfTrailingZeros_17 (by decide) ?_
    refine lv_istore_n (lv' := [(1, .int (1 : Int32)), (0, .int ((a0 ^^^ (-1 : Int32)) &&& (a0 - (1 : Int32))))]) hx hb d_Int_numberOfTrailingZeros_18 rfl hl (by decide) rfl (fun ls hl => ?_)
    refine lv_iload_n hx hb d_Int_numberOfTrailingZeros_19 rfl (lv_at hl 1 rfl) ?_
    refine lv_ldcw (v := 65536) hx hb hown w_k264 d_Int_numberOfTrailingZeros_20 ?_
    refine lv_icmp_le (tgt := 34) hx hb d_Int_numberOfTrailingZeros_23 (by decide) (fun c_23 => ?_) (fun c_23 => ?_)
    · replace hf := (if_pos c_23).symm.trans hf
      exact L34  ((a0 ^^^ (-1 : Int32)) &&& (a0 - (1 : Int32))) (1 : Int32) hf _ _ hP hD hS ls (lv_sub hl [1, 0] rfl)
    · replace hf := (if_neg c_23).symm.trans hf
      refine lv_iinc (v := ((1 : Int32) + 16)) (lv' := [(1, .int ((1 : Int32) + 16)), (0, .int ((a0 ^^^ (-1 : Int32)) &&& (a0 - (1 : Int32))))]) hx hb d_Int_numberOfTrailingZeros_26 hl (k := 0) rfl rfl (by decide) rfl (fun ls hl => ?_)
      refine lv_iload_n hx hb d_Int_numberOfTrailingZeros_29 rfl (lv_at hl 1 rfl) ?_
      refine lv_bipush (v := 16) hx hb d_Int_numberOfTrailingZeros_30 (by decide) ?_
      refine lv_iushr (v := (j_iushr ((a0 ^^^ (-1 : Int32)) &&& (a0 - (1 : Int32))) (16 : Int32))) hx hb d_Int_numberOfTrailingZeros_32 rfl ?_
      refine lv_istore_n (lv' := [(0, .int (j_iushr ((a0 ^^^ (-1 : Int32)) &&& (a0 - (1 : Int32))) (16 : Int32))), (1, .int ((1 : Int32) + 16))]) hx hb d_Int_numberOfTrailingZeros_33 rfl hl (by decide) rfl (fun ls hl => ?_)
      exact L34  (j_iushr ((a0 ^^^ (-1 : Int32)) &&& (a0 - (1 : Int32))) (16 : Int32)) ((1 : Int32) + 16) hf _ _ hP hD hS ls (lv_sub hl [0, 1] rfl)
  · replace hf := (if_neg c_9).symm.trans hf
    refine lv_iload_n hx hb d_Int_numberOfTrailingZeros_12 rfl (lv_at hl 0 rfl) ?_
    refine lv_bipush (v := 32) hx hb d_Int_numberOfTrailingZeros_13 (by decide) ?_
    refine lv_iand hx hb d_Int_numberOfTrailingZeros_15 ?_
    have hu := Option.some.inj hf
    exact m_reti () hx hb hr hlk hK hP hD hS hQ hAe (by rw [← hu]) (Nat.le_of_ble_eq_true rfl) (Nat.le_of_ble_eq_true rfl) d_Int_numberOfTrailingZeros_16
set_option maxHeartbeats 4000000 in
set_option maxRecDepth 100000 in
theorem c_Int_numberOfLeadingZeros {l : Launch} {D : va_G} {tys : List (ClassId × FieldType)} {kI kL kZ kR kM : ClassId} {N : Nat} {a0 : Int32} {u : Int32} (TY : mTy tys kI kL kZ kR kM) (hf : p_Int_numberOfLeadingZeros N a0 = some u) (sz : Nat) : Met l y_Int_numberOfLeadingZeros ws_Int_numberOfLeadingZeros { frames := 0, cells := 0, slots := 0, locals := 0 } (mPre D tys [.int a0] [] sz) (mPost D tys (fun _ : Unit => some (.int u)) [] (fun x : Unit => []) sz) 0 0 (va_A [] sz) := by
  refine m_ofW (cc := b_Int_numberOfLeadingZeros) (maxL := 2) (ret := (some .int)) (by decide) rfl (Nat.le_of_ble_eq_true rfl) ?_ sz
  intro p e s m args below meth c ls Q A hx hb hml hr hts hown hin hlk hK hN hP hD hA hS hl hQ hAe
  have hown : s.vm.findClass "java/lang/Integer" = some m.cls := hown
  have hl : lv_has ls 2 [(0, .int a0)] := hl
  have w_k264 := (hts _ (List.mem_cons_of_mem _ tw_381))
  have L73 : ∀ (x0 : Int32) (x1 : Int32), q_Int_numberOfLeadingZeros_73 N x0 x1 = some u → ∀ (H : Heap) (locs : List Loc), va_P D vwCl [] H → va_D A [] → va_S A s.heap H locs → ∀ ls : Array Slot, lv_has ls 2 [(0, .int x0), (1, .int x1)] → W p l e { frames := 0, cells := 0, slots := 0, locals := 0 } s m args below meth c H locs 0 0 Q (F0 m 73 ls []) := by
    intro x0 x1 hf H locs hP hD hS ls hl
    unfold q_Int_numberOfLeadingZeros_73 at hf
    refine lv_iload_n hx hb d_Int_numberOfLeadingZeros_73 rfl (lv_at hl 1 rfl) ?_
    refine lv_iload_n hx hb d_Int_numberOfLeadingZeros_74 rfl (lv_at hl 0 rfl) ?_
    refine lv_iconst (v := 1) hx hb d_Int_numberOfLeadingZeros_75 (by decide) ?_
    refine lv_iushr (v := (j_iushr x0 (1 : Int32))) hx hb d_Int_numberOfLeadingZeros_76 rfl ?_
    refine lv_isub hx hb d_Int_numberOfLeadingZeros_77 ?_
    have hu := Option.some.inj hf
    exact m_reti () hx hb hr hlk hK hP hD hS hQ hAe (by rw [← hu]) (Nat.le_of_ble_eq_true rfl) (Nat.le_of_ble_eq_true rfl) d_Int_numberOfLeadingZeros_78
  have L61 : ∀ (x0 : Int32) (x1 : Int32), q_Int_numberOfLeadingZeros_61 N x0 x1 = some u → ∀ (H : Heap) (locs : List Loc), va_P D vwCl [] H → va_D A [] → va_S A s.heap H locs → ∀ ls : Array Slot, lv_has ls 2 [(0, .int x0), (1, .int x1)] → W p l e { frames := 0, cells := 0, slots := 0, locals := 0 } s m args below meth c H locs 0 0 Q (F0 m 61 ls []) := by
    intro x0 x1 hf H locs hP hD hS ls hl
    unfold q_Int_numberOfLeadingZeros_61 at hf
    refine lv_iload_n hx hb d_Int_numberOfLeadingZeros_61 rfl (lv_at hl 0 rfl) ?_
    refine lv_iconst (v := 4) hx hb d_Int_numberOfLeadingZeros_62 (by decide) ?_
    refine lv_icmp_lt (tgt := 73) hx hb d_Int_numberOfLeadingZeros_63 (by decide) (fun c_63 => ?_) (fun c_63 => ?_)
    · replace hf := (if_pos c_63).symm.trans hf
      exact L73  x0 x1 hf _ _ hP hD hS ls (lv_sub hl [0, 1] rfl)
    · replace hf := (if_neg c_63).symm.trans hf
      refine lv_iinc (v := (x1 + (-2))) (lv' := [(1, .int (x1 + (-2))), (0, .int x0)]) hx hb d_Int_numberOfLeadingZeros_66 hl (k := 1) rfl rfl (by decide) rfl (fun ls hl => ?_)
      refine lv_iload_n hx hb d_Int_numberOfLeadingZeros_69 rfl (lv_at hl 1 rfl) ?_
      refine lv_iconst (v := 2) hx hb d_Int_numberOfLeadingZeros_70 (by decide) ?_
      refine lv_iushr (v := (j_iushr x0 (2 : Int32))) hx hb d_Int_numberOfLeadingZeros_71 rfl ?_
      refine lv_istore_n (lv' := [(0, .int (j_iushr x0 (2 : Int32))), (1, .int (x1 + (-2)))]) hx hb d_Int_numberOfLeadingZeros_72 rfl hl (by decide) rfl (fun ls hl => ?_)
      exact L73  (j_iushr x0 (2 : Int32)) (x1 + (-2)) hf _ _ hP hD hS ls (lv_sub hl [0, 1] rfl)
  have L48 : ∀ (x0 : Int32) (x1 : Int32), q_Int_numberOfLeadingZeros_48 N x0 x1 = some u → ∀ (H : Heap) (locs : List Loc), va_P D vwCl [] H → va_D A [] → va_S A s.heap H locs → ∀ ls : Array Slot, lv_has ls 2 [(0, .int x0), (1, .int x1)] → W p l e { frames := 0, cells := 0, slots := 0, locals := 0 } s m args below meth c H locs 0 0 Q (F0 m 48 ls []) := by
    intro x0 x1 hf H locs hP hD hS ls hl
    unfold q_Int_numberOfLeadingZeros_48 at hf
    refine lv_iload_n hx hb d_Int_numberOfLeadingZeros_48 rfl (lv_at hl 0 rfl) ?_
    refine lv_bipush (v := 16) hx hb d_Int_numberOfLeadingZeros_49 (by decide) ?_
    refine lv_icmp_lt (tgt := 61) hx hb d_Int_numberOfLeadingZeros_51 (by decide) (fun c_51 => ?_) (fun c_51 => ?_)
    · replace hf := (if_pos c_51).symm.trans hf
      exact L61  x0 x1 hf _ _ hP hD hS ls (lv_sub hl [0, 1] rfl)
    · replace hf := (if_neg c_51).symm.trans hf
      refine lv_iinc (v := (x1 + (-4))) (lv' := [(1, .int (x1 + (-4))), (0, .int x0)]) hx hb d_Int_numberOfLeadingZeros_54 hl (k := 1) rfl rfl (by decide) rfl (fun ls hl => ?_)
      refine lv_iload_n hx hb d_Int_numberOfLeadingZeros_57 rfl (lv_at hl 1 rfl) ?_
      refine lv_iconst (v := 4) hx hb d_Int_numberOfLeadingZeros_58 (by decide) ?_
      refine lv_iushr (v := (j_iushr x0 (4 : Int32))) hx hb d_Int_numberOfLeadingZeros_59 rfl ?_
      refine lv_istore_n (lv' := [(0, .int (j_iushr x0 (4 : Int32))), (1, .int (x1 + (-4)))]) hx hb d_Int_numberOfLeadingZeros_60 rfl hl (by decide) rfl (fun ls hl => ?_)
      exact L61  (j_iushr x0 (4 : Int32)) (x1 + (-4)) hf _ _ hP hD hS ls (lv_sub hl [0, 1] rfl)
  have L33 : ∀ (x0 : Int32) (x1 : Int32), q_Int_numberOfLeadingZeros_33 N x0 x1 = some u → ∀ (H : Heap) (locs : List Loc), va_P D vwCl [] H → va_D A [] → va_S A s.heap H locs → ∀ ls : Array Slot, lv_has ls 2 [(0, .int x0), (1, .int x1)] → W p l e { frames := 0, cells := 0, slots := 0, locals := 0 } s m args below meth c H locs 0 0 Q (F0 m 33 ls []) := by
    intro x0 x1 hf H locs hP hD hS ls hl
    unfold q_Int_numberOfLeadingZeros_33 at hf
    refine lv_iload_n hx hb d_Int_numberOfLeadingZeros_33 rfl (lv_at hl 0 rfl) ?_
    refine lv_sipush (v := 256) hx hb d_Int_numberOfLeadingZeros_34 (by decide) ?_
    refine lv_icmp_lt (tgt := 48) hx hb d_Int_numberOfLeadingZeros_37 (by decide) (fun c_37 => ?_) (fun c_37 => ?_)
    · replace hf := (if_pos c_37).symm.trans hf
      exact L48  x0 x1 hf _ _ hP hD hS ls (lv_sub hl [0, 1] rfl)
    · replace hf := (if_neg c_37).symm.trans hf
      refine lv_iinc (v := (x1 + (-8))) (lv' := [(1, .int (x1 + (-8))), (0, .int x0)]) hx hb d_Int_numberOfLeadingZeros_40 hl (k := 1) rfl rfl (by decide) rfl (fun ls hl => ?_)
      refine lv_iload_n hx hb d_Int_numberOfLeadingZeros_43 rfl (lv_at hl 1 rfl) ?_
      refine lv_bipush (v := 8) hx hb d_Int_numberOfLeadingZeros_44 (by decide) ?_
      refine lv_iushr (v := (j_iushr x0 (8 : Int32))) hx hb d_Int_numberOfLeadingZeros_46 rfl ?_
      refine lv_istore_n (lv' := [(0, .int (j_iushr x0 (8 : Int32))), (1, .int (x1 + (-8)))]) hx hb d_Int_numberOfLeadingZeros_47 rfl hl (by decide) rfl (fun ls hl => ?_)
      exact L48  (j_iushr x0 (8 : Int32)) (x1 + (-8)) hf _ _ hP hD hS ls (lv_sub hl [0, 1] rfl)
  unfold p_Int_numberOfLeadingZeros at hf
  refine lv_iload_n hx hb d_Int_numberOfLeadingZeros_0 rfl (lv_at hl 0 rfl) ?_
  refine lv_if_gt (tgt := 15) hx hb d_Int_numberOfLeadingZeros_1 (by decide) (fun c_1 => ?_) (fun c_1 => ?_)
  · replace hf := (if_pos c_1).symm.trans hf
    refine lv_bipush (v := 31) hx hb d_Int_numberOfLeadingZeros_15 (by decide) ?_
    refine lv_istore_n (lv' := [(1, .int (31 : Int32)), (0, .int a0)]) hx hb d_Int_numberOfLeadingZeros_17 rfl hl (by decide) rfl (fun ls hl => ?_)
    refine lv_iload_n hx hb d_Int_numberOfLeadingZeros_18 rfl (lv_at hl 1 rfl) ?_
    refine lv_ldcw (v := 65536) hx hb hown w_k264 d_Int_numberOfLeadingZeros_19 ?_
    refine lv_icmp_lt (tgt := 33) hx hb d_Int_numberOfLeadingZeros_22 (by decide) (fun c_22 => ?_) (fun c_22 => ?_)
    · replace hf := (if_pos c_22).symm.trans hf
      exact L33  a0 (31 : Int32) hf _ _ hP hD hS ls (lv_sub hl [1, 0] rfl)
    · replace hf := (if_neg c_22).symm.trans hf
      refine lv_iinc (v := ((31 : Int32) + (-16))) (lv' := [(1, .int ((31 : Int32) + (-16))), (0, .int a0)]) hx hb d_Int_numberOfLeadingZeros_25 hl (k := 0) rfl rfl (by decide) rfl (fun ls hl => ?_)
      refine lv_iload_n hx hb d_Int_numberOfLeadingZeros_28 rfl (lv_at hl 1 rfl) ?_
      refine lv_bipush (v := 16) hx hb d_Int_numberOfLeadingZeros_29 (by decide) ?_
      refine lv_iushr (v := (j_iushr a0 (16 : Int32))) hx hb d_Int_numberOfLeadingZeros_31 rfl ?_
      refine lv_istore_n (lv' := [(0, .int (j_iushr a0 (16 : Int32))), (1, .int ((31 : Int32) + (-16)))]) hx hb d_Int_numberOfLeadingZeros_32 rfl hl (by decide) rfl (fun ls hl => ?_)
      exact L33  (j_iushr a0 (16 : Int32)) ((31 : Int32) + (-16)) hf _ _ hP hD hS ls (lv_sub hl [0, 1] rfl)
  · replace hf := (if_neg c_1).symm.trans hf
    refine lv_iload_n hx hb d_Int_numberOfLeadingZeros_4 rfl (lv_at hl 0 rfl) ?_
    refine lv_if_ne (tgt := 13) hx hb d_Int_numberOfLeadingZeros_5 (by decide) (fun c_5 => ?_) (fun c_5 => ?_)
    · replace hf := (if_neg c_5).symm.trans hf
      refine lv_iconst (v := 0) hx hb d_Int_numberOfLeadingZeros_13 (by decide) ?_
      have hu := Option.some.inj hf
      exact m_reti () hx hb hr hlk hK hP hD hS hQ hAe (by rw [← hu]) (Nat.le_of_ble_eq_true rfl) (Nat.le_of_ble_eq_true rfl) d_Int_numberOfLeadingZeros_14
    · replace hf := (if_pos c_5).symm.trans hf
      refine lv_bipush (v := 32) hx hb d_Int_numberOfLeadingZeros_8 (by decide) ?_
      refine lv_goto (tgt := 14) hx hb d_Int_numberOfLeadingZeros_10 (by decide) ?_
      have hu := Option.some.inj hf
      exact m_reti () hx hb hr hlk hK hP hD hS hQ hAe (by rw [← hu]) (Nat.le_of_ble_eq_true rfl) (Nat.le_of_ble_eq_true rfl) d_Int_numberOfLeadingZeros_14
set_option maxHeartbeats 4000000 in
set_option maxRecDepth 100000 in
theorem c_Lon_numberOfTrailingZeros {l : Launch} {D : va_G} {tys : List (ClassId × FieldType)} {kI kL kZ kR kM : ClassId} {N : Nat} {a0 : Int64} {u : Int32} (TY : mTy tys kI kL kZ kR kM) (hf : p_Lon_numberOfTrailingZeros N a0 = some u) (sz : Nat) : Met l y_Lon_numberOfTrailingZeros ws_Lon_numberOfTrailingZeros { frames := 1, cells := 0, slots := 0, locals := 21 } (mPre D tys [.long a0] [] sz) (mPost D tys (fun _ : Unit => some (.int u)) [] (fun x : Unit => []) sz) 0 0 (va_A [] sz) := by
  refine m_ofW (cc := b_Lon_numberOfTrailingZeros) (maxL := 3) (ret := (some .int)) (by decide) rfl (Nat.le_of_ble_eq_true rfl) ?_ sz
  intro p e s m args below meth c ls Q A hx hb hml hr hts hown hin hlk hK hN hP hD hA hS hl hQ hAe
  have hown : s.vm.findClass "java/lang/Long" = some m.cls := hown
  have hl : lv_has ls 3 [(0, .long a0)] := hl
  unfold p_Lon_numberOfTrailingZeros at hf
  refine lv_lload_n hx hb d_Lon_numberOfTrailingZeros_0 rfl (lv_at hl 0 rfl) ?_
  refine lv_l2i (v := a0.toInt32) hx hb d_Lon_numberOfTrailingZeros_1 rfl ?_
  refine lv_istore_n (lv' := [(2, .int a0.toInt32), (0, .long a0)]) hx hb d_Lon_numberOfTrailingZeros_2 rfl hl (by decide) rfl (fun ls hl => ?_)
  refine lv_iload_n hx hb d_Lon_numberOfTrailingZeros_3 rfl (lv_at hl 0 rfl) ?_
  refine lv_if_ne (tgt := 21) hx hb d_Lon_numberOfTrailingZeros_4 (by decide) (fun c_4 => ?_) (fun c_4 => ?_)
  · replace hf := (if_neg c_4).symm.trans hf
    refine lv_iload_n hx hb d_Lon_numberOfTrailingZeros_21 rfl (lv_at hl 0 rfl) ?_
    obtain ⟨r_22, hc_22, hf⟩ := jb hf
    refine m_call (wc := []) (wr := []) (w1 := fun x : Unit => []) (wn := fun x : Unit => []) (o := fun _ : Unit => some (.int r_22)) (va_runS (As := [.int a0.toInt32]) (rest := []) ⟨hx, hb, hml, hown, hts⟩ (c_Int_numberOfTrailingZeros (a0 := a0.toInt32) (u := r_22) TY hc_22 _) (va_cwS 1 hts (gS tw_378 tw_379 tw_53 tc_Int_numberOfTrailingZeros) rfl rfl rfl (by decide +kernel) ⟨Nat.le_of_ble_eq_true rfl, Nat.le_of_ble_eq_true rfl⟩) (m_preS hK hN hP hD [] rfl (by decide) _) rfl rfl hl.1 rfl (lv_room (Nat.le_of_ble_eq_true rfl)) d_Lon_numberOfTrailingZeros_22 ⟨Nat.le_of_ble_eq_true rfl, Nat.le_of_ble_eq_true rfl⟩) hP hD hS hA [] [] [] rfl rfl (by decide) (by decide) (by decide) (fun _ => rfl) (fun x H locs hP hD hS => ?_)
    have hP : va_P D vwCl [] H := hP
    have hD : va_D A [] := hD
    refine W.eq (g2 := F0 m 25 ls [.int r_22]) rfl ?_
    have hu := Option.some.inj hf
    exact m_reti () hx hb hr hlk hK hP hD hS hQ hAe (by rw [← hu]) (Nat.le_of_ble_eq_true rfl) (Nat.le_of_ble_eq_true rfl) d_Lon_numberOfTrailingZeros_25
  · replace hf := (if_pos c_4).symm.trans hf
    refine lv_bipush (v := 32) hx hb d_Lon_numberOfTrailingZeros_7 (by decide) ?_
    refine lv_lload_n hx hb d_Lon_numberOfTrailingZeros_9 rfl (lv_at hl 1 rfl) ?_
    refine lv_bipush (v := 32) hx hb d_Lon_numberOfTrailingZeros_10 (by decide) ?_
    refine lv_lushr (v := (j_lushr a0 (32 : Int32))) hx hb d_Lon_numberOfTrailingZeros_12 rfl ?_
    refine lv_l2i (v := (j_lushr a0 (32 : Int32)).toInt32) hx hb d_Lon_numberOfTrailingZeros_13 rfl ?_
    obtain ⟨r_14, hc_14, hf⟩ := jb hf
    refine m_call (wc := []) (wr := []) (w1 := fun x : Unit => []) (wn := fun x : Unit => []) (o := fun _ : Unit => some (.int r_14)) (va_runS (As := [.int ((j_lushr a0 (32 : Int32)).toInt32)]) (rest := [.int (32 : Int32)]) ⟨hx, hb, hml, hown, hts⟩ (c_Int_numberOfTrailingZeros (a0 := (j_lushr a0 (32 : Int32)).toInt32) (u := r_14) TY hc_14 _) (va_cwS 1 hts (gS tw_378 tw_379 tw_53 tc_Int_numberOfTrailingZeros) rfl rfl rfl (by decide +kernel) ⟨Nat.le_of_ble_eq_true rfl, Nat.le_of_ble_eq_true rfl⟩) (m_preS hK hN hP hD [] rfl (by decide) _) rfl rfl hl.1 rfl (lv_room (Nat.le_of_ble_eq_true rfl)) d_Lon_numberOfTrailingZeros_14 ⟨Nat.le_of_ble_eq_true rfl, Nat.le_of_ble_eq_true rfl⟩) hP hD hS hA [] [] [] rfl rfl (by decide) (by decide) (by decide) (fun _ => rfl) (fun x H locs hP hD hS => ?_)
    have hP : va_P D vwCl [] H := hP
    have hD : va_D A [] := hD
    refine W.eq (g2 := F0 m 17 ls [.int r_14, .int (32 : Int32)]) rfl ?_
    refine lv_iadd hx hb d_Lon_numberOfTrailingZeros_17 ?_
    refine lv_goto (tgt := 25) hx hb d_Lon_numberOfTrailingZeros_18 (by decide) ?_
    have hu := Option.some.inj hf
    exact m_reti () hx hb hr hlk hK hP hD hS hQ hAe (by rw [← hu]) (Nat.le_of_ble_eq_true rfl) (Nat.le_of_ble_eq_true rfl) d_Lon_numberOfTrailingZeros_25
set_option maxHeartbeats 4000000 in
set_option maxRecDepth 100000 in
theorem c_Lon_numberOfLeadingZeros {l : Launch} {D : va_G} {tys : List (ClassId × FieldType)} {kI kL kZ kR kM : ClassId} {N : Nat} {a0 : Int64} {u : Int32} (TY : mTy tys kI kL kZ kR kM) (hf : p_Lon_numberOfLeadingZeros N a0 = some u) (sz : Nat) : Met l y_Lon_numberOfLeadingZeros ws_Lon_numberOfLeadingZeros { frames := 1, cells := 0, slots := 0, locals := 21 } (mPre D tys [.long a0] [] sz) (mPost D tys (fun _ : Unit => some (.int u)) [] (fun x : Unit => []) sz) 0 0 (va_A [] sz) := by
  refine m_ofW (cc := b_Lon_numberOfLeadingZeros) (maxL := 3) (ret := (some .int)) (by decide) rfl (Nat.le_of_ble_eq_true rfl) ?_ sz
  intro p e s m args below meth c ls Q A hx hb hml hr hts hown hin hlk hK hN hP hD hA hS hl hQ hAe
  have hown : s.vm.findClass "java/lang/Long" = some m.cls := hown
  have hl : lv_has ls 3 [(0, .long a0)] := hl
  unfold p_Lon_numberOfLeadingZeros at hf
  refine lv_lload_n hx hb d_Lon_numberOfLeadingZeros_0 rfl (lv_at hl 0 rfl) ?_
  refine lv_bipush (v := 32) hx hb d_Lon_numberOfLeadingZeros_1 (by decide) ?_
  refine lv_lushr (v := (j_lushr a0 (32 : Int32))) hx hb d_Lon_numberOfLeadingZeros_3 rfl ?_
  refine lv_l2i (v := (j_lushr a0 (32 : Int32)).toInt32) hx hb d_Lon_numberOfLeadingZeros_4 rfl ?_
  refine lv_istore_n (lv' := [(2, .int ((j_lushr a0 (32 : Int32)).toInt32)), (0, .long a0)]) hx hb d_Lon_numberOfLeadingZeros_5 rfl hl (by decide) rfl (fun ls hl => ?_)
  refine lv_iload_n hx hb d_Lon_numberOfLeadingZeros_6 rfl (lv_at hl 0 rfl) ?_
  refine lv_if_ne (tgt := 21) hx hb d_Lon_numberOfLeadingZeros_7 (by decide) (fun c_7 => ?_) (fun c_7 => ?_)
  · replace hf := (if_neg c_7).symm.trans hf
    refine lv_iload_n hx hb d_Lon_numberOfLeadingZeros_21 rfl (lv_at hl 0 rfl) ?_
    obtain ⟨r_22, hc_22, hf⟩ := jb hf
    refine m_call (wc := []) (wr := []) (w1 := fun x : Unit => []) (wn := fun x : Unit => []) (o := fun _ : Unit => some (.int r_22)) (va_runS (As := [.int ((j_lushr a0 (32 : Int32)).toInt32)]) (rest := []) ⟨hx, hb, hml, hown, hts⟩ (c_Int_numberOfLeadingZeros (a0 := (j_lushr a0 (32 : Int32)).toInt32) (u := r_22) TY hc_22 _) (va_cwS 1 hts (gS tw_422 tw_423 tw_53 tc_Int_numberOfLeadingZeros) rfl rfl rfl (by decide +kernel) ⟨Nat.le_of_ble_eq_true rfl, Nat.le_of_ble_eq_true rfl⟩) (m_preS hK hN hP hD [] rfl (by decide) _) rfl rfl hl.1 rfl (lv_room (Nat.le_of_ble_eq_true rfl)) d_Lon_numberOfLeadingZeros_22 ⟨Nat.le_of_ble_eq_true rfl, Nat.le_of_ble_eq_true rfl⟩) hP hD hS hA [] [] [] rfl rfl (by decide) (by decide) (by decide) (fun _ => rfl) (fun x H locs hP hD hS => ?_)
    have hP : va_P D vwCl [] H := hP
    have hD : va_D A [] := hD
    refine W.eq (g2 := F0 m 25 ls [.int r_22]) rfl ?_
    have hu := Option.some.inj hf
    exact m_reti () hx hb hr hlk hK hP hD hS hQ hAe (by rw [← hu]) (Nat.le_of_ble_eq_true rfl) (Nat.le_of_ble_eq_true rfl) d_Lon_numberOfLeadingZeros_25
  · replace hf := (if_pos c_7).symm.trans hf
    refine lv_bipush (v := 32) hx hb d_Lon_numberOfLeadingZeros_10 (by decide) ?_
    refine lv_lload_n hx hb d_Lon_numberOfLeadingZeros_12 rfl (lv_at hl 1 rfl) ?_
    refine lv_l2i (v := a0.toInt32) hx hb d_Lon_numberOfLeadingZeros_13 rfl ?_
    obtain ⟨r_14, hc_14, hf⟩ := jb hf
    refine m_call (wc := []) (wr := []) (w1 := fun x : Unit => []) (wn := fun x : Unit => []) (o := fun _ : Unit => some (.int r_14)) (va_runS (As := [.int a0.toInt32]) (rest := [.int (32 : Int32)]) ⟨hx, hb, hml, hown, hts⟩ (c_Int_numberOfLeadingZeros (a0 := a0.toInt32) (u := r_14) TY hc_14 _) (va_cwS 1 hts (gS tw_422 tw_423 tw_53 tc_Int_numberOfLeadingZeros) rfl rfl rfl (by decide +kernel) ⟨Nat.le_of_ble_eq_true rfl, Nat.le_of_ble_eq_true rfl⟩) (m_preS hK hN hP hD [] rfl (by decide) _) rfl rfl hl.1 rfl (lv_room (Nat.le_of_ble_eq_true rfl)) d_Lon_numberOfLeadingZeros_14 ⟨Nat.le_of_ble_eq_true rfl, Nat.le_of_ble_eq_true rfl⟩) hP hD hS hA [] [] [] rfl rfl (by decide) (by decide) (by decide) (fun _ => rfl) (fun x H locs hP hD hS => ?_)
    have hP : va_P D vwCl [] H := hP
    have hD : va_D A [] := hD
    refine W.eq (g2 := F0 m 17 ls [.int r_14, .int (32 : Int32)]) rfl ?_
    refine lv_iadd hx hb d_Lon_numberOfLeadingZeros_17 ?_
    refine lv_goto (tgt := 25) hx hb d_Lon_numberOfLeadingZeros_18 (by decide) ?_
    have hu := Option.some.inj hf
    exact m_reti () hx hb hr hlk hK hP hD hS hQ hAe (by rw [← hu]) (Nat.le_of_ble_eq_true rfl) (Nat.le_of_ble_eq_true rfl) d_Lon_numberOfLeadingZeros_25
set_option maxHeartbeats 4000000 in
set_option maxRecDepth 100000 in
theorem c_Arr_fill {l : Launch} {D : va_G} {tys : List (ClassId × FieldType)} {kI kL kZ kR kM : ClassId} {N : Nat} {h_p0 : Nat} {n_p0 : Nat} {p0_f : Nat → Int64} {a1 : Int64} {u : (Nat → Int64)} (TY : mTy tys kI kL kZ kR kM) (hf : p_Arr_fill N n_p0 p0_f a1 = some u) (sz : Nat) : Met l y_Arr_fill ws_Arr_fill { frames := 0, cells := 0, slots := 0, locals := 0 } (mPre D tys [.ref h_p0, .long a1] [(h_p0, .inl (kL, n_p0, .inr (.inl p0_f)))] sz) (mPost D tys (fun _ : Unit => none) [(h_p0, .inl (kL, n_p0, .inr (.inl p0_f)))] (fun x : Unit => [(h_p0, .inl (kL, n_p0, .inr (.inl u)))]) sz) 0 0 (va_A [(h_p0, .inl (kL, n_p0, .inr (.inl p0_f)))] sz) := by
  refine m_ofW (cc := b_Arr_fill) (maxL := 5) (ret := none) (by decide) rfl (Nat.le_of_ble_eq_true rfl) ?_ sz
  intro p e s m args below meth c ls Q A hx hb hml hr hts hown hin hlk hK hN hP hD hA hS hl hQ hAe
  have hown : s.vm.findClass "java/util/Arrays" = some m.cls := hown
  have hl : lv_has ls 5 [(0, .ref h_p0), (1, .long a1)] := hl
  have L6 : ∀ n : Nat, ∀ (x3 : Int32) (x4 : Int32) (p0_f : Nat → Int64), q_Arr_fill_6 N n_p0 a1 n x3 x4 p0_f = some u → ∀ (H : Heap) (locs : List Loc), va_P D vwCl [(h_p0, .inl (kL, n_p0, .inr (.inl p0_f)))] H → va_D A [(h_p0, .inl (kL, n_p0, .inr (.inl p0_f)))] → va_S A s.heap H locs → ∀ ls : Array Slot, lv_has ls 5 [(0, .ref h_p0), (1, .long a1), (3, .int x3), (4, .int x4)] → W p l e { frames := 0, cells := 0, slots := 0, locals := 0 } s m args below meth c H locs 0 0 Q (F0 m 6 ls []) := by
    intro n
    induction n with
    | zero =>
      intro x3 x4 p0_f hf
      exact nomatch (show (none : Option ((Nat → Int64))) = some _ from hf)
    | succ n ih =>
      intro x3 x4 p0_f hf H locs hP hD hS ls hl
      rw [q_Arr_fill_6] at hf
      refine lv_iload_n hx hb d_Arr_fill_6 rfl (lv_at hl 2 rfl) ?_
      refine lv_iload hx hb d_Arr_fill_7 (lv_at hl 3 rfl) ?_
      refine lv_icmp_ge (tgt := 22) hx hb d_Arr_fill_9 (by decide) (fun c_9 => ?_) (fun c_9 => ?_)
      · replace hf := (if_pos c_9).symm.trans hf
        have hu := Option.some.inj hf
        exact m_retv () hx hb hr hlk hK (by rw [← hu]; exact hP) (by rw [← hu]; exact hD) hS hQ hAe rfl (Nat.le_of_ble_eq_true rfl) (Nat.le_of_ble_eq_true rfl) d_Arr_fill_22
      · replace hf := (if_neg c_9).symm.trans hf
        refine lv_aload_n hx hb d_Arr_fill_12 rfl (lv_at hl 0 rfl) ?_
        refine lv_iload_n hx hb d_Arr_fill_13 rfl (lv_at hl 2 rfl) ?_
        refine lv_lload_n hx hb d_Arr_fill_14 rfl (lv_at hl 1 rfl) ?_
        obtain ⟨h_15, hf⟩ := jin_some hf
        refine va_last hx hb hK hP hD hS 0 1 rfl TY.2.1 h_15 d_Arr_fill_15 (fun H locs hP hD hS => ?_)
        have hP : va_P D vwCl [(h_p0, .inl (kL, n_p0, .inr (.inl (vp_updL p0_f x3.toNatClampNeg a1))))] H := hP
        have hD : va_D A [(h_p0, .inl (kL, n_p0, .inr (.inl (vp_updL p0_f x3.toNatClampNeg a1))))] := hD
        refine lv_iinc (v := (x3 + 1)) (lv' := [(3, .int (x3 + 1)), (0, .ref h_p0), (1, .long a1), (4, .int x4)]) hx hb d_Arr_fill_16 hl (k := 2) rfl rfl (by decide) rfl (fun ls hl => ?_)
        refine lv_goto (tgt := 6) hx hb d_Arr_fill_19 (by decide) ?_
        exact ih (x3 + 1) x4 (vp_updL p0_f x3.toNatClampNeg a1) hf _ _ hP hD hS ls (lv_sub hl [1, 2, 0, 3] rfl)
  unfold p_Arr_fill at hf
  refine lv_iconst (v := 0) hx hb d_Arr_fill_0 (by decide) ?_
  refine lv_istore_n (lv' := [(3, .int (0 : Int32)), (0, .ref h_p0), (1, .long a1)]) hx hb d_Arr_fill_1 rfl hl (by decide) rfl (fun ls hl => ?_)
  refine lv_aload_n hx hb d_Arr_fill_2 rfl (lv_at hl 1 rfl) ?_
  refine va_alen (v := nI n_p0) hx hb hK hP 0 1 rfl TY.2.1 rfl d_Arr_fill_3 ?_
  refine lv_istore (lv' := [(4, .int (nI n_p0)), (3, .int (0 : Int32)), (0, .ref h_p0), (1, .long a1)]) hx hb d_Arr_fill_4 hl (by decide) rfl (fun ls hl => ?_)
  exact L6  N (0 : Int32) (nI n_p0) p0_f hf _ _ hP hD hS ls (lv_sub hl [2, 3, 1, 0] rfl)
set_option maxHeartbeats 4000000 in
set_option maxRecDepth 100000 in
theorem c_RK_has {l : Launch} {D : va_G} {tys : List (ClassId × FieldType)} {kI kL kZ kR kM : ClassId} {N : Nat} {a0 : Int64} {a2 : Int32} {u : Int32} (TY : mTy tys kI kL kZ kR kM) (hf : p_RK_has N a0 a2 = some u) (sz : Nat) : Met l y_RK_has ws_RK_has { frames := 0, cells := 0, slots := 0, locals := 0 } (mPre D tys [.long a0, .int a2] [] sz) (mPost D tys (fun _ : Unit => some (.int u)) [] (fun x : Unit => []) sz) 0 0 (va_A [] sz) := by
  refine m_ofW (cc := b_RK_has) (maxL := 3) (ret := (some .boolean)) (by decide) rfl (Nat.le_of_ble_eq_true rfl) ?_ sz
  intro p e s m args below meth c ls Q A hx hb hml hr hts hown hin hlk hK hN hP hD hA hS hl hQ hAe
  have hown : s.vm.findClass "RuleKernels" = some m.cls := hown
  have hl : lv_has ls 3 [(0, .long a0), (2, .int a2)] := hl
  unfold p_RK_has at hf
  refine lv_lload_n hx hb d_RK_has_0 rfl (lv_at hl 0 rfl) ?_
  refine lv_iload_n hx hb d_RK_has_1 rfl (lv_at hl 1 rfl) ?_
  refine lv_lushr (v := (j_lushr a0 a2)) hx hb d_RK_has_2 rfl ?_
  refine lv_lconst (v := 1) hx hb d_RK_has_3 (by decide) ?_
  refine lv_land hx hb d_RK_has_4 ?_
  refine lv_lconst (v := 0) hx hb d_RK_has_5 (by decide) ?_
  refine W.lcmp hx hb d_RK_has_6 ?_
  refine lv_if_eq (tgt := 14) hx hb d_RK_has_7 (by decide) (fun c_7 => ?_) (fun c_7 => ?_)
  · replace hf := (if_pos c_7).symm.trans hf
    refine lv_iconst (v := 0) hx hb d_RK_has_14 (by decide) ?_
    have hu := Option.some.inj hf
    exact m_retz () hx hb hr hlk hK hP hD hS hQ hAe rfl (by rw [← hu]) (Nat.le_of_ble_eq_true rfl) (Nat.le_of_ble_eq_true rfl) d_RK_has_15
  · replace hf := (if_neg c_7).symm.trans hf
    refine lv_iconst (v := 1) hx hb d_RK_has_10 (by decide) ?_
    refine lv_goto (tgt := 15) hx hb d_RK_has_11 (by decide) ?_
    have hu := Option.some.inj hf
    exact m_retz () hx hb hr hlk hK hP hD hS hQ hAe rfl (by rw [← hu]) (Nat.le_of_ble_eq_true rfl) (Nat.le_of_ble_eq_true rfl) d_RK_has_15
