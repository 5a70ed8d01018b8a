def q_Giving_moveOn_74 (N : Nat) (a2 : Int32) (x5 : Int32) (t_used : Int64) (t_given : Nat → Int32) : Option (Int64 × (Nat → Int32)) := (jin a2 16 (some (t_used, (upd t_given a2.toNatClampNeg x5))))
def q_Giving_moveOn_21 (N : Nat) (t_askedBy : Nat → Int32) (a2 : Int32) : Nat → Int32 → Int32 → Int32 → Int64 → (Nat → Int32) → Option (Int64 × (Nat → Int32))
  | 0 => fun _ _ _ _ _ => none
  | n + 1 => fun x4 x5 x6 t_used t_given => (if (nI 16) ≤ x6 then q_Giving_moveOn_74 N a2  x5 t_used t_given else (if x4 = a2 then q_Giving_moveOn_74 N a2  x5 t_used t_given else (jin x4 16 (jin x4 16 (jin x4 16 (q_Giving_moveOn_21 N t_askedBy a2 n (t_askedBy x4.toNatClampNeg) (t_given x4.toNatClampNeg) (x6 + 1) t_used (upd t_given x4.toNatClampNeg x5)))))))
def p_Giving_moveOn (N : Nat) (t_used : Int64) (t_given : Nat → Int32) (t_askedBy : Nat → Int32) (a1 : Int32) (a2 : Int32) (a3 : Int32) : Option (Int64 × (Nat → Int32)) := q_Giving_moveOn_21 N t_askedBy a2  N a1 a3 (0 : Int32) (t_used ||| (j_lshl (1 : Int64) a3)) t_given
def q_Giving_give_158 (N : Nat) (K17 : Int32 → Int32 → Int32 → Int64 → (Nat → Int32) → (Nat → Int32) → (Nat → Int32) → Option (Int32 × Int64 × (Nat → Int32) × (Nat → Int32) × (Nat → Int32))) (x3 : Int32) (x4 : Int32) (x5 : Int32) (t_used : Int64) (t_given : Nat → Int32) (t_askedBy : Nat → Int32) (t_line : Nat → Int32) : Option (Int32 × Int64 × (Nat → Int32) × (Nat → Int32) × (Nat → Int32)) := K17 x3 x4 (x5 + 1) t_used t_given t_askedBy t_line
def q_Giving_give_152 (N : Nat) (K81 : Int32 → Int32 → Int32 → Int32 → Int32 → Int64 → (Nat → Int32) → (Nat → Int32) → (Nat → Int32) → Option (Int32 × Int64 × (Nat → Int32) × (Nat → Int32) × (Nat → Int32))) (x3 : Int32) (x4 : Int32) (x5 : Int32) (x6 : Int32) (x9 : Int32) (t_used : Int64) (t_given : Nat → Int32) (t_askedBy : Nat → Int32) (t_line : Nat → Int32) : Option (Int32 × Int64 × (Nat → Int32) × (Nat → Int32) × (Nat → Int32)) := K81 x3 x4 x5 x6 (x9 + 1) t_used t_given t_askedBy t_line
def q_Giving_give_81 (N : Nat) (p1_f : Nat → Int64) (a2 : Int32) (K17 : Int32 → Int32 → Int32 → Int64 → (Nat → Int32) → (Nat → Int32) → (Nat → Int32) → Option (Int32 × Int64 × (Nat → Int32) × (Nat → Int32) × (Nat → Int32))) : Nat → Int32 → Int32 → Int32 → Int32 → Int32 → Int64 → (Nat → Int32) → (Nat → Int32) → (Nat → Int32) → Option (Int32 × Int64 × (Nat → Int32) × (Nat → Int32) × (Nat → Int32))
  | 0 => fun _ _ _ _ _ _ _ _ _ => none
  | n + 1 => fun x3 x4 x5 x6 x9 t_used t_given t_askedBy t_line => (if a2 ≤ x9 then q_Giving_give_158 N K17 x3 x4 x5 t_used t_given t_askedBy t_line else (if (nI 16) ≤ x3 then q_Giving_give_158 N K17 x3 x4 x5 t_used t_given t_askedBy t_line else (if ((j_iushr x4 x9) &&& (1 : Int32)) = 0 then (jin x6 16 (jin x9 16 ((p_RK_has N (p1_f x6.toNatClampNeg) (t_given x9.toNatClampNeg)).bind fun r_117 => (if r_117 = 0 then q_Giving_give_152 N (q_Giving_give_81 N p1_f a2 K17 n) x3 x4 x5 x6 x9 t_used t_given t_askedBy t_line else (jin x9 16 (jin x3 16 (q_Giving_give_152 N (q_Giving_give_81 N p1_f a2 K17 n) (x3 + 1) (x4 ||| ((1 : Int32) <<< (x9 &&& 31))) x5 x6 x9 t_used t_given (upd t_askedBy x9.toNatClampNeg x6) (upd t_line x3.toNatClampNeg x9)))))))) else q_Giving_give_152 N (q_Giving_give_81 N p1_f a2 K17 n) x3 x4 x5 x6 x9 t_used t_given t_askedBy t_line)))
def q_Giving_give_64 (N : Nat) (a2 : Int32) (x6 : Int32) (x7 : Int64) (t_used : Int64) (t_given : Nat → Int32) (t_askedBy : Nat → Int32) (t_line : Nat → Int32) : Option (Int32 × Int64 × (Nat → Int32) × (Nat → Int32) × (Nat → Int32)) := ((p_Lon_numberOfTrailingZeros N x7).bind fun r_70 => ((p_Giving_moveOn N t_used t_given t_askedBy x6 a2 r_70).bind fun (t_used_73, t_given_73) => some ((1 : Int32), t_used_73, t_given_73, t_askedBy, t_line)))
def q_Giving_give_17 (N : Nat) (p1_f : Nat → Int64) (a2 : Int32) : Nat → Int32 → Int32 → Int32 → Int64 → (Nat → Int32) → (Nat → Int32) → (Nat → Int32) → Option (Int32 × Int64 × (Nat → Int32) × (Nat → Int32) × (Nat → Int32))
  | 0 => fun _ _ _ _ _ _ _ => none
  | n + 1 => fun x3 x4 x5 t_used t_given t_askedBy t_line => (if x3 ≤ x5 then some ((0 : Int32), t_used, t_given, t_askedBy, t_line) else (if (nI 16) ≤ x5 then some ((0 : Int32), t_used, t_given, t_askedBy, t_line) else (jin x5 16 (jin (t_line x5.toNatClampNeg) 16 (if (lg_cmp ((p1_f (t_line x5.toNatClampNeg).toNatClampNeg) &&& (t_used ^^^ (-1 : Int64))) (0 : Int64)) = 0 then q_Giving_give_81 N p1_f a2 (q_Giving_give_17 N p1_f a2 n) N x3 x4 x5 (t_line x5.toNatClampNeg) (0 : Int32) t_used t_given t_askedBy t_line else q_Giving_give_64 N a2  (t_line x5.toNatClampNeg) ((p1_f (t_line x5.toNatClampNeg).toNatClampNeg) &&& (t_used ^^^ (-1 : Int64))) t_used t_given t_askedBy t_line)))))
def p_Giving_give (N : Nat) (t_used : Int64) (t_given : Nat → Int32) (t_askedBy : Nat → Int32) (t_line : Nat → Int32) (p1_f : Nat → Int64) (a2 : Int32) : Option (Int32 × Int64 × (Nat → Int32) × (Nat → Int32) × (Nat → Int32)) := (jin (0 : Int32) 16 (q_Giving_give_17 N p1_f a2  N (1 : Int32) ((1 : Int32) <<< (a2 &&& 31)) (0 : Int32) t_used t_given t_askedBy (upd t_line (0 : Int32).toNatClampNeg a2)))
def q_Giving_giveAll_7 (N : Nat) (p1_f : Nat → Int64) (a2 : Int32) : Nat → Int32 → Int64 → (Nat → Int32) → (Nat → Int32) → (Nat → Int32) → Option (Int32 × Int64 × (Nat → Int32) × (Nat → Int32) × (Nat → Int32))
  | 0 => fun _ _ _ _ _ => none
  | n + 1 => fun x3 t_used t_given t_askedBy t_line => (if a2 ≤ x3 then some ((1 : Int32), t_used, t_given, t_askedBy, t_line) else ((p_Giving_give N t_used t_given t_askedBy t_line p1_f x3).bind fun (r_15, t_used_15, t_given_15, t_askedBy_15, t_line_15) => (if r_15 = 0 then some ((0 : Int32), t_used_15, t_given_15, t_askedBy_15, t_line_15) else q_Giving_giveAll_7 N p1_f a2 n (x3 + 1) t_used_15 t_given_15 t_askedBy_15 t_line_15)))
def p_Giving_giveAll (N : Nat) (t_given : Nat → Int32) (t_askedBy : Nat → Int32) (t_line : Nat → Int32) (p1_f : Nat → Int64) (a2 : Int32) : Option (Int32 × Int64 × (Nat → Int32) × (Nat → Int32) × (Nat → Int32)) := q_Giving_giveAll_7 N p1_f a2  N (0 : Int32) (0 : Int64) t_given t_askedBy t_line
def q_Giving_findReach_162 (N : Nat) (K108 : Int32 → Int32 → (Nat → Int32) → Option (Int32 × (Nat → Int32))) (x3 : Int32) (t_movable : Int32) (t_reach : Nat → Int32) : Option (Int32 × (Nat → Int32)) := K108 (x3 + 1) t_movable t_reach
def q_Giving_findReach_154 (N : Nat) (K116 : Int32 → Int32 → Int32 → (Nat → Int32) → Option (Int32 × (Nat → Int32))) (x3 : Int32) (x4 : Int32) (z0 : Int32) (z1 : Int32) (z2 : Int32) (t_movable : Int32) (t_reach : Nat → Int32) : Option (Int32 × (Nat → Int32)) := (jin z2 16 (K116 x3 (x4 + 1) t_movable (upd t_reach z2.toNatClampNeg (z1 ||| z0))))
def q_Giving_findReach_116 (N : Nat) (a2 : Int32) (K108 : Int32 → Int32 → (Nat → Int32) → Option (Int32 × (Nat → Int32))) : Nat → Int32 → Int32 → Int32 → (Nat → Int32) → Option (Int32 × (Nat → Int32))
  | 0 => fun _ _ _ _ => none
  | n + 1 => fun x3 x4 t_movable t_reach => (if a2 ≤ x4 then q_Giving_findReach_162 N K108 x3 t_movable t_reach else (jin x4 16 (jin x4 16 (if ((j_iushr (t_reach x4.toNatClampNeg) x3) &&& (1 : Int32)) = 0 then q_Giving_findReach_154 N (q_Giving_findReach_116 N a2 K108 n) x3 x4 (0 : Int32) (t_reach x4.toNatClampNeg) x4 t_movable t_reach else (jin x3 16 (q_Giving_findReach_154 N (q_Giving_findReach_116 N a2 K108 n) x3 x4 (t_reach x3.toNatClampNeg) (t_reach x4.toNatClampNeg) x4 t_movable t_reach))))))
def q_Giving_findReach_108 (N : Nat) (a2 : Int32) : Nat → Int32 → Int32 → (Nat → Int32) → Option (Int32 × (Nat → Int32))
  | 0 => fun _ _ _ => none
  | n + 1 => fun x3 t_movable t_reach => (if a2 ≤ x3 then some (t_movable, t_reach) else q_Giving_findReach_116 N a2 (q_Giving_findReach_108 N a2 n) N x3 (0 : Int32) t_movable t_reach)
def q_Giving_findReach_106 (N : Nat) (a2 : Int32) (t_movable : Int32) (t_reach : Nat → Int32) : Option (Int32 × (Nat → Int32)) := q_Giving_findReach_108 N a2  N (0 : Int32) t_movable t_reach
def q_Giving_findReach_96 (N : Nat) (K7 : Int32 → Int32 → (Nat → Int32) → Option (Int32 × (Nat → Int32))) (x3 : Int32) (z0 : Int32) (z1 : Int32) (t_movable : Int32) (t_reach : Nat → Int32) : Option (Int32 × (Nat → Int32)) := K7 (x3 + 1) (z1 ||| z0) t_reach
def q_Giving_findReach_67 (N : Nat) (t_used : Int64) (p1_f : Nat → Int64) (K7 : Int32 → Int32 → (Nat → Int32) → Option (Int32 × (Nat → Int32))) (x3 : Int32) (t_movable : Int32) (t_reach : Nat → Int32) : Option (Int32 × (Nat → Int32)) := (jin x3 16 (if (lg_cmp ((p1_f x3.toNatClampNeg) &&& (t_used ^^^ (-1 : Int64))) (0 : Int64)) = 0 then q_Giving_findReach_96 N K7 x3 (0 : Int32) t_movable t_movable t_reach else q_Giving_findReach_96 N K7 x3 ((1 : Int32) <<< (x3 &&& 31)) t_movable t_movable t_reach))
def q_Giving_findReach_59 (N : Nat) (K22 : Int32 → Int32 → Int32 → (Nat → Int32) → Option (Int32 × (Nat → Int32))) (x3 : Int32) (x4 : Int32) (z0 : Int32) (z1 : Int32) (z2 : Int32) (t_movable : Int32) (t_reach : Nat → Int32) : Option (Int32 × (Nat → Int32)) := (jin z2 16 (K22 x3 (x4 + 1) t_movable (upd t_reach z2.toNatClampNeg (z1 ||| z0))))
def q_Giving_findReach_22 (N : Nat) (t_used : Int64) (t_given : Nat → Int32) (p1_f : Nat → Int64) (a2 : Int32) (K7 : Int32 → Int32 → (Nat → Int32) → Option (Int32 × (Nat → Int32))) : Nat → Int32 → Int32 → Int32 → (Nat → Int32) → Option (Int32 × (Nat → Int32))
  | 0 => fun _ _ _ _ => none
  | n + 1 => fun x3 x4 t_movable t_reach => (if a2 ≤ x4 then q_Giving_findReach_67 N t_used p1_f K7 x3 t_movable t_reach else (jin x3 16 (jin x3 16 (jin x4 16 ((p_RK_has N (p1_f x3.toNatClampNeg) (t_given x4.toNatClampNeg)).bind fun r_45 => (if r_45 = 0 then q_Giving_findReach_59 N (q_Giving_findReach_22 N t_used t_given p1_f a2 K7 n) x3 x4 (0 : Int32) (t_reach x3.toNatClampNeg) x3 t_movable t_reach else q_Giving_findReach_59 N (q_Giving_findReach_22 N t_used t_given p1_f a2 K7 n) x3 x4 ((1 : Int32) <<< (x4 &&& 31)) (t_reach x3.toNatClampNeg) x3 t_movable t_reach))))))
def q_Giving_findReach_7 (N : Nat) (t_used : Int64) (t_given : Nat → Int32) (p1_f : Nat → Int64) (a2 : Int32) : Nat → Int32 → Int32 → (Nat → Int32) → Option (Int32 × (Nat → Int32))
  | 0 => fun _ _ _ => none
  | n + 1 => fun x3 t_movable t_reach => (if a2 ≤ x3 then q_Giving_findReach_106 N a2  t_movable t_reach else (jin x3 16 (q_Giving_findReach_22 N t_used t_given p1_f a2 (q_Giving_findReach_7 N t_used t_given p1_f a2 n) N x3 (0 : Int32) t_movable (upd t_reach x3.toNatClampNeg (0 : Int32)))))
def p_Giving_findReach (N : Nat) (t_used : Int64) (t_given : Nat → Int32) (t_reach : Nat → Int32) (p1_f : Nat → Int64) (a2 : Int32) : Option (Int32 × (Nat → Int32)) := q_Giving_findReach_7 N t_used t_given p1_f a2  N (0 : Int32) (0 : Int32) t_reach
def q_Giving_possible_57 (N : Nat) (K15 : Int64 → Int32 → Option (Int64)) (x5 : Int64) (x7 : Int32) : Option (Int64) := K15 x5 (x7 + 1)
def q_Giving_possible_15 (N : Nat) (t_movable : Int32) (t_given : Nat → Int32) (t_reach : Nat → Int32) (a1 : Int64) (a3 : Int32) (a4 : Int32) : Nat → Int64 → Int32 → Option (Int64)
  | 0 => fun _ _ => none
  | n + 1 => fun x5 x7 => (if a4 ≤ x7 then some x5 else (jin x7 16 (if ((t_reach x7.toNatClampNeg) &&& (t_movable ||| ((1 : Int32) <<< (a3 &&& 31)))) = 0 then q_Giving_possible_57 N (q_Giving_possible_15 N t_movable t_given t_reach a1 a3 a4 n) x5 x7 else (jin x7 16 (q_Giving_possible_57 N (q_Giving_possible_15 N t_movable t_given t_reach a1 a3 a4 n) (x5 ||| (a1 &&& (j_lshl (1 : Int64) (t_given x7.toNatClampNeg)))) x7)))))
def p_Giving_possible (N : Nat) (t_used : Int64) (t_movable : Int32) (t_given : Nat → Int32) (t_reach : Nat → Int32) (a1 : Int64) (a3 : Int32) (a4 : Int32) : Option (Int64) := q_Giving_possible_15 N t_movable t_given t_reach a1 a3 a4  N (a1 &&& (t_used ^^^ (-1 : Int64))) (0 : Int32)
set_option maxHeartbeats 4000000 in
set_option maxRecDepth 100000 in
theorem c_Giving_moveOn {l : Launch} {D : va_G} {tys : List (ClassId × FieldType)} {kI kL kZ kR kM : ClassId} {N : Nat} {h_t h_t_given h_t_askedBy h_t_line h_t_reach : Nat} {t_used : Int64} {t_movable : Int32} {t_given : Nat → Int32} {t_askedBy : Nat → Int32} {a1 : Int32} {a2 : Int32} {a3 : Int32} {u : Int64 × (Nat → Int32)} (TY : mTy tys kI kL kZ kR kM) (hf : p_Giving_moveOn N t_used t_given t_askedBy a1 a2 a3 = some u) (sz : Nat) : Met l y_Giving_moveOn ws_Giving_moveOn { frames := 0, cells := 0, slots := 0, locals := 0 } (mPre D tys [.ref h_t, .int a1, .int a2, .int a3] [(h_t, .inr (1, [.ref h_t_given, .ref h_t_askedBy, .ref h_t_line, .ref h_t_reach, .long t_used, .int t_movable])), (h_t_given, .inl (kI, 16, .inl t_given)), (h_t_askedBy, .inl (kI, 16, .inl t_askedBy))] sz) (mPost D tys (fun _ : Unit => none) [(h_t, .inr (1, [.ref h_t_given, .ref h_t_askedBy, .ref h_t_line, .ref h_t_reach, .long t_used, .int t_movable])), (h_t_given, .inl (kI, 16, .inl t_given)), (h_t_askedBy, .inl (kI, 16, .inl t_askedBy))] (fun x : Unit => [(h_t, .inr (1, [.ref h_t_given, .ref h_t_askedBy, .ref h_t_line, .ref h_t_reach, .long u.1, .int t_movable])), (h_t_given, .inl (kI, 16, .inl u.2)), (h_t_askedBy, .inl (kI, 16, .inl t_askedBy))]) sz) 0 0 (va_A [(h_t, .inr (1, [.ref h_t_given, .ref h_t_askedBy, .ref h_t_line, .ref h_t_reach, .long t_used, .int t_movable])), (h_t_given, .inl (kI, 16, .inl t_given)), (h_t_askedBy, .inl (kI, 16, .inl t_askedBy))] sz) := by
  refine m_ofW (cc := b_Giving_moveOn) (maxL := 8) (ret := none) (by decide) rfl (Nat.le_of_ble_eq_true rfl) ?_ sz
  intro p e s m args below meth c ls Q A hx hb hml hr hts hown hin hlk hK hN hP hD hA hS hl hQ hAe
  have hown : s.vm.findClass "RuleKernels$Giving" = some m.cls := hown
  have hl : lv_has ls 8 [(0, .ref h_t), (1, .int a1), (2, .int a2), (3, .int a3)] := hl
  have w_f15 := (hts _ (List.mem_cons_of_mem _ tw_118))
  have w_f24 := (hts _ (List.mem_cons_of_mem _ tw_121))
  have w_f9 := (hts _ (List.mem_cons_of_mem _ tw_117))
  have w_i1 := (fun q h => List.mem_cons_of_mem _ (i_Giving q h) : ∀ q ∈ u_ws "RuleKernels$Giving" T_Giving 6, q ∈ ws_Giving_moveOn)
  have L74 : ∀ (x5 : Int32) (t_used : Int64) (t_given : Nat → Int32), q_Giving_moveOn_74 N a2 x5 t_used t_given = some u → ∀ (H : Heap) (locs : List Loc), va_P D vwCl [(h_t, .inr (1, [.ref h_t_given, .ref h_t_askedBy, .ref h_t_line, .ref h_t_reach, .long t_used, .int t_movable])), (h_t_given, .inl (kI, 16, .inl t_given)), (h_t_askedBy, .inl (kI, 16, .inl t_askedBy))] H → va_D A [(h_t, .inr (1, [.ref h_t_given, .ref h_t_askedBy, .ref h_t_line, .ref h_t_reach, .long t_used, .int t_movable])), (h_t_given, .inl (kI, 16, .inl t_given)), (h_t_askedBy, .inl (kI, 16, .inl t_askedBy))] → va_S A s.heap H locs → ∀ ls : Array Slot, lv_has ls 8 [(0, .ref h_t), (2, .int a2), (5, .int x5)] → W p l e { frames := 0, cells := 0, slots := 0, locals := 0 } s m args below meth c H locs 0 0 Q (F0 m 74 ls []) := by
    intro x5 t_used t_given hf H locs hP hD hS ls hl
    unfold q_Giving_moveOn_74 at hf
    refine lv_aload_n hx hb d_Giving_moveOn_74 rfl (lv_at hl 0 rfl) ?_
    refine va_get (D := D) (ci := 1) (v := .ref h_t_given) (C := "RuleKernels$Giving") (T := T_Giving) (N := 6) hx hb hts w_i1 hown hK hP 0 rfl rfl 0 (by decide) w_f9 (fun _ h9 => h9) rfl d_Giving_moveOn_75 ?_
    refine lv_iload_n hx hb d_Giving_moveOn_78 rfl (lv_at hl 1 rfl) ?_
    refine lv_iload hx hb d_Giving_moveOn_79 (lv_at hl 2 rfl) ?_
    obtain ⟨h_81, hf⟩ := jin_some hf
    refine va_iast hx hb hK hP hD hS 1 0 rfl TY.1 h_81 d_Giving_moveOn_81 (fun H locs hP hD hS => ?_)
    have hP : va_P D vwCl [(h_t, .inr (1, [.ref h_t_given, .ref h_t_askedBy, .ref h_t_line, .ref h_t_reach, .long t_used, .int t_movable])), (h_t_given, .inl (kI, 16, .inl (upd t_given a2.toNatClampNeg x5))), (h_t_askedBy, .inl (kI, 16, .inl t_askedBy))] H := hP
    have hD : va_D A [(h_t, .inr (1, [.ref h_t_given, .ref h_t_askedBy, .ref h_t_line, .ref h_t_reach, .long t_used, .int t_movable])), (h_t_given, .inl (kI, 16, .inl (upd t_given a2.toNatClampNeg x5))), (h_t_askedBy, .inl (kI, 16, .inl t_askedBy))] := hD
    have hu := Option.some.inj hf
    exact m_retv () hx hb hr hlk hK (by rw [← hu]; exact hP) (by rw [← hu]; exact hD) hS hQ hAe rfl (Nat.le_of_ble_eq_true rfl) (Nat.le_of_ble_eq_true rfl) d_Giving_moveOn_82
  have L21 : ∀ n : Nat, ∀ (x4 : Int32) (x5 : Int32) (x6 : Int32) (t_used : Int64) (t_given : Nat → Int32), q_Giving_moveOn_21 N t_askedBy a2 n x4 x5 x6 t_used t_given = some u → ∀ (H : Heap) (locs : List Loc), va_P D vwCl [(h_t, .inr (1, [.ref h_t_given, .ref h_t_askedBy, .ref h_t_line, .ref h_t_reach, .long t_used, .int t_movable])), (h_t_given, .inl (kI, 16, .inl t_given)), (h_t_askedBy, .inl (kI, 16, .inl t_askedBy))] H → va_D A [(h_t, .inr (1, [.ref h_t_given, .ref h_t_askedBy, .ref h_t_line, .ref h_t_reach, .long t_used, .int t_movable])), (h_t_given, .inl (kI, 16, .inl t_given)), (h_t_askedBy, .inl (kI, 16, .inl t_askedBy))] → va_S A s.heap H locs → ∀ ls : Array Slot, lv_has ls 8 [(0, .ref h_t), (2, .int a2), (4, .int x4), (5, .int x5), (6, .int x6)] → W p l e { frames := 0, cells := 0, slots := 0, locals := 0 } s m args below meth c H locs 0 0 Q (F0 m 21 ls []) := by
    intro n
    induction n with
    | zero =>
      intro x4 x5 x6 t_used t_given hf
      exact nomatch (show (none : Option (Int64 × (Nat → Int32))) = some _ from hf)
    | succ n ih =>
      intro x4 x5 x6 t_used t_given hf H locs hP hD hS ls hl
      rw [q_Giving_moveOn_21] at hf
      refine lv_iload hx hb d_Giving_moveOn_21 (lv_at hl 4 rfl) ?_
      refine lv_aload_n hx hb d_Giving_moveOn_23 rfl (lv_at hl 0 rfl) ?_
      refine va_get (D := D) (ci := 1) (v := .ref h_t_given) (C := "RuleKernels$Giving") (T := T_Giving) (N := 6) hx hb hts w_i1 hown hK hP 0 rfl rfl 0 (by decide) w_f9 (fun _ h9 => h9) rfl d_Giving_moveOn_24 ?_
      refine va_alen (v := nI 16) hx hb hK hP 1 0 rfl TY.1 rfl d_Giving_moveOn_27 ?_
      refine lv_icmp_ge (tgt := 74) hx hb d_Giving_moveOn_28 (by decide) (fun c_28 => ?_) (fun c_28 => ?_)
      · replace hf := (if_pos c_28).symm.trans hf
        exact L74  x5 t_used t_given hf _ _ hP hD hS ls (lv_sub hl [0, 1, 3] rfl)
      · replace hf := (if_neg c_28).symm.trans hf
        refine lv_iload hx hb d_Giving_moveOn_31 (lv_at hl 2 rfl) ?_
        refine lv_iload_n hx hb d_Giving_moveOn_33 rfl (lv_at hl 1 rfl) ?_
        refine lv_icmp_eq (tgt := 74) hx hb d_Giving_moveOn_34 (by decide) (fun c_34 => ?_) (fun c_34 => ?_)
        · replace hf := (if_pos c_34).symm.trans hf
          exact L74  x5 t_used t_given hf _ _ hP hD hS ls (lv_sub hl [0, 1, 3] rfl)
        · replace hf := (if_neg c_34).symm.trans hf
          refine lv_aload_n hx hb d_Giving_moveOn_37 rfl (lv_at hl 0 rfl) ?_
          refine va_get (D := D) (ci := 1) (v := .ref h_t_given) (C := "RuleKernels$Giving") (T := T_Giving) (N := 6) hx hb hts w_i1 hown hK hP 0 rfl rfl 0 (by decide) w_f9 (fun _ h9 => h9) rfl d_Giving_moveOn_38 ?_
          refine lv_iload hx hb d_Giving_moveOn_41 (lv_at hl 2 rfl) ?_
          obtain ⟨h_43, hf⟩ := jin_some hf
          refine va_iald hx hb hK hP 1 0 rfl TY.1 h_43 d_Giving_moveOn_43 ?_
          refine lv_istore (lv' := [(7, .int (t_given x4.toNatClampNeg)), (0, .ref h_t), (2, .int a2), (4, .int x4), (5, .int x5), (6, .int x6)]) hx hb d_Giving_moveOn_44 hl (by decide) rfl (fun ls hl => ?_)
          refine lv_aload_n hx hb d_Giving_moveOn_46 rfl (lv_at hl 1 rfl) ?_
          refine va_get (D := D) (ci := 1) (v := .ref h_t_given) (C := "RuleKernels$Giving") (T := T_Giving) (N := 6) hx hb hts w_i1 hown hK hP 0 rfl rfl 0 (by decide) w_f9 (fun _ h9 => h9) rfl d_Giving_moveOn_47 ?_
          refine lv_iload hx hb d_Giving_moveOn_50 (lv_at hl 3 rfl) ?_
          refine lv_iload hx hb d_Giving_moveOn_52 (lv_at hl 4 rfl) ?_
          obtain ⟨h_54, hf⟩ := jin_some hf
          refine va_iast hx hb hK hP hD hS 1 0 rfl TY.1 h_54 d_Giving_moveOn_54 (fun H locs hP hD hS => ?_)
          have hP : va_P D vwCl [(h_t, .inr (1, [.ref h_t_given, .ref h_t_askedBy, .ref h_t_line, .ref h_t_reach, .long t_used, .int t_movable])), (h_t_given, .inl (kI, 16, .inl (upd t_given x4.toNatClampNeg x5))), (h_t_askedBy, .inl (kI, 16, .inl t_askedBy))] H := hP
          have hD : va_D A [(h_t, .inr (1, [.ref h_t_given, .ref h_t_askedBy, .ref h_t_line, .ref h_t_reach, .long t_used, .int t_movable])), (h_t_given, .inl (kI, 16, .inl (upd t_given x4.toNatClampNeg x5))), (h_t_askedBy, .inl (kI, 16, .inl t_askedBy))] := hD
          refine lv_iload hx hb d_Giving_moveOn_55 (lv_at hl 0 rfl) ?_
          refine lv_istore (lv' := [(5, .int (t_given x4.toNatClampNeg)), (7, .int (t_given x4.toNatClampNeg)), (0, .ref h_t), (2, .int a2), (4, .int x4), (6, .int x6)]) hx hb d_Giving_moveOn_57 hl (by decide) rfl (fun ls hl => ?_)
          refine lv_aload_n hx hb d_Giving_moveOn_59 rfl (lv_at hl 2 rfl) ?_
          refine va_get (D := D) (ci := 1) (v := .ref h_t_askedBy) (C := "RuleKernels$Giving") (T := T_Giving) (N := 6) hx hb hts w_i1 hown hK hP 0 rfl rfl 1 (by decide) w_f15 (fun _ h9 => h9) rfl d_Giving_moveOn_60 ?_
          refine lv_iload hx hb d_Giving_moveOn_63 (lv_at hl 4 rfl) ?_
          obtain ⟨h_65, hf⟩ := jin_some hf
          refine va_iald hx hb hK hP 2 0 rfl TY.1 h_65 d_Giving_moveOn_65 ?_
          refine lv_istore (lv' := [(4, .int (t_askedBy x4.toNatClampNeg)), (5, .int (t_given x4.toNatClampNeg)), (7, .int (t_given x4.toNatClampNeg)), (0, .ref h_t), (2, .int a2), (6, .int x6)]) hx hb d_Giving_moveOn_66 hl (by decide) rfl (fun ls hl => ?_)
          refine lv_iinc (v := (x6 + 1)) (lv' := [(6, .int (x6 + 1)), (4, .int (t_askedBy x4.toNatClampNeg)), (5, .int (t_given x4.toNatClampNeg)), (7, .int (t_given x4.toNatClampNeg)), (0, .ref h_t), (2, .int a2)]) hx hb d_Giving_moveOn_68 hl (k := 5) rfl rfl (by decide) rfl (fun ls hl => ?_)
          refine lv_goto (tgt := 21) hx hb d_Giving_moveOn_71 (by decide) ?_
          exact ih (t_askedBy x4.toNatClampNeg) (t_given x4.toNatClampNeg) (x6 + 1) t_used (upd t_given x4.toNatClampNeg x5) hf _ _ hP hD hS ls (lv_sub hl [4, 5, 1, 2, 0] rfl)
  unfold p_Giving_moveOn at hf
  refine lv_aload_n hx hb d_Giving_moveOn_0 rfl (lv_at hl 0 rfl) ?_
  refine lv_dup hx hb d_Giving_moveOn_1 rfl ?_
  refine va_get (D := D) (ci := 1) (v := .long t_used) (C := "RuleKernels$Giving") (T := T_Giving) (N := 6) hx hb hts w_i1 hown hK hP 0 rfl rfl 4 (by decide) w_f24 (fun _ h9 => h9) rfl d_Giving_moveOn_2 ?_
  refine lv_lconst (v := 1) hx hb d_Giving_moveOn_5 (by decide) ?_
  refine lv_iload_n hx hb d_Giving_moveOn_6 rfl (lv_at hl 3 rfl) ?_
  refine lv_lshl (v := (j_lshl (1 : Int64) a3)) hx hb d_Giving_moveOn_7 rfl ?_
  refine lv_lor hx hb d_Giving_moveOn_8 ?_
  refine va_put (D := D) (ci := 1) (v := .long (t_used ||| (j_lshl (1 : Int64) a3))) (ty := .long) (C := "RuleKernels$Giving") (T := T_Giving) (N := 6) hx hb hts w_i1 ty_Giving ty_Giving_ok nm_Giving hown hK hP hD hS 0 rfl rfl 4 (by decide) w_f24 (fun _ h9 => h9) rfl (by decide +kernel) rfl rfl (Nat.le_of_ble_eq_true rfl) d_Giving_moveOn_9 (fun H locs hP hD hS => ?_)
  have hP : va_P D vwCl [(h_t, .inr (1, [.ref h_t_given, .ref h_t_askedBy, .ref h_t_line, .ref h_t_reach, .long (t_used ||| (j_lshl (1 : Int64) a3)), .int t_movable])), (h_t_given, .inl (kI, 16, .inl t_given)), (h_t_askedBy, .inl (kI, 16, .inl t_askedBy))] H := hP
  have hD : va_D A [(h_t, .inr (1, [.ref h_t_given, .ref h_t_askedBy, .ref h_t_line, .ref h_t_reach, .long (t_used ||| (j_lshl (1 : Int64) a3)), .int t_movable])), (h_t_given, .inl (kI, 16, .inl t_given)), (h_t_askedBy, .inl (kI, 16, .inl t_askedBy))] := hD
  refine lv_iload_n hx hb d_Giving_moveOn_12 rfl (lv_at hl 1 rfl) ?_
  refine lv_istore (lv' := [(4, .int a1), (0, .ref h_t), (1, .int a1), (2, .int a2), (3, .int a3)]) hx hb d_Giving_moveOn_13 hl (by decide) rfl (fun ls hl => ?_)
  refine lv_iload_n hx hb d_Giving_moveOn_15 rfl (lv_at hl 4 rfl) ?_
  refine lv_istore (lv' := [(5, .int a3), (4, .int a1), (0, .ref h_t), (1, .int a1), (2, .int a2), (3, .int a3)]) hx hb d_Giving_moveOn_16 hl (by decide) rfl (fun ls hl => ?_)
  refine lv_iconst (v := 0) hx hb d_Giving_moveOn_18 (by decide) ?_
  refine lv_istore (lv' := [(6, .int (0 : Int32)), (5, .int a3), (4, .int a1), (0, .ref h_t), (1, .int a1), (2, .int a2), (3, .int a3)]) hx hb d_Giving_moveOn_19 hl (by decide) rfl (fun ls hl => ?_)
  exact L21  N a1 a3 (0 : Int32) (t_used ||| (j_lshl (1 : Int64) a3)) t_given hf _ _ hP hD hS ls (lv_sub hl [3, 5, 2, 1, 0] rfl)
set_option maxHeartbeats 4000000 in
set_option maxRecDepth 100000 in
theorem c_Giving_give {l : Launch} {D : va_G} {tys : List (ClassId × FieldType)} {kI kL kZ kR kM : ClassId} {N : Nat} {h_t h_t_given h_t_askedBy h_t_line h_p1 h_t_reach : Nat} {t_used : Int64} {t_movable : Int32} {t_given : Nat → Int32} {t_askedBy : Nat → Int32} {t_line : Nat → Int32} {p1_f : Nat → Int64} {a2 : Int32} {u : Int32 × Int64 × (Nat → Int32) × (Nat → Int32) × (Nat → Int32)} (TY : mTy tys kI kL kZ kR kM) (hf : p_Giving_give N t_used t_given t_askedBy t_line p1_f a2 = some u) (sz : Nat) : Met l y_Giving_give ws_Giving_give { frames := 2, cells := 0, slots := 0, locals := 43 } (mPre D tys [.ref h_t, .ref h_p1, .int a2] [(h_t, .inr (1, [.ref h_t_given, .ref h_t_askedBy, .ref h_t_line, .ref h_t_reach, .long t_used, .int t_movable])), (h_t_given, .inl (kI, 16, .inl t_given)), (h_t_askedBy, .inl (kI, 16, .inl t_askedBy)), (h_t_line, .inl (kI, 16, .inl t_line)), (h_p1, .inl (kL, 16, .inr (.inl p1_f)))] sz) (mPost D tys (fun _ : Unit => some (.int u.1)) [(h_t, .inr (1, [.ref h_t_given, .ref h_t_askedBy, .ref h_t_line, .ref h_t_reach, .long t_used, .int t_movable])), (h_t_given, .inl (kI, 16, .inl t_given)), (h_t_askedBy, .inl (kI, 16, .inl t_askedBy)), (h_t_line, .inl (kI, 16, .inl t_line)), (h_p1, .inl (kL, 16, .inr (.inl p1_f)))] (fun x : Unit => [(h_t, .inr (1, [.ref h_t_given, .ref h_t_askedBy, .ref h_t_line, .ref h_t_reach, .long u.2.1, .int t_movable])), (h_t_given, .inl (kI, 16, .inl u.2.2.1)), (h_t_askedBy, .inl (kI, 16, .inl u.2.2.2.1)), (h_t_line, .inl (kI, 16, .inl u.2.2.2.2)), (h_p1, .inl (kL, 16, .inr (.inl p1_f)))]) sz) 0 0 (va_A [(h_t, .inr (1, [.ref h_t_given, .ref h_t_askedBy, .ref h_t_line, .ref h_t_reach, .long t_used, .int t_movable])), (h_t_given, .inl (kI, 16, .inl t_given)), (h_t_askedBy, .inl (kI, 16, .inl t_askedBy)), (h_t_line, .inl (kI, 16, .inl t_line)), (h_p1, .inl (kL, 16, .inr (.inl p1_f)))] sz) := by
  refine m_ofW (cc := b_Giving_give) (maxL := 10) (ret := (some .boolean)) (by decide) rfl (Nat.le_of_ble_eq_true rfl) ?_ sz
  intro p e s m args below meth c ls Q A hx hb hml hr hts hown hin hlk hK hN hP hD hA hS hl hQ hAe
  have hown : s.vm.findClass "RuleKernels$Giving" = some m.cls := hown
  have hl : lv_has ls 10 [(0, .ref h_t), (1, .ref h_p1), (2, .int a2)] := hl
  have w_f15 := (hts _ (List.mem_cons_of_mem _ tw_118))
  have w_f18 := (hts _ (List.mem_cons_of_mem _ tw_119))
  have w_f24 := (hts _ (List.mem_cons_of_mem _ tw_121))
  have w_f9 := (hts _ (List.mem_cons_of_mem _ tw_117))
  have w_i1 := (fun q h => List.mem_cons_of_mem _ (i_Giving q h) : ∀ q ∈ u_ws "RuleKernels$Giving" T_Giving 6, q ∈ ws_Giving_give)
  have w_k36 := (hts _ (List.mem_cons_of_mem _ tw_374))
  have L158 : ∀ (K17 : Int32 → Int32 → Int32 → Int64 → (Nat → Int32) → (Nat → Int32) → (Nat → Int32) → Option (Int32 × Int64 × (Nat → Int32) × (Nat → Int32) × (Nat → Int32))), (∀ (x3 : Int32) (x4 : Int32) (x5 : Int32) (t_used : Int64) (t_given : Nat → Int32) (t_askedBy : Nat → Int32) (t_line : Nat → Int32), K17 x3 x4 x5 t_used t_given t_askedBy t_line = some u → ∀ (H : Heap) (locs : List Loc), va_P D vwCl [(h_t, .inr (1, [.ref h_t_given, .ref h_t_askedBy, .ref h_t_line, .ref h_t_reach, .long t_used, .int t_movable])), (h_t_given, .inl (kI, 16, .inl t_given)), (h_t_askedBy, .inl (kI, 16, .inl t_askedBy)), (h_t_line, .inl (kI, 16, .inl t_line)), (h_p1, .inl (kL, 16, .inr (.inl p1_f)))] H → va_D A [(h_t, .inr (1, [.ref h_t_given, .ref h_t_askedBy, .ref h_t_line, .ref h_t_reach, .long t_used, .int t_movable])), (h_t_given, .inl (kI, 16, .inl t_given)), (h_t_askedBy, .inl (kI, 16, .inl t_askedBy)), (h_t_line, .inl (kI, 16, .inl t_line)), (h_p1, .inl (kL, 16, .inr (.inl p1_f)))] → va_S A s.heap H locs → ∀ ls : Array Slot, lv_has ls 10 [(0, .ref h_t), (1, .ref h_p1), (2, .int a2), (3, .int x3), (4, .int x4), (5, .int x5)] → W p l e { frames := 2, cells := 0, slots := 0, locals := 43 } s m args below meth c H locs 0 0 Q (F0 m 17 ls [])) → ∀ (x3 : Int32) (x4 : Int32) (x5 : Int32) (t_used : Int64) (t_given : Nat → Int32) (t_askedBy : Nat → Int32) (t_line : Nat → Int32), q_Giving_give_158 N K17 x3 x4 x5 t_used t_given t_askedBy t_line = some u → ∀ (H : Heap) (locs : List Loc), va_P D vwCl [(h_t, .inr (1, [.ref h_t_given, .ref h_t_askedBy, .ref h_t_line, .ref h_t_reach, .long t_used, .int t_movable])), (h_t_given, .inl (kI, 16, .inl t_given)), (h_t_askedBy, .inl (kI, 16, .inl t_askedBy)), (h_t_line, .inl (kI, 16, .inl t_line)), (h_p1, .inl (kL, 16, .inr (.inl p1_f)))] H → va_D A [(h_t, .inr (1, [.ref h_t_given, .ref h_t_askedBy, .ref h_t_line, .ref h_t_reach, .long t_used, .int t_movable])), (h_t_given, .inl (kI, 16, .inl t_given)), (h_t_askedBy, .inl (kI, 16, .inl t_askedBy)), (h_t_line, .inl (kI, 16, .inl t_line)), (h_p1, .inl (kL, 16, .inr (.inl p1_f)))] → va_S A s.heap H locs → ∀ ls : Array Slot, lv_has ls 10 [(0, .ref h_t), (1, .ref h_p1), (2, .int a2), (3, .int x3), (4, .int x4), (5, .int x5)] → W p l e { frames := 2, cells := 0, slots := 0, locals := 43 } s m args below meth c H locs 0 0 Q (F0 m 158 ls []) := by
    intro K17 hK17 x3 x4 x5 t_used t_given t_askedBy t_line hf H locs hP hD hS ls hl
    unfold q_Giving_give_158 at hf
    refine lv_iinc (v := (x5 + 1)) (lv' := [(5, .int (x5 + 1)), (0, .ref h_t), (1, .ref h_p1), (2, .int a2), (3, .int x3), (4, .int x4)]) hx hb d_Giving_give_158 hl (k := 5) rfl rfl (by decide) rfl (fun ls hl => ?_)
    refine lv_goto (tgt := 17) hx hb d_Giving_give_161 (by decide) ?_
    exact hK17 x3 x4 (x5 + 1) t_used t_given t_askedBy t_line hf _ _ hP hD hS ls (lv_sub hl [1, 2, 3, 4, 5, 0] rfl)
  have L152 : ∀ (K81 : Int32 → Int32 → Int32 → Int32 → Int32 → Int64 → (Nat → Int32) → (Nat → Int32) → (Nat → Int32) → Option (Int32 × Int64 × (Nat → Int32) × (Nat → Int32) × (Nat → Int32))), (∀ (x3 : Int32) (x4 : Int32) (x5 : Int32) (x6 : Int32) (x9 : Int32) (t_used : Int64) (t_given : Nat → Int32) (t_askedBy : Nat → Int32) (t_line : Nat → Int32), K81 x3 x4 x5 x6 x9 t_used t_given t_askedBy t_line = some u → ∀ (H : Heap) (locs : List Loc), va_P D vwCl [(h_t, .inr (1, [.ref h_t_given, .ref h_t_askedBy, .ref h_t_line, .ref h_t_reach, .long t_used, .int t_movable])), (h_t_given, .inl (kI, 16, .inl t_given)), (h_t_askedBy, .inl (kI, 16, .inl t_askedBy)), (h_t_line, .inl (kI, 16, .inl t_line)), (h_p1, .inl (kL, 16, .inr (.inl p1_f)))] H → va_D A [(h_t, .inr (1, [.ref h_t_given, .ref h_t_askedBy, .ref h_t_line, .ref h_t_reach, .long t_used, .int t_movable])), (h_t_given, .inl (kI, 16, .inl t_given)), (h_t_askedBy, .inl (kI, 16, .inl t_askedBy)), (h_t_line, .inl (kI, 16, .inl t_line)), (h_p1, .inl (kL, 16, .inr (.inl p1_f)))] → va_S A s.heap H locs → ∀ ls : Array Slot, lv_has ls 10 [(0, .ref h_t), (1, .ref h_p1), (2, .int a2), (3, .int x3), (4, .int x4), (5, .int x5), (6, .int x6), (9, .int x9)] → W p l e { frames := 2, cells := 0, slots := 0, locals := 43 } s m args below meth c H locs 0 0 Q (F0 m 81 ls [])) → ∀ (x3 : Int32) (x4 : Int32) (x5 : Int32) (x6 : Int32) (x9 : Int32) (t_used : Int64) (t_given : Nat → Int32) (t_askedBy : Nat → Int32) (t_line : Nat → Int32), q_Giving_give_152 N K81 x3 x4 x5 x6 x9 t_used t_given t_askedBy t_line = some u → ∀ (H : Heap) (locs : List Loc), va_P D vwCl [(h_t, .inr (1, [.ref h_t_given, .ref h_t_askedBy, .ref h_t_line, .ref h_t_reach, .long t_used, .int t_movable])), (h_t_given, .inl (kI, 16, .inl t_given)), (h_t_askedBy, .inl (kI, 16, .inl t_askedBy)), (h_t_line, .inl (kI, 16, .inl t_line)), (h_p1, .inl (kL, 16, .inr (.inl p1_f)))] H → va_D A [(h_t, .inr (1, [.ref h_t_given, .ref h_t_askedBy, .ref h_t_line, .ref h_t_reach, .long t_used, .int t_movable])), (h_t_given, .inl (kI, 16, .inl t_given)), (h_t_askedBy, .inl (kI, 16, .inl t_askedBy)), (h_t_line, .inl (kI, 16, .inl t_line)), (h_p1, .inl (kL, 16, .inr (.inl p1_f)))] → va_S A s.heap H locs → ∀ ls : Array Slot, lv_has ls 10 [(0, .ref h_t), (1, .ref h_p1), (2, .int a2), (3, .int x3), (4, .int x4), (5, .int x5), (6, .int x6), (9, .int x9)] → W p l e { frames := 2, cells := 0, slots := 0, locals := 43 } s m args below meth c H locs 0 0 Q (F0 m 152 ls []) := by
    intro K81 hK81 x3 x4 x5 x6 x9 t_used t_given t_askedBy t_line hf H locs hP hD hS ls hl
    unfold q_Giving_give_152 at hf
    refine lv_iinc (v := (x9 + 1)) (lv' := [(9, .int (x9 + 1)), (0, .ref h_t), (1, .ref h_p1), (2, .int a2), (3, .int x3), (4, .int x4), (5, .int x5), (6, .int x6)]) hx hb d_Giving_give_152 hl (k := 7) rfl rfl (by decide) rfl (fun ls hl => ?_)
    refine lv_goto (tgt := 81) hx hb d_Giving_give_155 (by decide) ?_
    exact hK81 x3 x4 x5 x6 (x9 + 1) t_used t_given t_askedBy t_line hf _ _ hP hD hS ls (lv_sub hl [1, 2, 3, 4, 5, 6, 7, 0] rfl)
  have L81 : ∀ (K17 : Int32 → Int32 → Int32 → Int64 → (Nat → Int32) → (Nat → Int32) → (Nat → Int32) → Option (Int32 × Int64 × (Nat → Int32) × (Nat → Int32) × (Nat → Int32))), (∀ (x3 : Int32) (x4 : Int32) (x5 : Int32) (t_used : Int64) (t_given : Nat → Int32) (t_askedBy : Nat → Int32) (t_line : Nat → Int32), K17 x3 x4 x5 t_used t_given t_askedBy t_line = some u → ∀ (H : Heap) (locs : List Loc), va_P D vwCl [(h_t, .inr (1, [.ref h_t_given, .ref h_t_askedBy, .ref h_t_line, .ref h_t_reach, .long t_used, .int t_movable])), (h_t_given, .inl (kI, 16, .inl t_given)), (h_t_askedBy, .inl (kI, 16, .inl t_askedBy)), (h_t_line, .inl (kI, 16, .inl t_line)), (h_p1, .inl (kL, 16, .inr (.inl p1_f)))] H → va_D A [(h_t, .inr (1, [.ref h_t_given, .ref h_t_askedBy, .ref h_t_line, .ref h_t_reach, .long t_used, .int t_movable])), (h_t_given, .inl (kI, 16, .inl t_given)), (h_t_askedBy, .inl (kI, 16, .inl t_askedBy)), (h_t_line, .inl (kI, 16, .inl t_line)), (h_p1, .inl (kL, 16, .inr (.inl p1_f)))] → va_S A s.heap H locs → ∀ ls : Array Slot, lv_has ls 10 [(0, .ref h_t), (1, .ref h_p1), (2, .int a2), (3, .int x3), (4, .int x4), (5, .int x5)] → W p l e { frames := 2, cells := 0, slots := 0, locals := 43 } s m args below meth c H locs 0 0 Q (F0 m 17 ls [])) → ∀ n : Nat, ∀ (x3 : Int32) (x4 : Int32) (x5 : Int32) (x6 : Int32) (x9 : Int32) (t_used : Int64) (t_given : Nat → Int32) (t_askedBy : Nat → Int32) (t_line : Nat → Int32), q_Giving_give_81 N p1_f a2 K17 n x3 x4 x5 x6 x9 t_used t_given t_askedBy t_line = some u → ∀ (H : Heap) (locs : List Loc), va_P D vwCl [(h_t, .inr (1, [.ref h_t_given, .ref h_t_askedBy, .ref h_t_line, .ref h_t_reach, .long t_used, .int t_movable])), (h_t_given, .inl (kI, 16, .inl t_given)), (h_t_askedBy, .inl (kI, 16, .inl t_askedBy)), (h_t_line, .inl (kI, 16, .inl t_line)), (h_p1, .inl (kL, 16, .inr (.inl p1_f)))] H → va_D A [(h_t, .inr (1, [.ref h_t_given, .ref h_t_askedBy, .ref h_t_line, .ref h_t_reach, .long t_used, .int t_movable])), (h_t_given, .inl (kI, 16, .inl t_given)), (h_t_askedBy, .inl (kI, 16, .inl t_askedBy)), (h_t_line, .inl (kI, 16, .inl t_line)), (h_p1, .inl (kL, 16, .inr (.inl p1_f)))] → va_S A s.heap H locs → ∀ ls : Array Slot, lv_has ls 10 [(0, .ref h_t), (1, .ref h_p1), (2, .int a2), (3, .int x3), (4, .int x4), (5, .int x5), (6, .int x6), (9, .int x9)] → W p l e { frames := 2, cells := 0, slots := 0, locals := 43 } s m args below meth c H locs 0 0 Q (F0 m 81 ls []) := by
    intro K17 hK17 
    intro n
    induction n with
    | zero =>
      intro x3 x4 x5 x6 x9 t_used t_given t_askedBy t_line hf
      exact nomatch (show (none : Option (Int32 × Int64 × (Nat → Int32) × (Nat → Int32) × (Nat → Int32))) = some _ from hf)
    | succ n ih =>
      intro x3 x4 x5 x6 x9 t_used t_given t_askedBy t_line hf H locs hP hD hS ls hl
      rw [q_Giving_give_81] at hf
      refine lv_iload hx hb d_Giving_give_81 (lv_at hl 7 rfl) ?_
      refine lv_iload_n hx hb d_Giving_give_83 rfl (lv_at hl 2 rfl) ?_
      refine lv_icmp_ge (tgt := 158) hx hb d_Giving_give_84 (by decide) (fun c_84 => ?_) (fun c_84 => ?_)
      · replace hf := (if_pos c_84).symm.trans hf
        exact L158 K17 hK17 x3 x4 x5 t_used t_given t_askedBy t_line hf _ _ hP hD hS ls (lv_sub hl [0, 1, 2, 3, 4, 5] rfl)
      · replace hf := (if_neg c_84).symm.trans hf
        refine lv_iload_n hx hb d_Giving_give_87 rfl (lv_at hl 3 rfl) ?_
        refine lv_aload_n hx hb d_Giving_give_88 rfl (lv_at hl 0 rfl) ?_
        refine va_get (D := D) (ci := 1) (v := .ref h_t_line) (C := "RuleKernels$Giving") (T := T_Giving) (N := 6) hx hb hts w_i1 hown hK hP 0 rfl rfl 2 (by decide) w_f18 (fun _ h9 => h9) rfl d_Giving_give_89 ?_
        refine va_alen (v := nI 16) hx hb hK hP 3 0 rfl TY.1 rfl d_Giving_give_92 ?_
        refine lv_icmp_ge (tgt := 158) hx hb d_Giving_give_93 (by decide) (fun c_93 => ?_) (fun c_93 => ?_)
        · replace hf := (if_pos c_93).symm.trans hf
          exact L158 K17 hK17 x3 x4 x5 t_used t_given t_askedBy t_line hf _ _ hP hD hS ls (lv_sub hl [0, 1, 2, 3, 4, 5] rfl)
        · replace hf := (if_neg c_93).symm.trans hf
          refine lv_iload hx hb d_Giving_give_96 (lv_at hl 4 rfl) ?_
          refine lv_iload hx hb d_Giving_give_98 (lv_at hl 7 rfl) ?_
          refine lv_iushr (v := (j_iushr x4 x9)) hx hb d_Giving_give_100 rfl ?_
          refine lv_iconst (v := 1) hx hb d_Giving_give_101 (by decide) ?_
          refine lv_iand hx hb d_Giving_give_102 ?_
          refine lv_if_ne (tgt := 152) hx hb d_Giving_give_103 (by decide) (fun c_103 => ?_) (fun c_103 => ?_)
          · replace hf := (if_neg c_103).symm.trans hf
            exact L152 _ ih x3 x4 x5 x6 x9 t_used t_given t_askedBy t_line hf _ _ hP hD hS ls (lv_sub hl [0, 1, 2, 3, 4, 5, 6, 7] rfl)
          · replace hf := (if_pos c_103).symm.trans hf
            refine lv_aload_n hx hb d_Giving_give_106 rfl (lv_at hl 1 rfl) ?_
            refine lv_iload hx hb d_Giving_give_107 (lv_at hl 6 rfl) ?_
            obtain ⟨h_109, hf⟩ := jin_some hf
            refine va_lald hx hb hK hP 4 1 rfl TY.2.1 h_109 d_Giving_give_109 ?_
            refine lv_aload_n hx hb d_Giving_give_110 rfl (lv_at hl 0 rfl) ?_
            refine va_get (D := D) (ci := 1) (v := .ref h_t_given) (C := "RuleKernels$Giving") (T := T_Giving) (N := 6) hx hb hts w_i1 hown hK hP 0 rfl rfl 0 (by decide) w_f9 (fun _ h9 => h9) rfl d_Giving_give_111 ?_
            refine lv_iload hx hb d_Giving_give_114 (lv_at hl 7 rfl) ?_
            obtain ⟨h_116, hf⟩ := jin_some hf
            refine va_iald hx hb hK hP 1 0 rfl TY.1 h_116 d_Giving_give_116 ?_
            obtain ⟨r_117, hc_117, hf⟩ := jb hf
            refine m_call (wc := []) (wr := [(h_t, .inr (1, [.ref h_t_given, .ref h_t_askedBy, .ref h_t_line, .ref h_t_reach, .long t_used, .int t_movable])), (h_t_given, .inl (kI, 16, .inl t_given)), (h_t_askedBy, .inl (kI, 16, .inl t_askedBy)), (h_t_line, .inl (kI, 16, .inl t_line)), (h_p1, .inl (kL, 16, .inr (.inl p1_f)))]) (w1 := fun x : Unit => []) (wn := fun x : Unit => [(h_t, .inr (1, [.ref h_t_given, .ref h_t_askedBy, .ref h_t_line, .ref h_t_reach, .long t_used, .int t_movable])), (h_t_given, .inl (kI, 16, .inl t_given)), (h_t_askedBy, .inl (kI, 16, .inl t_askedBy)), (h_t_line, .inl (kI, 16, .inl t_line)), (h_p1, .inl (kL, 16, .inr (.inl p1_f)))]) (o := fun _ : Unit => some (.int r_117)) (va_runSN (As := [.long (p1_f x6.toNatClampNeg), .int (t_given x9.toNatClampNeg)]) (rest := []) ⟨hx, hb, hml, hown, hts⟩ (c_RK_has (a0 := (p1_f x6.toNatClampNeg)) (a2 := (t_given x9.toNatClampNeg)) (u := r_117) TY hc_117 _) ⟨va_cnB 2 hts (gT tc_RK_has) rfl rfl rfl (mN_1 hN) (hts _ (List.mem_cons_of_mem _ tw_41)) (by decide +kernel) ⟨Nat.le_of_ble_eq_true rfl, Nat.le_of_ble_eq_true rfl⟩, (hts _ (List.mem_cons_of_mem _ tw_302)), trivial⟩ (m_preS hK hN hP hD [] rfl (by decide) _) rfl rfl hl.1 rfl (lv_room (Nat.le_of_ble_eq_true rfl)) d_Giving_give_117 ⟨Nat.le_of_ble_eq_true rfl, Nat.le_of_ble_eq_true rfl⟩) hP hD hS hA [] [0, 1, 2, 3, 4] [0, 1, 2, 3, 4] rfl rfl (by decide) (by decide) (by decide) (fun _ => rfl) (fun x H locs hP hD hS => ?_)
            have hP : va_P D vwCl [(h_t, .inr (1, [.ref h_t_given, .ref h_t_askedBy, .ref h_t_line, .ref h_t_reach, .long t_used, .int t_movable])), (h_t_given, .inl (kI, 16, .inl t_given)), (h_t_askedBy, .inl (kI, 16, .inl t_askedBy)), (h_t_line, .inl (kI, 16, .inl t_line)), (h_p1, .inl (kL, 16, .inr (.inl p1_f)))] H := hP
            have hD : va_D A [(h_t, .inr (1, [.ref h_t_given, .ref h_t_askedBy, .ref h_t_line, .ref h_t_reach, .long t_used, .int t_movable])), (h_t_given, .inl (kI, 16, .inl t_given)), (h_t_askedBy, .inl (kI, 16, .inl t_askedBy)), (h_t_line, .inl (kI, 16, .inl t_line)), (h_p1, .inl (kL, 16, .inr (.inl p1_f)))] := hD
            refine W.eq (g2 := F0 m 120 ls [.int r_117]) rfl ?_
            refine lv_if_eq (tgt := 152) hx hb d_Giving_give_120 (by decide) (fun c_120 => ?_) (fun c_120 => ?_)
            · replace hf := (if_pos c_120).symm.trans hf
              exact L152 _ ih x3 x4 x5 x6 x9 t_used t_given t_askedBy t_line hf _ _ hP hD hS ls (lv_sub hl [0, 1, 2, 3, 4, 5, 6, 7] rfl)
            · replace hf := (if_neg c_120).symm.trans hf
              refine lv_iload hx hb d_Giving_give_123 (lv_at hl 4 rfl) ?_
              refine lv_iconst (v := 1) hx hb d_Giving_give_125 (by decide) ?_
              refine lv_iload hx hb d_Giving_give_126 (lv_at hl 7 rfl) ?_
              refine lv_ishl hx hb d_Giving_give_128 ?_
              refine lv_ior hx hb d_Giving_give_129 ?_
              refine lv_istore (lv' := [(4, .int (x4 ||| ((1 : Int32) <<< (x9 &&& 31)))), (0, .ref h_t), (1, .ref h_p1), (2, .int a2), (3, .int x3), (5, .int x5), (6, .int x6), (9, .int x9)]) hx hb d_Giving_give_130 hl (by decide) rfl (fun ls hl => ?_)
              refine lv_aload_n hx hb d_Giving_give_132 rfl (lv_at hl 1 rfl) ?_
              refine va_get (D := D) (ci := 1) (v := .ref h_t_askedBy) (C := "RuleKernels$Giving") (T := T_Giving) (N := 6) hx hb hts w_i1 hown hK hP 0 rfl rfl 1 (by decide) w_f15 (fun _ h9 => h9) rfl d_Giving_give_133 ?_
              refine lv_iload hx hb d_Giving_give_136 (lv_at hl 7 rfl) ?_
              refine lv_iload hx hb d_Giving_give_138 (lv_at hl 6 rfl) ?_
              obtain ⟨h_140, hf⟩ := jin_some hf
              refine va_iast hx hb hK hP hD hS 2 0 rfl TY.1 h_140 d_Giving_give_140 (fun H locs hP hD hS => ?_)
              have hP : va_P D vwCl [(h_t, .inr (1, [.ref h_t_given, .ref h_t_askedBy, .ref h_t_line, .ref h_t_reach, .long t_used, .int t_movable])), (h_t_given, .inl (kI, 16, .inl t_given)), (h_t_askedBy, .inl (kI, 16, .inl (upd t_askedBy x9.toNatClampNeg x6))), (h_t_line, .inl (kI, 16, .inl t_line)), (h_p1, .inl (kL, 16, .inr (.inl p1_f)))] H := hP
              have hD : va_D A [(h_t, .inr (1, [.ref h_t_given, .ref h_t_askedBy, .ref h_t_line, .ref h_t_reach, .long t_used, .int t_movable])), (h_t_given, .inl (kI, 16, .inl t_given)), (h_t_askedBy, .inl (kI, 16, .inl (upd t_askedBy x9.toNatClampNeg x6))), (h_t_line, .inl (kI, 16, .inl t_line)), (h_p1, .inl (kL, 16, .inr (.inl p1_f)))] := hD
              refine lv_aload_n hx hb d_Giving_give_141 rfl (lv_at hl 1 rfl) ?_
              refine va_get (D := D) (ci := 1) (v := .ref h_t_line) (C := "RuleKernels$Giving") (T := T_Giving) (N := 6) hx hb hts w_i1 hown hK hP 0 rfl rfl 2 (by decide) w_f18 (fun _ h9 => h9) rfl d_Giving_give_142 ?_
              refine lv_iload_n hx hb d_Giving_give_145 rfl (lv_at hl 4 rfl) ?_
              refine lv_iload hx hb d_Giving_give_146 (lv_at hl 7 rfl) ?_
              obtain ⟨h_148, hf⟩ := jin_some hf
              refine va_iast hx hb hK hP hD hS 3 0 rfl TY.1 h_148 d_Giving_give_148 (fun H locs hP hD hS => ?_)
              have hP : va_P D vwCl [(h_t, .inr (1, [.ref h_t_given, .ref h_t_askedBy, .ref h_t_line, .ref h_t_reach, .long t_used, .int t_movable])), (h_t_given, .inl (kI, 16, .inl t_given)), (h_t_askedBy, .inl (kI, 16, .inl (upd t_askedBy x9.toNatClampNeg x6))), (h_t_line, .inl (kI, 16, .inl (upd t_line x3.toNatClampNeg x9))), (h_p1, .inl (kL, 16, .inr (.inl p1_f)))] H := hP
              have hD : va_D A [(h_t, .inr (1, [.ref h_t_given, .ref h_t_askedBy, .ref h_t_line, .ref h_t_reach, .long t_used, .int t_movable])), (h_t_given, .inl (kI, 16, .inl t_given)), (h_t_askedBy, .inl (kI, 16, .inl (upd t_askedBy x9.toNatClampNeg x6))), (h_t_line, .inl (kI, 16, .inl (upd t_line x3.toNatClampNeg x9))), (h_p1, .inl (kL, 16, .inr (.inl p1_f)))] := hD
              refine lv_iinc (v := (x3 + 1)) (lv' := [(3, .int (x3 + 1)), (4, .int (x4 ||| ((1 : Int32) <<< (x9 &&& 31)))), (0, .ref h_t), (1, .ref h_p1), (2, .int a2), (5, .int x5), (6, .int x6), (9, .int x9)]) hx hb d_Giving_give_149 hl (k := 4) rfl rfl (by decide) rfl (fun ls hl => ?_)
              exact L152 _ ih (x3 + 1) (x4 ||| ((1 : Int32) <<< (x9 &&& 31))) x5 x6 x9 t_used t_given (upd t_askedBy x9.toNatClampNeg x6) (upd t_line x3.toNatClampNeg x9) hf _ _ hP hD hS ls (lv_sub hl [2, 3, 4, 0, 1, 5, 6, 7] rfl)
  have L64 : ∀ (x6 : Int32) (x7 : Int64) (t_used : Int64) (t_given : Nat → Int32) (t_askedBy : Nat → Int32) (t_line : Nat → Int32), q_Giving_give_64 N a2 x6 x7 t_used t_given t_askedBy t_line = some u → ∀ (H : Heap) (locs : List Loc), va_P D vwCl [(h_t, .inr (1, [.ref h_t_given, .ref h_t_askedBy, .ref h_t_line, .ref h_t_reach, .long t_used, .int t_movable])), (h_t_given, .inl (kI, 16, .inl t_given)), (h_t_askedBy, .inl (kI, 16, .inl t_askedBy)), (h_t_line, .inl (kI, 16, .inl t_line)), (h_p1, .inl (kL, 16, .inr (.inl p1_f)))] H → va_D A [(h_t, .inr (1, [.ref h_t_given, .ref h_t_askedBy, .ref h_t_line, .ref h_t_reach, .long t_used, .int t_movable])), (h_t_given, .inl (kI, 16, .inl t_given)), (h_t_askedBy, .inl (kI, 16, .inl t_askedBy)), (h_t_line, .inl (kI, 16, .inl t_line)), (h_p1, .inl (kL, 16, .inr (.inl p1_f)))] → va_S A s.heap H locs → ∀ ls : Array Slot, lv_has ls 10 [(0, .ref h_t), (2, .int a2), (6, .int x6), (7, .long x7)] → W p l e { frames := 2, cells := 0, slots := 0, locals := 43 } s m args below meth c H locs 0 0 Q (F0 m 64 ls []) := by
    intro x6 x7 t_used t_given t_askedBy t_line hf H locs hP hD hS ls hl
    unfold q_Giving_give_64 at hf
    refine lv_aload_n hx hb d_Giving_give_64 rfl (lv_at hl 0 rfl) ?_
    refine lv_iload hx hb d_Giving_give_65 (lv_at hl 2 rfl) ?_
    refine lv_iload_n hx hb d_Giving_give_67 rfl (lv_at hl 1 rfl) ?_
    refine lv_lload hx hb d_Giving_give_68 (lv_at hl 3 rfl) ?_
    obtain ⟨r_70, hc_70, hf⟩ := jb hf
    refine m_call (wc := []) (wr := [(h_t, .inr (1, [.ref h_t_given, .ref h_t_askedBy, .ref h_t_line, .ref h_t_reach, .long t_used, .int t_movable])), (h_t_given, .inl (kI, 16, .inl t_given)), (h_t_askedBy, .inl (kI, 16, .inl t_askedBy)), (h_t_line, .inl (kI, 16, .inl t_line)), (h_p1, .inl (kL, 16, .inr (.inl p1_f)))]) (w1 := fun x : Unit => []) (wn := fun x : Unit => [(h_t, .inr (1, [.ref h_t_given, .ref h_t_askedBy, .ref h_t_line, .ref h_t_reach, .long t_used, .int t_movable])), (h_t_given, .inl (kI, 16, .inl t_given)), (h_t_askedBy, .inl (kI, 16, .inl t_askedBy)), (h_t_line, .inl (kI, 16, .inl t_line)), (h_p1, .inl (kL, 16, .inr (.inl p1_f)))]) (o := fun _ : Unit => some (.int r_70)) (va_runS (As := [.long x7]) (rest := [.int a2, .int x6, .ref h_t]) ⟨hx, hb, hml, hown, hts⟩ (c_Lon_numberOfTrailingZeros (a0 := x7) (u := r_70) TY hc_70 _) (va_cwS 1 hts (gS tw_375 tw_376 tw_52 tc_Lon_numberOfTrailingZeros) rfl rfl rfl (by decide +kernel) ⟨Nat.le_of_ble_eq_true rfl, Nat.le_of_ble_eq_true rfl⟩) (m_preS hK hN hP hD [] rfl (by decide) _) rfl rfl hl.1 rfl (lv_room (Nat.le_of_ble_eq_true rfl)) d_Giving_give_70 ⟨Nat.le_of_ble_eq_true rfl, Nat.le_of_ble_eq_true rfl⟩) hP hD hS hA [] [0, 1, 2, 3, 4] [0, 1, 2, 3, 4] rfl rfl (by decide) (by decide) (by decide) (fun _ => rfl) (fun x H locs hP hD hS => ?_)
    have hP : va_P D vwCl [(h_t, .inr (1, [.ref h_t_given, .ref h_t_askedBy, .ref h_t_line, .ref h_t_reach, .long t_used, .int t_movable])), (h_t_given, .inl (kI, 16, .inl t_given)), (h_t_askedBy, .inl (kI, 16, .inl t_askedBy)), (h_t_line, .inl (kI, 16, .inl t_line)), (h_p1, .inl (kL, 16, .inr (.inl p1_f)))] H := hP
    have hD : va_D A [(h_t, .inr (1, [.ref h_t_given, .ref h_t_askedBy, .ref h_t_line, .ref h_t_reach, .long t_used, .int t_movable])), (h_t_given, .inl (kI, 16, .inl t_given)), (h_t_askedBy, .inl (kI, 16, .inl t_askedBy)), (h_t_line, .inl (kI, 16, .inl t_line)), (h_p1, .inl (kL, 16, .inr (.inl p1_f)))] := hD
    refine W.eq (g2 := F0 m 73 ls [.int r_70, .int a2, .int x6, .ref h_t]) rfl ?_
    obtain ⟨⟨t_used_73, t_given_73⟩, hc_73, hf⟩ := jb hf
    refine m_call (wc := [(h_t, .inr (1, [.ref h_t_given, .ref h_t_askedBy, .ref h_t_line, .ref h_t_reach, .long t_used, .int t_movable])), (h_t_given, .inl (kI, 16, .inl t_given)), (h_t_askedBy, .inl (kI, 16, .inl t_askedBy))]) (wr := [(h_t_line, .inl (kI, 16, .inl t_line)), (h_p1, .inl (kL, 16, .inr (.inl p1_f)))]) (w1 := fun x : Unit => [(h_t, .inr (1, [.ref h_t_given, .ref h_t_askedBy, .ref h_t_line, .ref h_t_reach, .long t_used_73, .int t_movable])), (h_t_given, .inl (kI, 16, .inl t_given_73)), (h_t_askedBy, .inl (kI, 16, .inl t_askedBy))]) (wn := fun x : Unit => [(h_t, .inr (1, [.ref h_t_given, .ref h_t_askedBy, .ref h_t_line, .ref h_t_reach, .long t_used_73, .int t_movable])), (h_t_given, .inl (kI, 16, .inl t_given_73)), (h_t_askedBy, .inl (kI, 16, .inl t_askedBy)), (h_t_line, .inl (kI, 16, .inl t_line)), (h_p1, .inl (kL, 16, .inr (.inl p1_f)))]) (o := fun _ : Unit => none) (va_runV (As := [.int x6, .int a2, .int r_70]) (rest := []) ⟨hx, hb, hml, hown, hts⟩ (c_Giving_moveOn (h_t := h_t) (h_t_given := h_t_given) (h_t_askedBy := h_t_askedBy) (h_t_line := h_t_line) (h_t_reach := h_t_reach) (t_used := t_used) (t_movable := t_movable) (t_given := t_given) (t_askedBy := t_askedBy) (a1 := x6) (a2 := a2) (a3 := r_70) (u := (t_used_73, t_given_73)) TY hc_73 _) (cwV 3 hts (gV tw_382 tw_384 tw_8 tw_46 tc_Giving_moveOn) rfl rfl rfl (by decide +kernel) ⟨Nat.le_of_ble_eq_true rfl, Nat.le_of_ble_eq_true rfl⟩) (m_preV hK hN hP hD [0, 1, 2] rfl (by decide) (ci := 1) (q0 := 0) rfl rfl _) rfl rfl hl.1 rfl (lv_room (Nat.le_of_ble_eq_true rfl)) d_Giving_give_73 ⟨Nat.le_of_ble_eq_true rfl, Nat.le_of_ble_eq_true rfl⟩) hP hD hS hA [0, 1, 2] [3, 4] [2, 3, 4, 0, 1] rfl rfl (by decide) (by decide) (by decide) (fun _ => rfl) (fun x H locs hP hD hS => ?_)
    have hP : va_P D vwCl [(h_t, .inr (1, [.ref h_t_given, .ref h_t_askedBy, .ref h_t_line, .ref h_t_reach, .long t_used_73, .int t_movable])), (h_t_given, .inl (kI, 16, .inl t_given_73)), (h_t_askedBy, .inl (kI, 16, .inl t_askedBy)), (h_t_line, .inl (kI, 16, .inl t_line)), (h_p1, .inl (kL, 16, .inr (.inl p1_f)))] H := hP
    have hD : va_D A [(h_t, .inr (1, [.ref h_t_given, .ref h_t_askedBy, .ref h_t_line, .ref h_t_reach, .long t_used_73, .int t_movable])), (h_t_given, .inl (kI, 16, .inl t_given_73)), (h_t_askedBy, .inl (kI, 16, .inl t_askedBy)), (h_t_line, .inl (kI, 16, .inl t_line)), (h_p1, .inl (kL, 16, .inr (.inl p1_f)))] := hD
    refine W.eq (g2 := F0 m 76 ls []) rfl ?_
    refine lv_iconst (v := 1) hx hb d_Giving_give_76 (by decide) ?_
    have hu := Option.some.inj hf
    exact m_retz () hx hb hr hlk hK (by rw [← hu]; exact hP) (by rw [← hu]; exact hD) hS hQ hAe rfl (by rw [← hu]) (Nat.le_of_ble_eq_true rfl) (Nat.le_of_ble_eq_true rfl) d_Giving_give_77
  have L17 : ∀ n : Nat, ∀ (x3 : Int32) (x4 : Int32) (x5 : Int32) (t_used : Int64) (t_given : Nat → Int32) (t_askedBy : Nat → Int32) (t_line : Nat → Int32), q_Giving_give_17 N p1_f a2 n x3 x4 x5 t_used t_given t_askedBy t_line = some u → ∀ (H : Heap) (locs : List Loc), va_P D vwCl [(h_t, .inr (1, [.ref h_t_given, .ref h_t_askedBy, .ref h_t_line, .ref h_t_reach, .long t_used, .int t_movable])), (h_t_given, .inl (kI, 16, .inl t_given)), (h_t_askedBy, .inl (kI, 16, .inl t_askedBy)), (h_t_line, .inl (kI, 16, .inl t_line)), (h_p1, .inl (kL, 16, .inr (.inl p1_f)))] H → va_D A [(h_t, .inr (1, [.ref h_t_given, .ref h_t_askedBy, .ref h_t_line, .ref h_t_reach, .long t_used, .int t_movable])), (h_t_given, .inl (kI, 16, .inl t_given)), (h_t_askedBy, .inl (kI, 16, .inl t_askedBy)), (h_t_line, .inl (kI, 16, .inl t_line)), (h_p1, .inl (kL, 16, .inr (.inl p1_f)))] → va_S A s.heap H locs → ∀ ls : Array Slot, lv_has ls 10 [(0, .ref h_t), (1, .ref h_p1), (2, .int a2), (3, .int x3), (4, .int x4), (5, .int x5)] → W p l e { frames := 2, cells := 0, slots := 0, locals := 43 } s m args below meth c H locs 0 0 Q (F0 m 17 ls []) := by
    intro n
    induction n with
    | zero =>
      intro x3 x4 x5 t_used t_given t_askedBy t_line hf
      exact nomatch (show (none : Option (Int32 × Int64 × (Nat → Int32) × (Nat → Int32) × (Nat → Int32))) = some _ from hf)
    | succ n ih =>
      intro x3 x4 x5 t_used t_given t_askedBy t_line hf H locs hP hD hS ls hl
      rw [q_Giving_give_17] at hf
      refine lv_iload hx hb d_Giving_give_17 (lv_at hl 5 rfl) ?_
      refine lv_iload_n hx hb d_Giving_give_19 rfl (lv_at hl 3 rfl) ?_
      refine lv_icmp_ge (tgt := 164) hx hb d_Giving_give_20 (by decide) (fun c_20 => ?_) (fun c_20 => ?_)
      · replace hf := (if_pos c_20).symm.trans hf
        refine lv_iconst (v := 0) hx hb d_Giving_give_164 (by decide) ?_
        have hu := Option.some.inj hf
        exact m_retz () hx hb hr hlk hK (by rw [← hu]; exact hP) (by rw [← hu]; exact hD) hS hQ hAe rfl (by rw [← hu]) (Nat.le_of_ble_eq_true rfl) (Nat.le_of_ble_eq_true rfl) d_Giving_give_165
      · replace hf := (if_neg c_20).symm.trans hf
        refine lv_iload hx hb d_Giving_give_23 (lv_at hl 5 rfl) ?_
        refine lv_aload_n hx hb d_Giving_give_25 rfl (lv_at hl 0 rfl) ?_
        refine va_get (D := D) (ci := 1) (v := .ref h_t_line) (C := "RuleKernels$Giving") (T := T_Giving) (N := 6) hx hb hts w_i1 hown hK hP 0 rfl rfl 2 (by decide) w_f18 (fun _ h9 => h9) rfl d_Giving_give_26 ?_
        refine va_alen (v := nI 16) hx hb hK hP 3 0 rfl TY.1 rfl d_Giving_give_29 ?_
        refine lv_icmp_ge (tgt := 164) hx hb d_Giving_give_30 (by decide) (fun c_30 => ?_) (fun c_30 => ?_)
        · replace hf := (if_pos c_30).symm.trans hf
          refine lv_iconst (v := 0) hx hb d_Giving_give_164 (by decide) ?_
          have hu := Option.some.inj hf
          exact m_retz () hx hb hr hlk hK (by rw [← hu]; exact hP) (by rw [← hu]; exact hD) hS hQ hAe rfl (by rw [← hu]) (Nat.le_of_ble_eq_true rfl) (Nat.le_of_ble_eq_true rfl) d_Giving_give_165
        · replace hf := (if_neg c_30).symm.trans hf
          refine lv_aload_n hx hb d_Giving_give_33 rfl (lv_at hl 0 rfl) ?_
          refine va_get (D := D) (ci := 1) (v := .ref h_t_line) (C := "RuleKernels$Giving") (T := T_Giving) (N := 6) hx hb hts w_i1 hown hK hP 0 rfl rfl 2 (by decide) w_f18 (fun _ h9 => h9) rfl d_Giving_give_34 ?_
          refine lv_iload hx hb d_Giving_give_37 (lv_at hl 5 rfl) ?_
          obtain ⟨h_39, hf⟩ := jin_some hf
          refine va_iald hx hb hK hP 3 0 rfl TY.1 h_39 d_Giving_give_39 ?_
          refine lv_istore (lv' := [(6, .int (t_line x5.toNatClampNeg)), (0, .ref h_t), (1, .ref h_p1), (2, .int a2), (3, .int x3), (4, .int x4), (5, .int x5)]) hx hb d_Giving_give_40 hl (by decide) rfl (fun ls hl => ?_)
          refine lv_aload_n hx hb d_Giving_give_42 rfl (lv_at hl 2 rfl) ?_
          refine lv_iload hx hb d_Giving_give_43 (lv_at hl 0 rfl) ?_
          obtain ⟨h_45, hf⟩ := jin_some hf
          refine va_lald hx hb hK hP 4 1 rfl TY.2.1 h_45 d_Giving_give_45 ?_
          refine lv_aload_n hx hb d_Giving_give_46 rfl (lv_at hl 1 rfl) ?_
          refine va_get (D := D) (ci := 1) (v := .long t_used) (C := "RuleKernels$Giving") (T := T_Giving) (N := 6) hx hb hts w_i1 hown hK hP 0 rfl rfl 4 (by decide) w_f24 (fun _ h9 => h9) rfl d_Giving_give_47 ?_
          refine lv_ldc2 (v := -1) hx hb hown w_k36 d_Giving_give_50 ?_
          refine lv_lxor hx hb d_Giving_give_53 ?_
          refine lv_land hx hb d_Giving_give_54 ?_
          refine lv_lstore (lv' := [(7, .long ((p1_f (t_line x5.toNatClampNeg).toNatClampNeg) &&& (t_used ^^^ (-1 : Int64)))), (6, .int (t_line x5.toNatClampNeg)), (0, .ref h_t), (1, .ref h_p1), (2, .int a2), (3, .int x3), (4, .int x4), (5, .int x5)]) hx hb d_Giving_give_55 hl (by decide) rfl (fun ls hl => ?_)
          refine lv_lload hx hb d_Giving_give_57 (lv_at hl 0 rfl) ?_
          refine lv_lconst (v := 0) hx hb d_Giving_give_59 (by decide) ?_
          refine W.lcmp hx hb d_Giving_give_60 ?_
          refine lv_if_eq (tgt := 78) hx hb d_Giving_give_61 (by decide) (fun c_61 => ?_) (fun c_61 => ?_)
          · replace hf := (if_pos c_61).symm.trans hf
            refine lv_iconst (v := 0) hx hb d_Giving_give_78 (by decide) ?_
            refine lv_istore (lv' := [(9, .int (0 : Int32)), (7, .long ((p1_f (t_line x5.toNatClampNeg).toNatClampNeg) &&& (t_used ^^^ (-1 : Int64)))), (6, .int (t_line x5.toNatClampNeg)), (0, .ref h_t), (1, .ref h_p1), (2, .int a2), (3, .int x3), (4, .int x4), (5, .int x5)]) hx hb d_Giving_give_79 hl (by decide) rfl (fun ls hl => ?_)
            exact L81 _ ih N x3 x4 x5 (t_line x5.toNatClampNeg) (0 : Int32) t_used t_given t_askedBy t_line hf _ _ hP hD hS ls (lv_sub hl [3, 4, 5, 6, 7, 8, 2, 0] rfl)
          · replace hf := (if_neg c_61).symm.trans hf
            exact L64  (t_line x5.toNatClampNeg) ((p1_f (t_line x5.toNatClampNeg).toNatClampNeg) &&& (t_used ^^^ (-1 : Int64))) t_used t_given t_askedBy t_line hf _ _ hP hD hS ls (lv_sub hl [2, 4, 1, 0] rfl)
  unfold p_Giving_give at hf
  refine lv_aload_n hx hb d_Giving_give_0 rfl (lv_at hl 0 rfl) ?_
  refine va_get (D := D) (ci := 1) (v := .ref h_t_line) (C := "RuleKernels$Giving") (T := T_Giving) (N := 6) hx hb hts w_i1 hown hK hP 0 rfl rfl 2 (by decide) w_f18 (fun _ h9 => h9) rfl d_Giving_give_1 ?_
  refine lv_iconst (v := 0) hx hb d_Giving_give_4 (by decide) ?_
  refine lv_iload_n hx hb d_Giving_give_5 rfl (lv_at hl 2 rfl) ?_
  obtain ⟨h_6, hf⟩ := jin_some hf
  refine va_iast hx hb hK hP hD hS 3 0 rfl TY.1 h_6 d_Giving_give_6 (fun H locs hP hD hS => ?_)
  have hP : va_P D vwCl [(h_t, .inr (1, [.ref h_t_given, .ref h_t_askedBy, .ref h_t_line, .ref h_t_reach, .long t_used, .int t_movable])), (h_t_given, .inl (kI, 16, .inl t_given)), (h_t_askedBy, .inl (kI, 16, .inl t_askedBy)), (h_t_line, .inl (kI, 16, .inl (upd t_line (0 : Int32).toNatClampNeg a2))), (h_p1, .inl (kL, 16, .inr (.inl p1_f)))] H := hP
  have hD : va_D A [(h_t, .inr (1, [.ref h_t_given, .ref h_t_askedBy, .ref h_t_line, .ref h_t_reach, .long t_used, .int t_movable])), (h_t_given, .inl (kI, 16, .inl t_given)), (h_t_askedBy, .inl (kI, 16, .inl t_askedBy)), (h_t_line, .inl (kI, 16, .inl (upd t_line (0 : Int32).toNatClampNeg a2))), (h_p1, .inl (kL, 16, .inr (.inl p1_f)))] := hD
  refine lv_iconst (v := 1) hx hb d_Giving_give_7 (by decide) ?_
  refine lv_istore_n (lv' := [(3, .int (1 : Int32)), (0, .ref h_t), (1, .ref h_p1), (2, .int a2)]) hx hb d_Giving_give_8 rfl hl (by decide) rfl (fun ls hl => ?_)
  refine lv_iconst (v := 1) hx hb d_Giving_give_9 (by decide) ?_
  refine lv_iload_n hx hb d_Giving_give_10 rfl (lv_at hl 3 rfl) ?_
  refine lv_ishl hx hb d_Giving_give_11 ?_
  refine lv_istore (lv' := [(4, .int ((1 : Int32) <<< (a2 &&& 31))), (3, .int (1 : Int32)), (0, .ref h_t), (1, .ref h_p1), (2, .int a2)]) hx hb d_Giving_give_12 hl (by decide) rfl (fun ls hl => ?_)
  refine lv_iconst (v := 0) hx hb d_Giving_give_14 (by decide) ?_
  refine lv_istore (lv' := [(5, .int (0 : Int32)), (4, .int ((1 : Int32) <<< (a2 &&& 31))), (3, .int (1 : Int32)), (0, .ref h_t), (1, .ref h_p1), (2, .int a2)]) hx hb d_Giving_give_15 hl (by decide) rfl (fun ls hl => ?_)
  exact L17  N (1 : Int32) ((1 : Int32) <<< (a2 &&& 31)) (0 : Int32) t_used t_given t_askedBy (upd t_line (0 : Int32).toNatClampNeg a2) hf _ _ hP hD hS ls (lv_sub hl [3, 4, 5, 2, 1, 0] rfl)
set_option maxHeartbeats 4000000 in
set_option maxRecDepth 100000 in
theorem c_Giving_giveAll {l : Launch} {D : va_G} {tys : List (ClassId × FieldType)} {kI kL kZ kR kM : ClassId} {N : Nat} {h_t h_t_given h_t_askedBy h_t_line h_p1 h_t_reach : Nat} {t_used : Int64} {t_movable : Int32} {t_given : Nat → Int32} {t_askedBy : Nat → Int32} {t_line : Nat → Int32} {p1_f : Nat → Int64} {a2 : Int32} {u : Int32 × Int64 × (Nat → Int32) × (Nat → Int32) × (Nat → Int32)} (TY : mTy tys kI kL kZ kR kM) (hf : p_Giving_giveAll N t_given t_askedBy t_line p1_f a2 = some u) (sz : Nat) : Met l y_Giving_giveAll ws_Giving_giveAll { frames := 3, cells := 0, slots := 0, locals := 72 } (mPre D tys [.ref h_t, .ref h_p1, .int a2] [(h_t, .inr (1, [.ref h_t_given, .ref h_t_askedBy, .ref h_t_line, .ref h_t_reach, .long t_used, .int t_movable])), (h_t_given, .inl (kI, 16, .inl t_given)), (h_t_askedBy, .inl (kI, 16, .inl t_askedBy)), (h_t_line, .inl (kI, 16, .inl t_line)), (h_p1, .inl (kL, 16, .inr (.inl p1_f)))] sz) (mPost D tys (fun _ : Unit => some (.int u.1)) [(h_t, .inr (1, [.ref h_t_given, .ref h_t_askedBy, .ref h_t_line, .ref h_t_reach, .long t_used, .int t_movable])), (h_t_given, .inl (kI, 16, .inl t_given)), (h_t_askedBy, .inl (kI, 16, .inl t_askedBy)), (h_t_line, .inl (kI, 16, .inl t_line)), (h_p1, .inl (kL, 16, .inr (.inl p1_f)))] (fun x : Unit => [(h_t, .inr (1, [.ref h_t_given, .ref h_t_askedBy, .ref h_t_line, .ref h_t_reach, .long u.2.1, .int t_movable])), (h_t_given, .inl (kI, 16, .inl u.2.2.1)), (h_t_askedBy, .inl (kI, 16, .inl u.2.2.2.1)), (h_t_line, .inl (kI, 16, .inl u.2.2.2.2)), (h_p1, .inl (kL, 16, .inr (.inl p1_f)))]) sz) 0 0 (va_A [(h_t, .inr (1, [.ref h_t_given, .ref h_t_askedBy, .ref h_t_line, .ref h_t_reach, .long t_used, .int t_movable])), (h_t_given, .inl (kI, 16, .inl t_given)), (h_t_askedBy, .inl (kI, 16, .inl t_askedBy)), (h_t_line, .inl (kI, 16, .inl t_line)), (h_p1, .inl (kL, 16, .inr (.inl p1_f)))] sz) := by
  refine m_ofW (cc := b_Giving_giveAll) (maxL := 4) (ret := (some .boolean)) (by decide) rfl (Nat.le_of_ble_eq_true rfl) ?_ sz
  intro p e s m args below meth c ls Q A hx hb hml hr hts hown hin hlk hK hN hP hD hA hS hl hQ hAe
  have hown : s.vm.findClass "RuleKernels$Giving" = some m.cls := hown
  have hl : lv_has ls 4 [(0, .ref h_t), (1, .ref h_p1), (2, .int a2)] := hl
  have w_f24 := (hts _ (List.mem_cons_of_mem _ tw_121))
  have w_i1 := (fun q h => List.mem_cons_of_mem _ (i_Giving q h) : ∀ q ∈ u_ws "RuleKernels$Giving" T_Giving 6, q ∈ ws_Giving_giveAll)
  have L7 : ∀ n : Nat, ∀ (x3 : Int32) (t_used : Int64) (t_given : Nat → Int32) (t_askedBy : Nat → Int32) (t_line : Nat → Int32), q_Giving_giveAll_7 N p1_f a2 n x3 t_used t_given t_askedBy t_line = some u → ∀ (H : Heap) (locs : List Loc), va_P D vwCl [(h_t, .inr (1, [.ref h_t_given, .ref h_t_askedBy, .ref h_t_line, .ref h_t_reach, .long t_used, .int t_movable])), (h_t_given, .inl (kI, 16, .inl t_given)), (h_t_askedBy, .inl (kI, 16, .inl t_askedBy)), (h_t_line, .inl (kI, 16, .inl t_line)), (h_p1, .inl (kL, 16, .inr (.inl p1_f)))] H → va_D A [(h_t, .inr (1, [.ref h_t_given, .ref h_t_askedBy, .ref h_t_line, .ref h_t_reach, .long t_used, .int t_movable])), (h_t_given, .inl (kI, 16, .inl t_given)), (h_t_askedBy, .inl (kI, 16, .inl t_askedBy)), (h_t_line, .inl (kI, 16, .inl t_line)), (h_p1, .inl (kL, 16, .inr (.inl p1_f)))] → va_S A s.heap H locs → ∀ ls : Array Slot, lv_has ls 4 [(0, .ref h_t), (1, .ref h_p1), (2, .int a2), (3, .int x3)] → W p l e { frames := 3, cells := 0, slots := 0, locals := 72 } s m args below meth c H locs 0 0 Q (F0 m 7 ls []) := by
    intro n
    induction n with
    | zero =>
      intro x3 t_used t_given t_askedBy t_line hf
      exact nomatch (show (none : Option (Int32 × Int64 × (Nat → Int32) × (Nat → Int32) × (Nat → Int32))) = some _ from hf)
    | succ n ih =>
      intro x3 t_used t_given t_askedBy t_line hf H locs hP hD hS ls hl
      rw [q_Giving_giveAll_7] at hf
      refine lv_iload_n hx hb d_Giving_giveAll_7 rfl (lv_at hl 3 rfl) ?_
      refine lv_iload_n hx hb d_Giving_giveAll_8 rfl (lv_at hl 2 rfl) ?_
      refine lv_icmp_ge (tgt := 29) hx hb d_Giving_giveAll_9 (by decide) (fun c_9 => ?_) (fun c_9 => ?_)
      · replace hf := (if_pos c_9).symm.trans hf
        refine lv_iconst (v := 1) hx hb d_Giving_giveAll_29 (by decide) ?_
        have hu := Option.some.inj hf
        exact m_retz () hx hb hr hlk hK (by rw [← hu]; exact hP) (by rw [← hu]; exact hD) hS hQ hAe rfl (by rw [← hu]) (Nat.le_of_ble_eq_true rfl) (Nat.le_of_ble_eq_true rfl) d_Giving_giveAll_30
      · replace hf := (if_neg c_9).symm.trans hf
        refine lv_aload_n hx hb d_Giving_giveAll_12 rfl (lv_at hl 0 rfl) ?_
        refine lv_aload_n hx hb d_Giving_giveAll_13 rfl (lv_at hl 1 rfl) ?_
        refine lv_iload_n hx hb d_Giving_giveAll_14 rfl (lv_at hl 3 rfl) ?_
        obtain ⟨⟨r_15, t_used_15, t_given_15, t_askedBy_15, t_line_15⟩, hc_15, hf⟩ := jb hf
        refine m_call (wc := [(h_t, .inr (1, [.ref h_t_given, .ref h_t_askedBy, .ref h_t_line, .ref h_t_reach, .long t_used, .int t_movable])), (h_t_given, .inl (kI, 16, .inl t_given)), (h_t_askedBy, .inl (kI, 16, .inl t_askedBy)), (h_t_line, .inl (kI, 16, .inl t_line)), (h_p1, .inl (kL, 16, .inr (.inl p1_f)))]) (wr := []) (w1 := fun x : Unit => [(h_t, .inr (1, [.ref h_t_given, .ref h_t_askedBy, .ref h_t_line, .ref h_t_reach, .long t_used_15, .int t_movable])), (h_t_given, .inl (kI, 16, .inl t_given_15)), (h_t_askedBy, .inl (kI, 16, .inl t_askedBy_15)), (h_t_line, .inl (kI, 16, .inl t_line_15)), (h_p1, .inl (kL, 16, .inr (.inl p1_f)))]) (wn := fun x : Unit => [(h_t, .inr (1, [.ref h_t_given, .ref h_t_askedBy, .ref h_t_line, .ref h_t_reach, .long t_used_15, .int t_movable])), (h_t_given, .inl (kI, 16, .inl t_given_15)), (h_t_askedBy, .inl (kI, 16, .inl t_askedBy_15)), (h_t_line, .inl (kI, 16, .inl t_line_15)), (h_p1, .inl (kL, 16, .inr (.inl p1_f)))]) (o := fun _ : Unit => some (.int r_15)) (va_runV (As := [.ref h_p1, .int x3]) (rest := []) ⟨hx, hb, hml, hown, hts⟩ (c_Giving_give (h_t := h_t) (h_t_given := h_t_given) (h_t_askedBy := h_t_askedBy) (h_t_line := h_t_line) (h_p1 := h_p1) (h_t_reach := h_t_reach) (t_used := t_used) (t_movable := t_movable) (t_given := t_given) (t_askedBy := t_askedBy) (t_line := t_line) (p1_f := p1_f) (a2 := x3) (u := (r_15, t_used_15, t_given_15, t_askedBy_15, t_line_15)) TY hc_15 _) (cwV 2 hts (gV tw_370 tw_372 tw_7 tw_46 tc_Giving_give) rfl rfl rfl (by decide +kernel) ⟨Nat.le_of_ble_eq_true rfl, Nat.le_of_ble_eq_true rfl⟩) (m_preV hK hN hP hD [0, 1, 2, 3, 4] rfl (by decide) (ci := 1) (q0 := 0) rfl rfl _) rfl rfl hl.1 rfl (lv_room (Nat.le_of_ble_eq_true rfl)) d_Giving_giveAll_15 ⟨Nat.le_of_ble_eq_true rfl, Nat.le_of_ble_eq_true rfl⟩) hP hD hS hA [0, 1, 2, 3, 4] [] [0, 1, 2, 3, 4] rfl rfl (by decide) (by decide) (by decide) (fun _ => rfl) (fun x H locs hP hD hS => ?_)
        have hP : va_P D vwCl [(h_t, .inr (1, [.ref h_t_given, .ref h_t_askedBy, .ref h_t_line, .ref h_t_reach, .long t_used_15, .int t_movable])), (h_t_given, .inl (kI, 16, .inl t_given_15)), (h_t_askedBy, .inl (kI, 16, .inl t_askedBy_15)), (h_t_line, .inl (kI, 16, .inl t_line_15)), (h_p1, .inl (kL, 16, .inr (.inl p1_f)))] H := hP
        have hD : va_D A [(h_t, .inr (1, [.ref h_t_given, .ref h_t_askedBy, .ref h_t_line, .ref h_t_reach, .long t_used_15, .int t_movable])), (h_t_given, .inl (kI, 16, .inl t_given_15)), (h_t_askedBy, .inl (kI, 16, .inl t_askedBy_15)), (h_t_line, .inl (kI, 16, .inl t_line_15)), (h_p1, .inl (kL, 16, .inr (.inl p1_f)))] := hD
        refine W.eq (g2 := F0 m 18 ls [.int r_15]) rfl ?_
        refine lv_if_ne (tgt := 23) hx hb d_Giving_giveAll_18 (by decide) (fun c_18 => ?_) (fun c_18 => ?_)
        · replace hf := (if_neg c_18).symm.trans hf
          refine lv_iinc (v := (x3 + 1)) (lv' := [(3, .int (x3 + 1)), (0, .ref h_t), (1, .ref h_p1), (2, .int a2)]) hx hb d_Giving_giveAll_23 hl (k := 3) rfl rfl (by decide) rfl (fun ls hl => ?_)
          refine lv_goto (tgt := 7) hx hb d_Giving_giveAll_26 (by decide) ?_
          exact ih (x3 + 1) t_used_15 t_given_15 t_askedBy_15 t_line_15 hf _ _ hP hD hS ls (lv_sub hl [1, 2, 3, 0] rfl)
        · replace hf := (if_pos c_18).symm.trans hf
          refine lv_iconst (v := 0) hx hb d_Giving_giveAll_21 (by decide) ?_
          have hu := Option.some.inj hf
          exact m_retz () hx hb hr hlk hK (by rw [← hu]; exact hP) (by rw [← hu]; exact hD) hS hQ hAe rfl (by rw [← hu]) (Nat.le_of_ble_eq_true rfl) (Nat.le_of_ble_eq_true rfl) d_Giving_giveAll_22
  unfold p_Giving_giveAll at hf
  refine lv_aload_n hx hb d_Giving_giveAll_0 rfl (lv_at hl 0 rfl) ?_
  refine lv_lconst (v := 0) hx hb d_Giving_giveAll_1 (by decide) ?_
  refine va_put (D := D) (ci := 1) (v := .long (0 : Int64)) (ty := .long) (C := "RuleKernels$Giving") (T := T_Giving) (N := 6) hx hb hts w_i1 ty_Giving ty_Giving_ok nm_Giving hown hK hP hD hS 0 rfl rfl 4 (by decide) w_f24 (fun _ h9 => h9) rfl (by decide +kernel) rfl rfl (Nat.le_of_ble_eq_true rfl) d_Giving_giveAll_2 (fun H locs hP hD hS => ?_)
  have hP : va_P D vwCl [(h_t, .inr (1, [.ref h_t_given, .ref h_t_askedBy, .ref h_t_line, .ref h_t_reach, .long (0 : Int64), .int t_movable])), (h_t_given, .inl (kI, 16, .inl t_given)), (h_t_askedBy, .inl (kI, 16, .inl t_askedBy)), (h_t_line, .inl (kI, 16, .inl t_line)), (h_p1, .inl (kL, 16, .inr (.inl p1_f)))] H := hP
  have hD : va_D A [(h_t, .inr (1, [.ref h_t_given, .ref h_t_askedBy, .ref h_t_line, .ref h_t_reach, .long (0 : Int64), .int t_movable])), (h_t_given, .inl (kI, 16, .inl t_given)), (h_t_askedBy, .inl (kI, 16, .inl t_askedBy)), (h_t_line, .inl (kI, 16, .inl t_line)), (h_p1, .inl (kL, 16, .inr (.inl p1_f)))] := hD
  refine lv_iconst (v := 0) hx hb d_Giving_giveAll_5 (by decide) ?_
  refine lv_istore_n (lv' := [(3, .int (0 : Int32)), (0, .ref h_t), (1, .ref h_p1), (2, .int a2)]) hx hb d_Giving_giveAll_6 rfl hl (by decide) rfl (fun ls hl => ?_)
  exact L7  N (0 : Int32) (0 : Int64) t_given t_askedBy t_line hf _ _ hP hD hS ls (lv_sub hl [1, 2, 3, 0] rfl)
set_option maxHeartbeats 4000000 in
set_option maxRecDepth 100000 in
theorem c_Giving_findReach {l : Launch} {D : va_G} {tys : List (ClassId × FieldType)} {kI kL kZ kR kM : ClassId} {N : Nat} {h_t h_t_given h_t_reach h_p1 h_t_askedBy h_t_line : Nat} {t_used : Int64} {t_movable : Int32} {t_given : Nat → Int32} {t_reach : Nat → Int32} {p1_f : Nat → Int64} {a2 : Int32} {u : Int32 × (Nat → Int32)} (TY : mTy tys kI kL kZ kR kM) (hf : p_Giving_findReach N t_used t_given t_reach p1_f a2 = some u) (sz : Nat) : Met l y_Giving_findReach ws_Giving_findReach { frames := 1, cells := 0, slots := 0, locals := 22 } (mPre D tys [.ref h_t, .ref h_p1, .int a2] [(h_t, .inr (1, [.ref h_t_given, .ref h_t_askedBy, .ref h_t_line, .ref h_t_reach, .long t_used, .int t_movable])), (h_t_given, .inl (kI, 16, .inl t_given)), (h_t_reach, .inl (kI, 16, .inl t_reach)), (h_p1, .inl (kL, 16, .inr (.inl p1_f)))] sz) (mPost D tys (fun _ : Unit => none) [(h_t, .inr (1, [.ref h_t_given, .ref h_t_askedBy, .ref h_t_line, .ref h_t_reach, .long t_used, .int t_movable])), (h_t_given, .inl (kI, 16, .inl t_given)), (h_t_reach, .inl (kI, 16, .inl t_reach)), (h_p1, .inl (kL, 16, .inr (.inl p1_f)))] (fun x : Unit => [(h_t, .inr (1, [.ref h_t_given, .ref h_t_askedBy, .ref h_t_line, .ref h_t_reach, .long t_used, .int u.1])), (h_t_given, .inl (kI, 16, .inl t_given)), (h_t_reach, .inl (kI, 16, .inl u.2)), (h_p1, .inl (kL, 16, .inr (.inl p1_f)))]) sz) 0 0 (va_A [(h_t, .inr (1, [.ref h_t_given, .ref h_t_askedBy, .ref h_t_line, .ref h_t_reach, .long t_used, .int t_movable])), (h_t_given, .inl (kI, 16, .inl t_given)), (h_t_reach, .inl (kI, 16, .inl t_reach)), (h_p1, .inl (kL, 16, .inr (.inl p1_f)))] sz) := by
  refine m_ofW (cc := b_Giving_findReach) (maxL := 5) (ret := none) (by decide) rfl (Nat.le_of_ble_eq_true rfl) ?_ sz
  intro p e s m args below meth c ls Q A hx hb hml hr hts hown hin hlk hK hN hP hD hA hS hl hQ hAe
  have hown : s.vm.findClass "RuleKernels$Giving" = some m.cls := hown
  have hl : lv_has ls 5 [(0, .ref h_t), (1, .ref h_p1), (2, .int a2)] := hl
  have w_f21 := (hts _ (List.mem_cons_of_mem _ tw_120))
  have w_f24 := (hts _ (List.mem_cons_of_mem _ tw_121))
  have w_f28 := (hts _ (List.mem_cons_of_mem _ tw_122))
  have w_f9 := (hts _ (List.mem_cons_of_mem _ tw_117))
  have w_i1 := (fun q h => List.mem_cons_of_mem _ (i_Giving q h) : ∀ q ∈ u_ws "RuleKernels$Giving" T_Giving 6, q ∈ ws_Giving_findReach)
  have w_k36 := (hts _ (List.mem_cons_of_mem _ tw_374))
  have L162 : ∀ (K108 : Int32 → Int32 → (Nat → Int32) → Option (Int32 × (Nat → Int32))), (∀ (x3 : Int32) (t_movable : Int32) (t_reach : Nat → Int32), K108 x3 t_movable t_reach = some u → ∀ (H : Heap) (locs : List Loc), va_P D vwCl [(h_t, .inr (1, [.ref h_t_given, .ref h_t_askedBy, .ref h_t_line, .ref h_t_reach, .long t_used, .int t_movable])), (h_t_given, .inl (kI, 16, .inl t_given)), (h_t_reach, .inl (kI, 16, .inl t_reach)), (h_p1, .inl (kL, 16, .inr (.inl p1_f)))] H → va_D A [(h_t, .inr (1, [.ref h_t_given, .ref h_t_askedBy, .ref h_t_line, .ref h_t_reach, .long t_used, .int t_movable])), (h_t_given, .inl (kI, 16, .inl t_given)), (h_t_reach, .inl (kI, 16, .inl t_reach)), (h_p1, .inl (kL, 16, .inr (.inl p1_f)))] → va_S A s.heap H locs → ∀ ls : Array Slot, lv_has ls 5 [(0, .ref h_t), (2, .int a2), (3, .int x3)] → W p l e { frames := 1, cells := 0, slots := 0, locals := 22 } s m args below meth c H locs 0 0 Q (F0 m 108 ls [])) → ∀ (x3 : Int32) (t_movable : Int32) (t_reach : Nat → Int32), q_Giving_findReach_162 N K108 x3 t_movable t_reach = some u → ∀ (H : Heap) (locs : List Loc), va_P D vwCl [(h_t, .inr (1, [.ref h_t_given, .ref h_t_askedBy, .ref h_t_line, .ref h_t_reach, .long t_used, .int t_movable])), (h_t_given, .inl (kI, 16, .inl t_given)), (h_t_reach, .inl (kI, 16, .inl t_reach)), (h_p1, .inl (kL, 16, .inr (.inl p1_f)))] H → va_D A [(h_t, .inr (1, [.ref h_t_given, .ref h_t_askedBy, .ref h_t_line, .ref h_t_reach, .long t_used, .int t_movable])), (h_t_given, .inl (kI, 16, .inl t_given)), (h_t_reach, .inl (kI, 16, .inl t_reach)), (h_p1, .inl (kL, 16, .inr (.inl p1_f)))] → va_S A s.heap H locs → ∀ ls : Array Slot, lv_has ls 5 [(0, .ref h_t), (2, .int a2), (3, .int x3)] → W p l e { frames := 1, cells := 0, slots := 0, locals := 22 } s m args below meth c H locs 0 0 Q (F0 m 162 ls []) := by
    intro K108 hK108 x3 t_movable t_reach hf H locs hP hD hS ls hl
    unfold q_Giving_findReach_162 at hf
    refine lv_iinc (v := (x3 + 1)) (lv' := [(3, .int (x3 + 1)), (0, .ref h_t), (2, .int a2)]) hx hb d_Giving_findReach_162 hl (k := 2) rfl rfl (by decide) rfl (fun ls hl => ?_)
    refine lv_goto (tgt := 108) hx hb d_Giving_findReach_165 (by decide) ?_
    exact hK108 (x3 + 1) t_movable t_reach hf _ _ hP hD hS ls (lv_sub hl [1, 2, 0] rfl)
  have L154 : ∀ (K116 : Int32 → Int32 → Int32 → (Nat → Int32) → Option (Int32 × (Nat → Int32))), (∀ (x3 : Int32) (x4 : Int32) (t_movable : Int32) (t_reach : Nat → Int32), K116 x3 x4 t_movable t_reach = some u → ∀ (H : Heap) (locs : List Loc), va_P D vwCl [(h_t, .inr (1, [.ref h_t_given, .ref h_t_askedBy, .ref h_t_line, .ref h_t_reach, .long t_used, .int t_movable])), (h_t_given, .inl (kI, 16, .inl t_given)), (h_t_reach, .inl (kI, 16, .inl t_reach)), (h_p1, .inl (kL, 16, .inr (.inl p1_f)))] H → va_D A [(h_t, .inr (1, [.ref h_t_given, .ref h_t_askedBy, .ref h_t_line, .ref h_t_reach, .long t_used, .int t_movable])), (h_t_given, .inl (kI, 16, .inl t_given)), (h_t_reach, .inl (kI, 16, .inl t_reach)), (h_p1, .inl (kL, 16, .inr (.inl p1_f)))] → va_S A s.heap H locs → ∀ ls : Array Slot, lv_has ls 5 [(0, .ref h_t), (2, .int a2), (3, .int x3), (4, .int x4)] → W p l e { frames := 1, cells := 0, slots := 0, locals := 22 } s m args below meth c H locs 0 0 Q (F0 m 116 ls [])) → ∀ (x3 : Int32) (x4 : Int32) (z0 : Int32) (z1 : Int32) (z2 : Int32) (t_movable : Int32) (t_reach : Nat → Int32), q_Giving_findReach_154 N K116 x3 x4 z0 z1 z2 t_movable t_reach = some u → ∀ (H : Heap) (locs : List Loc), va_P D vwCl [(h_t, .inr (1, [.ref h_t_given, .ref h_t_askedBy, .ref h_t_line, .ref h_t_reach, .long t_used, .int t_movable])), (h_t_given, .inl (kI, 16, .inl t_given)), (h_t_reach, .inl (kI, 16, .inl t_reach)), (h_p1, .inl (kL, 16, .inr (.inl p1_f)))] H → va_D A [(h_t, .inr (1, [.ref h_t_given, .ref h_t_askedBy, .ref h_t_line, .ref h_t_reach, .long t_used, .int t_movable])), (h_t_given, .inl (kI, 16, .inl t_given)), (h_t_reach, .inl (kI, 16, .inl t_reach)), (h_p1, .inl (kL, 16, .inr (.inl p1_f)))] → va_S A s.heap H locs → ∀ ls : Array Slot, lv_has ls 5 [(0, .ref h_t), (2, .int a2), (3, .int x3), (4, .int x4)] → W p l e { frames := 1, cells := 0, slots := 0, locals := 22 } s m args below meth c H locs 0 0 Q (F0 m 154 ls [.int z0, .int z1, .int z2, .ref h_t_reach]) := by
    intro K116 hK116 x3 x4 z0 z1 z2 t_movable t_reach hf H locs hP hD hS ls hl
    unfold q_Giving_findReach_154 at hf
    refine lv_ior hx hb d_Giving_findReach_154 ?_
    obtain ⟨h_155, hf⟩ := jin_some hf
    refine va_iast hx hb hK hP hD hS 2 0 rfl TY.1 h_155 d_Giving_findReach_155 (fun H locs hP hD hS => ?_)
    have hP : va_P D vwCl [(h_t, .inr (1, [.ref h_t_given, .ref h_t_askedBy, .ref h_t_line, .ref h_t_reach, .long t_used, .int t_movable])), (h_t_given, .inl (kI, 16, .inl t_given)), (h_t_reach, .inl (kI, 16, .inl (upd t_reach z2.toNatClampNeg (z1 ||| z0)))), (h_p1, .inl (kL, 16, .inr (.inl p1_f)))] H := hP
    have hD : va_D A [(h_t, .inr (1, [.ref h_t_given, .ref h_t_askedBy, .ref h_t_line, .ref h_t_reach, .long t_used, .int t_movable])), (h_t_given, .inl (kI, 16, .inl t_given)), (h_t_reach, .inl (kI, 16, .inl (upd t_reach z2.toNatClampNeg (z1 ||| z0)))), (h_p1, .inl (kL, 16, .inr (.inl p1_f)))] := hD
    refine lv_iinc (v := (x4 + 1)) (lv' := [(4, .int (x4 + 1)), (0, .ref h_t), (2, .int a2), (3, .int x3)]) hx hb d_Giving_findReach_156 hl (k := 3) rfl rfl (by decide) rfl (fun ls hl => ?_)
    refine lv_goto (tgt := 116) hx hb d_Giving_findReach_159 (by decide) ?_
    exact hK116 x3 (x4 + 1) t_movable (upd t_reach z2.toNatClampNeg (z1 ||| z0)) hf _ _ hP hD hS ls (lv_sub hl [1, 2, 3, 0] rfl)
  have L116 : ∀ (K108 : Int32 → Int32 → (Nat → Int32) → Option (Int32 × (Nat → Int32))), (∀ (x3 : Int32) (t_movable : Int32) (t_reach : Nat → Int32), K108 x3 t_movable t_reach = some u → ∀ (H : Heap) (locs : List Loc), va_P D vwCl [(h_t, .inr (1, [.ref h_t_given, .ref h_t_askedBy, .ref h_t_line, .ref h_t_reach, .long t_used, .int t_movable])), (h_t_given, .inl (kI, 16, .inl t_given)), (h_t_reach, .inl (kI, 16, .inl t_reach)), (h_p1, .inl (kL, 16, .inr (.inl p1_f)))] H → va_D A [(h_t, .inr (1, [.ref h_t_given, .ref h_t_askedBy, .ref h_t_line, .ref h_t_reach, .long t_used, .int t_movable])), (h_t_given, .inl (kI, 16, .inl t_given)), (h_t_reach, .inl (kI, 16, .inl t_reach)), (h_p1, .inl (kL, 16, .inr (.inl p1_f)))] → va_S A s.heap H locs → ∀ ls : Array Slot, lv_has ls 5 [(0, .ref h_t), (2, .int a2), (3, .int x3)] → W p l e { frames := 1, cells := 0, slots := 0, locals := 22 } s m args below meth c H locs 0 0 Q (F0 m 108 ls [])) → ∀ n : Nat, ∀ (x3 : Int32) (x4 : Int32) (t_movable : Int32) (t_reach : Nat → Int32), q_Giving_findReach_116 N a2 K108 n x3 x4 t_movable t_reach = some u → ∀ (H : Heap) (locs : List Loc), va_P D vwCl [(h_t, .inr (1, [.ref h_t_given, .ref h_t_askedBy, .ref h_t_line, .ref h_t_reach, .long t_used, .int t_movable])), (h_t_given, .inl (kI, 16, .inl t_given)), (h_t_reach, .inl (kI, 16, .inl t_reach)), (h_p1, .inl (kL, 16, .inr (.inl p1_f)))] H → va_D A [(h_t, .inr (1, [.ref h_t_given, .ref h_t_askedBy, .ref h_t_line, .ref h_t_reach, .long t_used, .int t_movable])), (h_t_given, .inl (kI, 16, .inl t_given)), (h_t_reach, .inl (kI, 16, .inl t_reach)), (h_p1, .inl (kL, 16, .inr (.inl p1_f)))] → va_S A s.heap H locs → ∀ ls : Array Slot, lv_has ls 5 [(0, .ref h_t), (2, .int a2), (3, .int x3), (4, .int x4)] → W p l e { frames := 1, cells := 0, slots := 0, locals := 22 } s m args below meth c H locs 0 0 Q (F0 m 116 ls []) := by
    intro K108 hK108 
    intro n
    induction n with
    | zero =>
      intro x3 x4 t_movable t_reach hf
      exact nomatch (show (none : Option (Int32 × (Nat → Int32))) = some _ from hf)
    | succ n ih =>
      intro x3 x4 t_movable t_reach hf H locs hP hD hS ls hl
      rw [q_Giving_findReach_116] at hf
      refine lv_iload hx hb d_Giving_findReach_116 (lv_at hl 3 rfl) ?_
      refine lv_iload_n hx hb d_Giving_findReach_118 rfl (lv_at hl 1 rfl) ?_
      refine lv_icmp_ge (tgt := 162) hx hb d_Giving_findReach_119 (by decide) (fun c_119 => ?_) (fun c_119 => ?_)
      · replace hf := (if_pos c_119).symm.trans hf
        exact L162 K108 hK108 x3 t_movable t_reach hf _ _ hP hD hS ls (lv_sub hl [0, 1, 2] rfl)
      · replace hf := (if_neg c_119).symm.trans hf
        refine lv_aload_n hx hb d_Giving_findReach_122 rfl (lv_at hl 0 rfl) ?_
        refine va_get (D := D) (ci := 1) (v := .ref h_t_reach) (C := "RuleKernels$Giving") (T := T_Giving) (N := 6) hx hb hts w_i1 hown hK hP 0 rfl rfl 3 (by decide) w_f21 (fun _ h9 => h9) rfl d_Giving_findReach_123 ?_
        refine lv_iload hx hb d_Giving_findReach_126 (lv_at hl 3 rfl) ?_
        refine lv_dup2_11 hx hb d_Giving_findReach_128 rfl rfl ?_
        obtain ⟨h_129, hf⟩ := jin_some hf
        refine va_iald hx hb hK hP 2 0 rfl TY.1 h_129 d_Giving_findReach_129 ?_
        refine lv_aload_n hx hb d_Giving_findReach_130 rfl (lv_at hl 0 rfl) ?_
        refine va_get (D := D) (ci := 1) (v := .ref h_t_reach) (C := "RuleKernels$Giving") (T := T_Giving) (N := 6) hx hb hts w_i1 hown hK hP 0 rfl rfl 3 (by decide) w_f21 (fun _ h9 => h9) rfl d_Giving_findReach_131 ?_
        refine lv_iload hx hb d_Giving_findReach_134 (lv_at hl 3 rfl) ?_
        obtain ⟨h_136, hf⟩ := jin_some hf
        refine va_iald hx hb hK hP 2 0 rfl TY.1 h_136 d_Giving_findReach_136 ?_
        refine lv_iload_n hx hb d_Giving_findReach_137 rfl (lv_at hl 2 rfl) ?_
        refine lv_iushr (v := (j_iushr (t_reach x4.toNatClampNeg) x3)) hx hb d_Giving_findReach_138 rfl ?_
        refine lv_iconst (v := 1) hx hb d_Giving_findReach_139 (by decide) ?_
        refine lv_iand hx hb d_Giving_findReach_140 ?_
        refine lv_if_eq (tgt := 153) hx hb d_Giving_findReach_141 (by decide) (fun c_141 => ?_) (fun c_141 => ?_)
        · replace hf := (if_pos c_141).symm.trans hf
          refine lv_iconst (v := 0) hx hb d_Giving_findReach_153 (by decide) ?_
          exact L154 _ ih x3 x4 (0 : Int32) (t_reach x4.toNatClampNeg) x4 t_movable t_reach hf _ _ hP hD hS ls (lv_sub hl [0, 1, 2, 3] rfl)
        · replace hf := (if_neg c_141).symm.trans hf
          refine lv_aload_n hx hb d_Giving_findReach_144 rfl (lv_at hl 0 rfl) ?_
          refine va_get (D := D) (ci := 1) (v := .ref h_t_reach) (C := "RuleKernels$Giving") (T := T_Giving) (N := 6) hx hb hts w_i1 hown hK hP 0 rfl rfl 3 (by decide) w_f21 (fun _ h9 => h9) rfl d_Giving_findReach_145 ?_
          refine lv_iload_n hx hb d_Giving_findReach_148 rfl (lv_at hl 2 rfl) ?_
          obtain ⟨h_149, hf⟩ := jin_some hf
          refine va_iald hx hb hK hP 2 0 rfl TY.1 h_149 d_Giving_findReach_149 ?_
          refine lv_goto (tgt := 154) hx hb d_Giving_findReach_150 (by decide) ?_
          exact L154 _ ih x3 x4 (t_reach x3.toNatClampNeg) (t_reach x4.toNatClampNeg) x4 t_movable t_reach hf _ _ hP hD hS ls (lv_sub hl [0, 1, 2, 3] rfl)
  have L108 : ∀ n : Nat, ∀ (x3 : Int32) (t_movable : Int32) (t_reach : Nat → Int32), q_Giving_findReach_108 N a2 n x3 t_movable t_reach = some u → ∀ (H : Heap) (locs : List Loc), va_P D vwCl [(h_t, .inr (1, [.ref h_t_given, .ref h_t_askedBy, .ref h_t_line, .ref h_t_reach, .long t_used, .int t_movable])), (h_t_given, .inl (kI, 16, .inl t_given)), (h_t_reach, .inl (kI, 16, .inl t_reach)), (h_p1, .inl (kL, 16, .inr (.inl p1_f)))] H → va_D A [(h_t, .inr (1, [.ref h_t_given, .ref h_t_askedBy, .ref h_t_line, .ref h_t_reach, .long t_used, .int t_movable])), (h_t_given, .inl (kI, 16, .inl t_given)), (h_t_reach, .inl (kI, 16, .inl t_reach)), (h_p1, .inl (kL, 16, .inr (.inl p1_f)))] → va_S A s.heap H locs → ∀ ls : Array Slot, lv_has ls 5 [(0, .ref h_t), (2, .int a2), (3, .int x3)] → W p l e { frames := 1, cells := 0, slots := 0, locals := 22 } s m args below meth c H locs 0 0 Q (F0 m 108 ls []) := by
    intro n
    induction n with
    | zero =>
      intro x3 t_movable t_reach hf
      exact nomatch (show (none : Option (Int32 × (Nat → Int32))) = some _ from hf)
    | succ n ih =>
      intro x3 t_movable t_reach hf H locs hP hD hS ls hl
      rw [q_Giving_findReach_108] at hf
      refine lv_iload_n hx hb d_Giving_findReach_108 rfl (lv_at hl 2 rfl) ?_
      refine lv_iload_n hx hb d_Giving_findReach_109 rfl (lv_at hl 1 rfl) ?_
      refine lv_icmp_ge (tgt := 168) hx hb d_Giving_findReach_110 (by decide) (fun c_110 => ?_) (fun c_110 => ?_)
      · replace hf := (if_pos c_110).symm.trans hf
        have hu := Option.some.inj hf
        exact m_retv () hx hb hr hlk hK (by rw [← hu]; exact hP) (by rw [← hu]; exact hD) hS hQ hAe rfl (Nat.le_of_ble_eq_true rfl) (Nat.le_of_ble_eq_true rfl) d_Giving_findReach_168
      · replace hf := (if_neg c_110).symm.trans hf
        refine lv_iconst (v := 0) hx hb d_Giving_findReach_113 (by decide) ?_
        refine lv_istore (lv' := [(4, .int (0 : Int32)), (0, .ref h_t), (2, .int a2), (3, .int x3)]) hx hb d_Giving_findReach_114 hl (by decide) rfl (fun ls hl => ?_)
        exact L116 _ ih N x3 (0 : Int32) t_movable t_reach hf _ _ hP hD hS ls (lv_sub hl [1, 2, 3, 0] rfl)
  have L106 : ∀ (t_movable : Int32) (t_reach : Nat → Int32), q_Giving_findReach_106 N a2 t_movable t_reach = some u → ∀ (H : Heap) (locs : List Loc), va_P D vwCl [(h_t, .inr (1, [.ref h_t_given, .ref h_t_askedBy, .ref h_t_line, .ref h_t_reach, .long t_used, .int t_movable])), (h_t_given, .inl (kI, 16, .inl t_given)), (h_t_reach, .inl (kI, 16, .inl t_reach)), (h_p1, .inl (kL, 16, .inr (.inl p1_f)))] H → va_D A [(h_t, .inr (1, [.ref h_t_given, .ref h_t_askedBy, .ref h_t_line, .ref h_t_reach, .long t_used, .int t_movable])), (h_t_given, .inl (kI, 16, .inl t_given)), (h_t_reach, .inl (kI, 16, .inl t_reach)), (h_p1, .inl (kL, 16, .inr (.inl p1_f)))] → va_S A s.heap H locs → ∀ ls : Array Slot, lv_has ls 5 [(0, .ref h_t), (2, .int a2)] → W p l e { frames := 1, cells := 0, slots := 0, locals := 22 } s m args below meth c H locs 0 0 Q (F0 m 106 ls []) := by
    intro t_movable t_reach hf H locs hP hD hS ls hl
    unfold q_Giving_findReach_106 at hf
    refine lv_iconst (v := 0) hx hb d_Giving_findReach_106 (by decide) ?_
    refine lv_istore_n (lv' := [(3, .int (0 : Int32)), (0, .ref h_t), (2, .int a2)]) hx hb d_Giving_findReach_107 rfl hl (by decide) rfl (fun ls hl => ?_)
    exact L108  N (0 : Int32) t_movable t_reach hf _ _ hP hD hS ls (lv_sub hl [1, 2, 0] rfl)
  have L96 : ∀ (K7 : Int32 → Int32 → (Nat → Int32) → Option (Int32 × (Nat → Int32))), (∀ (x3 : Int32) (t_movable : Int32) (t_reach : Nat → Int32), K7 x3 t_movable t_reach = some u → ∀ (H : Heap) (locs : List Loc), va_P D vwCl [(h_t, .inr (1, [.ref h_t_given, .ref h_t_askedBy, .ref h_t_line, .ref h_t_reach, .long t_used, .int t_movable])), (h_t_given, .inl (kI, 16, .inl t_given)), (h_t_reach, .inl (kI, 16, .inl t_reach)), (h_p1, .inl (kL, 16, .inr (.inl p1_f)))] H → va_D A [(h_t, .inr (1, [.ref h_t_given, .ref h_t_askedBy, .ref h_t_line, .ref h_t_reach, .long t_used, .int t_movable])), (h_t_given, .inl (kI, 16, .inl t_given)), (h_t_reach, .inl (kI, 16, .inl t_reach)), (h_p1, .inl (kL, 16, .inr (.inl p1_f)))] → va_S A s.heap H locs → ∀ ls : Array Slot, lv_has ls 5 [(0, .ref h_t), (1, .ref h_p1), (2, .int a2), (3, .int x3)] → W p l e { frames := 1, cells := 0, slots := 0, locals := 22 } s m args below meth c H locs 0 0 Q (F0 m 7 ls [])) → ∀ (x3 : Int32) (z0 : Int32) (z1 : Int32) (t_movable : Int32) (t_reach : Nat → Int32), q_Giving_findReach_96 N K7 x3 z0 z1 t_movable t_reach = some u → ∀ (H : Heap) (locs : List Loc), va_P D vwCl [(h_t, .inr (1, [.ref h_t_given, .ref h_t_askedBy, .ref h_t_line, .ref h_t_reach, .long t_used, .int t_movable])), (h_t_given, .inl (kI, 16, .inl t_given)), (h_t_reach, .inl (kI, 16, .inl t_reach)), (h_p1, .inl (kL, 16, .inr (.inl p1_f)))] H → va_D A [(h_t, .inr (1, [.ref h_t_given, .ref h_t_askedBy, .ref h_t_line, .ref h_t_reach, .long t_used, .int t_movable])), (h_t_given, .inl (kI, 16, .inl t_given)), (h_t_reach, .inl (kI, 16, .inl t_reach)), (h_p1, .inl (kL, 16, .inr (.inl p1_f)))] → va_S A s.heap H locs → ∀ ls : Array Slot, lv_has ls 5 [(0, .ref h_t), (1, .ref h_p1), (2, .int a2), (3, .int x3)] → W p l e { frames := 1, cells := 0, slots := 0, locals := 22 } s m args below meth c H locs 0 0 Q (F0 m 96 ls [.int z0, .int z1, .ref h_t]) := by
    intro K7 hK7 x3 z0 z1 t_movable t_reach hf H locs hP hD hS ls hl
    unfold q_Giving_findReach_96 at hf
    refine lv_ior hx hb d_Giving_findReach_96 ?_
    refine va_put (D := D) (ci := 1) (v := .int (z1 ||| z0)) (ty := .int) (C := "RuleKernels$Giving") (T := T_Giving) (N := 6) hx hb hts w_i1 ty_Giving ty_Giving_ok nm_Giving hown hK hP hD hS 0 rfl rfl 5 (by decide) w_f28 (fun _ h9 => h9) rfl (by decide +kernel) rfl rfl (Nat.le_of_ble_eq_true rfl) d_Giving_findReach_97 (fun H locs hP hD hS => ?_)
    have hP : va_P D vwCl [(h_t, .inr (1, [.ref h_t_given, .ref h_t_askedBy, .ref h_t_line, .ref h_t_reach, .long t_used, .int (z1 ||| z0)])), (h_t_given, .inl (kI, 16, .inl t_given)), (h_t_reach, .inl (kI, 16, .inl t_reach)), (h_p1, .inl (kL, 16, .inr (.inl p1_f)))] H := hP
    have hD : va_D A [(h_t, .inr (1, [.ref h_t_given, .ref h_t_askedBy, .ref h_t_line, .ref h_t_reach, .long t_used, .int (z1 ||| z0)])), (h_t_given, .inl (kI, 16, .inl t_given)), (h_t_reach, .inl (kI, 16, .inl t_reach)), (h_p1, .inl (kL, 16, .inr (.inl p1_f)))] := hD
    refine lv_iinc (v := (x3 + 1)) (lv' := [(3, .int (x3 + 1)), (0, .ref h_t), (1, .ref h_p1), (2, .int a2)]) hx hb d_Giving_findReach_100 hl (k := 3) rfl rfl (by decide) rfl (fun ls hl => ?_)
    refine lv_goto (tgt := 7) hx hb d_Giving_findReach_103 (by decide) ?_
    exact hK7 (x3 + 1) (z1 ||| z0) t_reach hf _ _ hP hD hS ls (lv_sub hl [1, 2, 3, 0] rfl)
  have L67 : ∀ (K7 : Int32 → Int32 → (Nat → Int32) → Option (Int32 × (Nat → Int32))), (∀ (x3 : Int32) (t_movable : Int32) (t_reach : Nat → Int32), K7 x3 t_movable t_reach = some u → ∀ (H : Heap) (locs : List Loc), va_P D vwCl [(h_t, .inr (1, [.ref h_t_given, .ref h_t_askedBy, .ref h_t_line, .ref h_t_reach, .long t_used, .int t_movable])), (h_t_given, .inl (kI, 16, .inl t_given)), (h_t_reach, .inl (kI, 16, .inl t_reach)), (h_p1, .inl (kL, 16, .inr (.inl p1_f)))] H → va_D A [(h_t, .inr (1, [.ref h_t_given, .ref h_t_askedBy, .ref h_t_line, .ref h_t_reach, .long t_used, .int t_movable])), (h_t_given, .inl (kI, 16, .inl t_given)), (h_t_reach, .inl (kI, 16, .inl t_reach)), (h_p1, .inl (kL, 16, .inr (.inl p1_f)))] → va_S A s.heap H locs → ∀ ls : Array Slot, lv_has ls 5 [(0, .ref h_t), (1, .ref h_p1), (2, .int a2), (3, .int x3)] → W p l e { frames := 1, cells := 0, slots := 0, locals := 22 } s m args below meth c H locs 0 0 Q (F0 m 7 ls [])) → ∀ (x3 : Int32) (t_movable : Int32) (t_reach : Nat → Int32), q_Giving_findReach_67 N t_used p1_f K7 x3 t_movable t_reach = some u → ∀ (H : Heap) (locs : List Loc), va_P D vwCl [(h_t, .inr (1, [.ref h_t_given, .ref h_t_askedBy, .ref h_t_line, .ref h_t_reach, .long t_used, .int t_movable])), (h_t_given, .inl (kI, 16, .inl t_given)), (h_t_reach, .inl (kI, 16, .inl t_reach)), (h_p1, .inl (kL, 16, .inr (.inl p1_f)))] H → va_D A [(h_t, .inr (1, [.ref h_t_given, .ref h_t_askedBy, .ref h_t_line, .ref h_t_reach, .long t_used, .int t_movable])), (h_t_given, .inl (kI, 16, .inl t_given)), (h_t_reach, .inl (kI, 16, .inl t_reach)), (h_p1, .inl (kL, 16, .inr (.inl p1_f)))] → va_S A s.heap H locs → ∀ ls : Array Slot, lv_has ls 5 [(0, .ref h_t), (1, .ref h_p1), (2, .int a2), (3, .int x3)] → W p l e { frames := 1, cells := 0, slots := 0, locals := 22 } s m args below meth c H locs 0 0 Q (F0 m 67 ls []) := by
    intro K7 hK7 x3 t_movable t_reach hf H locs hP hD hS ls hl
    unfold q_Giving_findReach_67 at hf
    refine lv_aload_n hx hb d_Giving_findReach_67 rfl (lv_at hl 0 rfl) ?_
    refine lv_dup hx hb d_Giving_findReach_68 rfl ?_
    refine va_get (D := D) (ci := 1) (v := .int t_movable) (C := "RuleKernels$Giving") (T := T_Giving) (N := 6) hx hb hts w_i1 hown hK hP 0 rfl rfl 5 (by decide) w_f28 (fun _ h9 => h9) rfl d_Giving_findReach_69 ?_
    refine lv_aload_n hx hb d_Giving_findReach_72 rfl (lv_at hl 1 rfl) ?_
    refine lv_iload_n hx hb d_Giving_findReach_73 rfl (lv_at hl 3 rfl) ?_
    obtain ⟨h_74, hf⟩ := jin_some hf
    refine va_lald hx hb hK hP 3 1 rfl TY.2.1 h_74 d_Giving_findReach_74 ?_
    refine lv_aload_n hx hb d_Giving_findReach_75 rfl (lv_at hl 0 rfl) ?_
    refine va_get (D := D) (ci := 1) (v := .long t_used) (C := "RuleKernels$Giving") (T := T_Giving) (N := 6) hx hb hts w_i1 hown hK hP 0 rfl rfl 4 (by decide) w_f24 (fun _ h9 => h9) rfl d_Giving_findReach_76 ?_
    refine lv_ldc2 (v := -1) hx hb hown w_k36 d_Giving_findReach_79 ?_
    refine lv_lxor hx hb d_Giving_findReach_82 ?_
    refine lv_land hx hb d_Giving_findReach_83 ?_
    refine lv_lconst (v := 0) hx hb d_Giving_findReach_84 (by decide) ?_
    refine W.lcmp hx hb d_Giving_findReach_85 ?_
    refine lv_if_eq (tgt := 95) hx hb d_Giving_findReach_86 (by decide) (fun c_86 => ?_) (fun c_86 => ?_)
    · replace hf := (if_pos c_86).symm.trans hf
      refine lv_iconst (v := 0) hx hb d_Giving_findReach_95 (by decide) ?_
      exact L96 K7 hK7 x3 (0 : Int32) t_movable t_movable t_reach hf _ _ hP hD hS ls (lv_sub hl [0, 1, 2, 3] rfl)
    · replace hf := (if_neg c_86).symm.trans hf
      refine lv_iconst (v := 1) hx hb d_Giving_findReach_89 (by decide) ?_
      refine lv_iload_n hx hb d_Giving_findReach_90 rfl (lv_at hl 3 rfl) ?_
      refine lv_ishl hx hb d_Giving_findReach_91 ?_
      refine lv_goto (tgt := 96) hx hb d_Giving_findReach_92 (by decide) ?_
      exact L96 K7 hK7 x3 ((1 : Int32) <<< (x3 &&& 31)) t_movable t_movable t_reach hf _ _ hP hD hS ls (lv_sub hl [0, 1, 2, 3] rfl)
  have L59 : ∀ (K22 : Int32 → Int32 → Int32 → (Nat → Int32) → Option (Int32 × (Nat → Int32))), (∀ (x3 : Int32) (x4 : Int32) (t_movable : Int32) (t_reach : Nat → Int32), K22 x3 x4 t_movable t_reach = some u → ∀ (H : Heap) (locs : List Loc), va_P D vwCl [(h_t, .inr (1, [.ref h_t_given, .ref h_t_askedBy, .ref h_t_line, .ref h_t_reach, .long t_used, .int t_movable])), (h_t_given, .inl (kI, 16, .inl t_given)), (h_t_reach, .inl (kI, 16, .inl t_reach)), (h_p1, .inl (kL, 16, .inr (.inl p1_f)))] H → va_D A [(h_t, .inr (1, [.ref h_t_given, .ref h_t_askedBy, .ref h_t_line, .ref h_t_reach, .long t_used, .int t_movable])), (h_t_given, .inl (kI, 16, .inl t_given)), (h_t_reach, .inl (kI, 16, .inl t_reach)), (h_p1, .inl (kL, 16, .inr (.inl p1_f)))] → va_S A s.heap H locs → ∀ ls : Array Slot, lv_has ls 5 [(0, .ref h_t), (1, .ref h_p1), (2, .int a2), (3, .int x3), (4, .int x4)] → W p l e { frames := 1, cells := 0, slots := 0, locals := 22 } s m args below meth c H locs 0 0 Q (F0 m 22 ls [])) → ∀ (x3 : Int32) (x4 : Int32) (z0 : Int32) (z1 : Int32) (z2 : Int32) (t_movable : Int32) (t_reach : Nat → Int32), q_Giving_findReach_59 N K22 x3 x4 z0 z1 z2 t_movable t_reach = some u → ∀ (H : Heap) (locs : List Loc), va_P D vwCl [(h_t, .inr (1, [.ref h_t_given, .ref h_t_askedBy, .ref h_t_line, .ref h_t_reach, .long t_used, .int t_movable])), (h_t_given, .inl (kI, 16, .inl t_given)), (h_t_reach, .inl (kI, 16, .inl t_reach)), (h_p1, .inl (kL, 16, .inr (.inl p1_f)))] H → va_D A [(h_t, .inr (1, [.ref h_t_given, .ref h_t_askedBy, .ref h_t_line, .ref h_t_reach, .long t_used, .int t_movable])), (h_t_given, .inl (kI, 16, .inl t_given)), (h_t_reach, .inl (kI, 16, .inl t_reach)), (h_p1, .inl (kL, 16, .inr (.inl p1_f)))] → va_S A s.heap H locs → ∀ ls : Array Slot, lv_has ls 5 [(0, .ref h_t), (1, .ref h_p1), (2, .int a2), (3, .int x3), (4, .int x4)] → W p l e { frames := 1, cells := 0, slots := 0, locals := 22 } s m args below meth c H locs 0 0 Q (F0 m 59 ls [.int z0, .int z1, .int z2, .ref h_t_reach]) := by
    intro K22 hK22 x3 x4 z0 z1 z2 t_movable t_reach hf H locs hP hD hS ls hl
    unfold q_Giving_findReach_59 at hf
    refine lv_ior hx hb d_Giving_findReach_59 ?_
    obtain ⟨h_60, hf⟩ := jin_some hf
    refine va_iast hx hb hK hP hD hS 2 0 rfl TY.1 h_60 d_Giving_findReach_60 (fun H locs hP hD hS => ?_)
    have hP : va_P D vwCl [(h_t, .inr (1, [.ref h_t_given, .ref h_t_askedBy, .ref h_t_line, .ref h_t_reach, .long t_used, .int t_movable])), (h_t_given, .inl (kI, 16, .inl t_given)), (h_t_reach, .inl (kI, 16, .inl (upd t_reach z2.toNatClampNeg (z1 ||| z0)))), (h_p1, .inl (kL, 16, .inr (.inl p1_f)))] H := hP
    have hD : va_D A [(h_t, .inr (1, [.ref h_t_given, .ref h_t_askedBy, .ref h_t_line, .ref h_t_reach, .long t_used, .int t_movable])), (h_t_given, .inl (kI, 16, .inl t_given)), (h_t_reach, .inl (kI, 16, .inl (upd t_reach z2.toNatClampNeg (z1 ||| z0)))), (h_p1, .inl (kL, 16, .inr (.inl p1_f)))] := hD
    refine lv_iinc (v := (x4 + 1)) (lv' := [(4, .int (x4 + 1)), (0, .ref h_t), (1, .ref h_p1), (2, .int a2), (3, .int x3)]) hx hb d_Giving_findReach_61 hl (k := 4) rfl rfl (by decide) rfl (fun ls hl => ?_)
    refine lv_goto (tgt := 22) hx hb d_Giving_findReach_64 (by decide) ?_
    exact hK22 x3 (x4 + 1) t_movable (upd t_reach z2.toNatClampNeg (z1 ||| z0)) hf _ _ hP hD hS ls (lv_sub hl [1, 2, 3, 4, 0] rfl)
  have L22 : ∀ (K7 : Int32 → Int32 → (Nat → Int32) → Option (Int32 × (Nat → Int32))), (∀ (x3 : Int32) (t_movable : Int32) (t_reach : Nat → Int32), K7 x3 t_movable t_reach = some u → ∀ (H : Heap) (locs : List Loc), va_P D vwCl [(h_t, .inr (1, [.ref h_t_given, .ref h_t_askedBy, .ref h_t_line, .ref h_t_reach, .long t_used, .int t_movable])), (h_t_given, .inl (kI, 16, .inl t_given)), (h_t_reach, .inl (kI, 16, .inl t_reach)), (h_p1, .inl (kL, 16, .inr (.inl p1_f)))] H → va_D A [(h_t, .inr (1, [.ref h_t_given, .ref h_t_askedBy, .ref h_t_line, .ref h_t_reach, .long t_used, .int t_movable])), (h_t_given, .inl (kI, 16, .inl t_given)), (h_t_reach, .inl (kI, 16, .inl t_reach)), (h_p1, .inl (kL, 16, .inr (.inl p1_f)))] → va_S A s.heap H locs → ∀ ls : Array Slot, lv_has ls 5 [(0, .ref h_t), (1, .ref h_p1), (2, .int a2), (3, .int x3)] → W p l e { frames := 1, cells := 0, slots := 0, locals := 22 } s m args below meth c H locs 0 0 Q (F0 m 7 ls [])) → ∀ n : Nat, ∀ (x3 : Int32) (x4 : Int32) (t_movable : Int32) (t_reach : Nat → Int32), q_Giving_findReach_22 N t_used t_given p1_f a2 K7 n x3 x4 t_movable t_reach = some u → ∀ (H : Heap) (locs : List Loc), va_P D vwCl [(h_t, .inr (1, [.ref h_t_given, .ref h_t_askedBy, .ref h_t_line, .ref h_t_reach, .long t_used, .int t_movable])), (h_t_given, .inl (kI, 16, .inl t_given)), (h_t_reach, .inl (kI, 16, .inl t_reach)), (h_p1, .inl (kL, 16, .inr (.inl p1_f)))] H → va_D A [(h_t, .inr (1, [.ref h_t_given, .ref h_t_askedBy, .ref h_t_line, .ref h_t_reach, .long t_used, .int t_movable])), (h_t_given, .inl (kI, 16, .inl t_given)), (h_t_reach, .inl (kI, 16, .inl t_reach)), (h_p1, .inl (kL, 16, .inr (.inl p1_f)))] → va_S A s.heap H locs → ∀ ls : Array Slot, lv_has ls 5 [(0, .ref h_t), (1, .ref h_p1), (2, .int a2), (3, .int x3), (4, .int x4)] → W p l e { frames := 1, cells := 0, slots := 0, locals := 22 } s m args below meth c H locs 0 0 Q (F0 m 22 ls []) := by
    intro K7 hK7 
    intro n
    induction n with
    | zero =>
      intro x3 x4 t_movable t_reach hf
      exact nomatch (show (none : Option (Int32 × (Nat → Int32))) = some _ from hf)
    | succ n ih =>
      intro x3 x4 t_movable t_reach hf H locs hP hD hS ls hl
      rw [q_Giving_findReach_22] at hf
      refine lv_iload hx hb d_Giving_findReach_22 (lv_at hl 4 rfl) ?_
      refine lv_iload_n hx hb d_Giving_findReach_24 rfl (lv_at hl 2 rfl) ?_
      refine lv_icmp_ge (tgt := 67) hx hb d_Giving_findReach_25 (by decide) (fun c_25 => ?_) (fun c_25 => ?_)
      · replace hf := (if_pos c_25).symm.trans hf
        exact L67 K7 hK7 x3 t_movable t_reach hf _ _ hP hD hS ls (lv_sub hl [0, 1, 2, 3] rfl)
      · replace hf := (if_neg c_25).symm.trans hf
        refine lv_aload_n hx hb d_Giving_findReach_28 rfl (lv_at hl 0 rfl) ?_
        refine va_get (D := D) (ci := 1) (v := .ref h_t_reach) (C := "RuleKernels$Giving") (T := T_Giving) (N := 6) hx hb hts w_i1 hown hK hP 0 rfl rfl 3 (by decide) w_f21 (fun _ h9 => h9) rfl d_Giving_findReach_29 ?_
        refine lv_iload_n hx hb d_Giving_findReach_32 rfl (lv_at hl 3 rfl) ?_
        refine lv_dup2_11 hx hb d_Giving_findReach_33 rfl rfl ?_
        obtain ⟨h_34, hf⟩ := jin_some hf
        refine va_iald hx hb hK hP 2 0 rfl TY.1 h_34 d_Giving_findReach_34 ?_
        refine lv_aload_n hx hb d_Giving_findReach_35 rfl (lv_at hl 1 rfl) ?_
        refine lv_iload_n hx hb d_Giving_findReach_36 rfl (lv_at hl 3 rfl) ?_
        obtain ⟨h_37, hf⟩ := jin_some hf
        refine va_lald hx hb hK hP 3 1 rfl TY.2.1 h_37 d_Giving_findReach_37 ?_
        refine lv_aload_n hx hb d_Giving_findReach_38 rfl (lv_at hl 0 rfl) ?_
        refine va_get (D := D) (ci := 1) (v := .ref h_t_given) (C := "RuleKernels$Giving") (T := T_Giving) (N := 6) hx hb hts w_i1 hown hK hP 0 rfl rfl 0 (by decide) w_f9 (fun _ h9 => h9) rfl d_Giving_findReach_39 ?_
        refine lv_iload hx hb d_Giving_findReach_42 (lv_at hl 4 rfl) ?_
        obtain ⟨h_44, hf⟩ := jin_some hf
        refine va_iald hx hb hK hP 1 0 rfl TY.1 h_44 d_Giving_findReach_44 ?_
        obtain ⟨r_45, hc_45, hf⟩ := jb hf
        refine m_call (wc := []) (wr := [(h_t, .inr (1, [.ref h_t_given, .ref h_t_askedBy, .ref h_t_line, .ref h_t_reach, .long t_used, .int t_movable])), (h_t_given, .inl (kI, 16, .inl t_given)), (h_t_reach, .inl (kI, 16, .inl t_reach)), (h_p1, .inl (kL, 16, .inr (.inl p1_f)))]) (w1 := fun x : Unit => []) (wn := fun x : Unit => [(h_t, .inr (1, [.ref h_t_given, .ref h_t_askedBy, .ref h_t_line, .ref h_t_reach, .long t_used, .int t_movable])), (h_t_given, .inl (kI, 16, .inl t_given)), (h_t_reach, .inl (kI, 16, .inl t_reach)), (h_p1, .inl (kL, 16, .inr (.inl p1_f)))]) (o := fun _ : Unit => some (.int r_45)) (va_runSN (As := [.long (p1_f x3.toNatClampNeg), .int (t_given x4.toNatClampNeg)]) (rest := [.int (t_reach x3.toNatClampNeg), .int x3, .ref h_t_reach]) ⟨hx, hb, hml, hown, hts⟩ (c_RK_has (a0 := (p1_f x3.toNatClampNeg)) (a2 := (t_given x4.toNatClampNeg)) (u := r_45) TY hc_45 _) ⟨va_cnB 2 hts (gT tc_RK_has) rfl rfl rfl (mN_1 hN) (hts _ (List.mem_cons_of_mem _ tw_41)) (by decide +kernel) ⟨Nat.le_of_ble_eq_true rfl, Nat.le_of_ble_eq_true rfl⟩, (hts _ (List.mem_cons_of_mem _ tw_302)), trivial⟩ (m_preS hK hN hP hD [] rfl (by decide) _) rfl rfl hl.1 rfl (lv_room (Nat.le_of_ble_eq_true rfl)) d_Giving_findReach_45 ⟨Nat.le_of_ble_eq_true rfl, Nat.le_of_ble_eq_true rfl⟩) hP hD hS hA [] [0, 1, 2, 3] [0, 1, 2, 3] rfl rfl (by decide) (by decide) (by decide) (fun _ => rfl) (fun x H locs hP hD hS => ?_)
        have hP : va_P D vwCl [(h_t, .inr (1, [.ref h_t_given, .ref h_t_askedBy, .ref h_t_line, .ref h_t_reach, .long t_used, .int t_movable])), (h_t_given, .inl (kI, 16, .inl t_given)), (h_t_reach, .inl (kI, 16, .inl t_reach)), (h_p1, .inl (kL, 16, .inr (.inl p1_f)))] H := hP
        have hD : va_D A [(h_t, .inr (1, [.ref h_t_given, .ref h_t_askedBy, .ref h_t_line, .ref h_t_reach, .long t_used, .int t_movable])), (h_t_given, .inl (kI, 16, .inl t_given)), (h_t_reach, .inl (kI, 16, .inl t_reach)), (h_p1, .inl (kL, 16, .inr (.inl p1_f)))] := hD
        refine W.eq (g2 := F0 m 48 ls [.int r_45, .int (t_reach x3.toNatClampNeg), .int x3, .ref h_t_reach]) rfl ?_
        refine lv_if_eq (tgt := 58) hx hb d_Giving_findReach_48 (by decide) (fun c_48 => ?_) (fun c_48 => ?_)
        · replace hf := (if_pos c_48).symm.trans hf
          refine lv_iconst (v := 0) hx hb d_Giving_findReach_58 (by decide) ?_
          exact L59 _ ih x3 x4 (0 : Int32) (t_reach x3.toNatClampNeg) x3 t_movable t_reach hf _ _ hP hD hS ls (lv_sub hl [0, 1, 2, 3, 4] rfl)
        · replace hf := (if_neg c_48).symm.trans hf
          refine lv_iconst (v := 1) hx hb d_Giving_findReach_51 (by decide) ?_
          refine lv_iload hx hb d_Giving_findReach_52 (lv_at hl 4 rfl) ?_
          refine lv_ishl hx hb d_Giving_findReach_54 ?_
          refine lv_goto (tgt := 59) hx hb d_Giving_findReach_55 (by decide) ?_
          exact L59 _ ih x3 x4 ((1 : Int32) <<< (x4 &&& 31)) (t_reach x3.toNatClampNeg) x3 t_movable t_reach hf _ _ hP hD hS ls (lv_sub hl [0, 1, 2, 3, 4] rfl)
  have L7 : ∀ n : Nat, ∀ (x3 : Int32) (t_movable : Int32) (t_reach : Nat → Int32), q_Giving_findReach_7 N t_used t_given p1_f a2 n x3 t_movable t_reach = some u → ∀ (H : Heap) (locs : List Loc), va_P D vwCl [(h_t, .inr (1, [.ref h_t_given, .ref h_t_askedBy, .ref h_t_line, .ref h_t_reach, .long t_used, .int t_movable])), (h_t_given, .inl (kI, 16, .inl t_given)), (h_t_reach, .inl (kI, 16, .inl t_reach)), (h_p1, .inl (kL, 16, .inr (.inl p1_f)))] H → va_D A [(h_t, .inr (1, [.ref h_t_given, .ref h_t_askedBy, .ref h_t_line, .ref h_t_reach, .long t_used, .int t_movable])), (h_t_given, .inl (kI, 16, .inl t_given)), (h_t_reach, .inl (kI, 16, .inl t_reach)), (h_p1, .inl (kL, 16, .inr (.inl p1_f)))] → va_S A s.heap H locs → ∀ ls : Array Slot, lv_has ls 5 [(0, .ref h_t), (1, .ref h_p1), (2, .int a2), (3, .int x3)] → W p l e { frames := 1, cells := 0, slots := 0, locals := 22 } s m args below meth c H locs 0 0 Q (F0 m 7 ls []) := by
    intro n
    induction n with
    | zero =>
      intro x3 t_movable t_reach hf
      exact nomatch (show (none : Option (Int32 × (Nat → Int32))) = some _ from hf)
    | succ n ih =>
      intro x3 t_movable t_reach hf H locs hP hD hS ls hl
      rw [q_Giving_findReach_7] at hf
      refine lv_iload_n hx hb d_Giving_findReach_7 rfl (lv_at hl 3 rfl) ?_
      refine lv_iload_n hx hb d_Giving_findReach_8 rfl (lv_at hl 2 rfl) ?_
      refine lv_icmp_ge (tgt := 106) hx hb d_Giving_findReach_9 (by decide) (fun c_9 => ?_) (fun c_9 => ?_)
      · replace hf := (if_pos c_9).symm.trans hf
        exact L106  t_movable t_reach hf _ _ hP hD hS ls (lv_sub hl [0, 2] rfl)
      · replace hf := (if_neg c_9).symm.trans hf
        refine lv_aload_n hx hb d_Giving_findReach_12 rfl (lv_at hl 0 rfl) ?_
        refine va_get (D := D) (ci := 1) (v := .ref h_t_reach) (C := "RuleKernels$Giving") (T := T_Giving) (N := 6) hx hb hts w_i1 hown hK hP 0 rfl rfl 3 (by decide) w_f21 (fun _ h9 => h9) rfl d_Giving_findReach_13 ?_
        refine lv_iload_n hx hb d_Giving_findReach_16 rfl (lv_at hl 3 rfl) ?_
        refine lv_iconst (v := 0) hx hb d_Giving_findReach_17 (by decide) ?_
        obtain ⟨h_18, hf⟩ := jin_some hf
        refine va_iast hx hb hK hP hD hS 2 0 rfl TY.1 h_18 d_Giving_findReach_18 (fun H locs hP hD hS => ?_)
        have hP : va_P D vwCl [(h_t, .inr (1, [.ref h_t_given, .ref h_t_askedBy, .ref h_t_line, .ref h_t_reach, .long t_used, .int t_movable])), (h_t_given, .inl (kI, 16, .inl t_given)), (h_t_reach, .inl (kI, 16, .inl (upd t_reach x3.toNatClampNeg (0 : Int32)))), (h_p1, .inl (kL, 16, .inr (.inl p1_f)))] H := hP
        have hD : va_D A [(h_t, .inr (1, [.ref h_t_given, .ref h_t_askedBy, .ref h_t_line, .ref h_t_reach, .long t_used, .int t_movable])), (h_t_given, .inl (kI, 16, .inl t_given)), (h_t_reach, .inl (kI, 16, .inl (upd t_reach x3.toNatClampNeg (0 : Int32)))), (h_p1, .inl (kL, 16, .inr (.inl p1_f)))] := hD
        refine lv_iconst (v := 0) hx hb d_Giving_findReach_19 (by decide) ?_
        refine lv_istore (lv' := [(4, .int (0 : Int32)), (0, .ref h_t), (1, .ref h_p1), (2, .int a2), (3, .int x3)]) hx hb d_Giving_findReach_20 hl (by decide) rfl (fun ls hl => ?_)
        exact L22 _ ih N x3 (0 : Int32) t_movable (upd t_reach x3.toNatClampNeg (0 : Int32)) hf _ _ hP hD hS ls (lv_sub hl [1, 2, 3, 4, 0] rfl)
  unfold p_Giving_findReach at hf
  refine lv_aload_n hx hb d_Giving_findReach_0 rfl (lv_at hl 0 rfl) ?_
  refine lv_iconst (v := 0) hx hb d_Giving_findReach_1 (by decide) ?_
  refine va_put (D := D) (ci := 1) (v := .int (0 : Int32)) (ty := .int) (C := "RuleKernels$Giving") (T := T_Giving) (N := 6) hx hb hts w_i1 ty_Giving ty_Giving_ok nm_Giving hown hK hP hD hS 0 rfl rfl 5 (by decide) w_f28 (fun _ h9 => h9) rfl (by decide +kernel) rfl rfl (Nat.le_of_ble_eq_true rfl) d_Giving_findReach_2 (fun H locs hP hD hS => ?_)
  have hP : va_P D vwCl [(h_t, .inr (1, [.ref h_t_given, .ref h_t_askedBy, .ref h_t_line, .ref h_t_reach, .long t_used, .int (0 : Int32)])), (h_t_given, .inl (kI, 16, .inl t_given)), (h_t_reach, .inl (kI, 16, .inl t_reach)), (h_p1, .inl (kL, 16, .inr (.inl p1_f)))] H := hP
  have hD : va_D A [(h_t, .inr (1, [.ref h_t_given, .ref h_t_askedBy, .ref h_t_line, .ref h_t_reach, .long t_used, .int (0 : Int32)])), (h_t_given, .inl (kI, 16, .inl t_given)), (h_t_reach, .inl (kI, 16, .inl t_reach)), (h_p1, .inl (kL, 16, .inr (.inl p1_f)))] := hD
  refine lv_iconst (v := 0) hx hb d_Giving_findReach_5 (by decide) ?_
  refine lv_istore_n (lv' := [(3, .int (0 : Int32)), (0, .ref h_t), (1, .ref h_p1), (2, .int a2)]) hx hb d_Giving_findReach_6 rfl hl (by decide) rfl (fun ls hl => ?_)
  exact L7  N (0 : Int32) (0 : Int32) t_reach hf _ _ hP hD hS ls (lv_sub hl [1, 2, 3, 0] rfl)
set_option maxHeartbeats 4000000 in
set_option maxRecDepth 100000 in
theorem c_Giving_possible {l : Launch} {D : va_G} {tys : List (ClassId × FieldType)} {kI kL kZ kR kM : ClassId} {N : Nat} {h_t h_t_given h_t_reach h_t_askedBy h_t_line : Nat} {t_used : Int64} {t_movable : Int32} {t_given : Nat → Int32} {t_reach : Nat → Int32} {a1 : Int64} {a3 : Int32} {a4 : Int32} {u : Int64} (TY : mTy tys kI kL kZ kR kM) (hf : p_Giving_possible N t_used t_movable t_given t_reach a1 a3 a4 = some u) (sz : Nat) : Met l y_Giving_possible ws_Giving_possible { frames := 0, cells := 0, slots := 0, locals := 0 } (mPre D tys [.ref h_t, .long a1, .int a3, .int a4] [(h_t, .inr (1, [.ref h_t_given, .ref h_t_askedBy, .ref h_t_line, .ref h_t_reach, .long t_used, .int t_movable])), (h_t_given, .inl (kI, 16, .inl t_given)), (h_t_reach, .inl (kI, 16, .inl t_reach))] sz) (mPost D tys (fun _ : Unit => some (.long u)) [(h_t, .inr (1, [.ref h_t_given, .ref h_t_askedBy, .ref h_t_line, .ref h_t_reach, .long t_used, .int t_movable])), (h_t_given, .inl (kI, 16, .inl t_given)), (h_t_reach, .inl (kI, 16, .inl t_reach))] (fun x : Unit => [(h_t, .inr (1, [.ref h_t_given, .ref h_t_askedBy, .ref h_t_line, .ref h_t_reach, .long t_used, .int t_movable])), (h_t_given, .inl (kI, 16, .inl t_given)), (h_t_reach, .inl (kI, 16, .inl t_reach))]) sz) 0 0 (va_A [(h_t, .inr (1, [.ref h_t_given, .ref h_t_askedBy, .ref h_t_line, .ref h_t_reach, .long t_used, .int t_movable])), (h_t_given, .inl (kI, 16, .inl t_given)), (h_t_reach, .inl (kI, 16, .inl t_reach))] sz) := by
  refine m_ofW (cc := b_Giving_possible) (maxL := 8) (ret := (some .long)) (by decide) rfl (Nat.le_of_ble_eq_true rfl) ?_ sz
  intro p e s m args below meth c ls Q A hx hb hml hr hts hown hin hlk hK hN hP hD hA hS hl hQ hAe
  have hown : s.vm.findClass "RuleKernels$Giving" = some m.cls := hown
  have hl : lv_has ls 8 [(0, .ref h_t), (1, .long a1), (3, .int a3), (4, .int a4)] := hl
  have w_f21 := (hts _ (List.mem_cons_of_mem _ tw_120))
  have w_f24 := (hts _ (List.mem_cons_of_mem _ tw_121))
  have w_f28 := (hts _ (List.mem_cons_of_mem _ tw_122))
  have w_f9 := (hts _ (List.mem_cons_of_mem _ tw_117))
  have w_i1 := (fun q h => List.mem_cons_of_mem _ (i_Giving q h) : ∀ q ∈ u_ws "RuleKernels$Giving" T_Giving 6, q ∈ ws_Giving_possible)
  have w_k36 := (hts _ (List.mem_cons_of_mem _ tw_374))
  have L57 : ∀ (K15 : Int64 → Int32 → Option (Int64)), (∀ (x5 : Int64) (x7 : Int32), K15 x5 x7 = some u → ∀ (H : Heap) (locs : List Loc), va_P D vwCl [(h_t, .inr (1, [.ref h_t_given, .ref h_t_askedBy, .ref h_t_line, .ref h_t_reach, .long t_used, .int t_movable])), (h_t_given, .inl (kI, 16, .inl t_given)), (h_t_reach, .inl (kI, 16, .inl t_reach))] H → va_D A [(h_t, .inr (1, [.ref h_t_given, .ref h_t_askedBy, .ref h_t_line, .ref h_t_reach, .long t_used, .int t_movable])), (h_t_given, .inl (kI, 16, .inl t_given)), (h_t_reach, .inl (kI, 16, .inl t_reach))] → va_S A s.heap H locs → ∀ ls : Array Slot, lv_has ls 8 [(0, .ref h_t), (1, .long a1), (3, .int a3), (4, .int a4), (5, .long x5), (7, .int x7)] → W p l e { frames := 0, cells := 0, slots := 0, locals := 0 } s m args below meth c H locs 0 0 Q (F0 m 15 ls [])) → ∀ (x5 : Int64) (x7 : Int32), q_Giving_possible_57 N K15 x5 x7 = some u → ∀ (H : Heap) (locs : List Loc), va_P D vwCl [(h_t, .inr (1, [.ref h_t_given, .ref h_t_askedBy, .ref h_t_line, .ref h_t_reach, .long t_used, .int t_movable])), (h_t_given, .inl (kI, 16, .inl t_given)), (h_t_reach, .inl (kI, 16, .inl t_reach))] H → va_D A [(h_t, .inr (1, [.ref h_t_given, .ref h_t_askedBy, .ref h_t_line, .ref h_t_reach, .long t_used, .int t_movable])), (h_t_given, .inl (kI, 16, .inl t_given)), (h_t_reach, .inl (kI, 16, .inl t_reach))] → va_S A s.heap H locs → ∀ ls : Array Slot, lv_has ls 8 [(0, .ref h_t), (1, .long a1), (3, .int a3), (4, .int a4), (5, .long x5), (7, .int x7)] → W p l e { frames := 0, cells := 0, slots := 0, locals := 0 } s m args below meth c H locs 0 0 Q (F0 m 57 ls []) := by
    intro K15 hK15 x5 x7 hf H locs hP hD hS ls hl
    unfold q_Giving_possible_57 at hf
    refine lv_iinc (v := (x7 + 1)) (lv' := [(7, .int (x7 + 1)), (0, .ref h_t), (1, .long a1), (3, .int a3), (4, .int a4), (5, .long x5)]) hx hb d_Giving_possible_57 hl (k := 5) rfl rfl (by decide) rfl (fun ls hl => ?_)
    refine lv_goto (tgt := 15) hx hb d_Giving_possible_60 (by decide) ?_
    exact hK15 x5 (x7 + 1) hf _ _ hP hD hS ls (lv_sub hl [1, 2, 3, 4, 5, 0] rfl)
  have L15 : ∀ n : Nat, ∀ (x5 : Int64) (x7 : Int32), q_Giving_possible_15 N t_movable t_given t_reach a1 a3 a4 n x5 x7 = some u → ∀ (H : Heap) (locs : List Loc), va_P D vwCl [(h_t, .inr (1, [.ref h_t_given, .ref h_t_askedBy, .ref h_t_line, .ref h_t_reach, .long t_used, .int t_movable])), (h_t_given, .inl (kI, 16, .inl t_given)), (h_t_reach, .inl (kI, 16, .inl t_reach))] H → va_D A [(h_t, .inr (1, [.ref h_t_given, .ref h_t_askedBy, .ref h_t_line, .ref h_t_reach, .long t_used, .int t_movable])), (h_t_given, .inl (kI, 16, .inl t_given)), (h_t_reach, .inl (kI, 16, .inl t_reach))] → va_S A s.heap H locs → ∀ ls : Array Slot, lv_has ls 8 [(0, .ref h_t), (1, .long a1), (3, .int a3), (4, .int a4), (5, .long x5), (7, .int x7)] → W p l e { frames := 0, cells := 0, slots := 0, locals := 0 } s m args below meth c H locs 0 0 Q (F0 m 15 ls []) := by
    intro n
    induction n with
    | zero =>
      intro x5 x7 hf
      exact nomatch (show (none : Option (Int64)) = some _ from hf)
    | succ n ih =>
      intro x5 x7 hf H locs hP hD hS ls hl
      rw [q_Giving_possible_15] at hf
      refine lv_iload hx hb d_Giving_possible_15 (lv_at hl 5 rfl) ?_
      refine lv_iload hx hb d_Giving_possible_17 (lv_at hl 3 rfl) ?_
      refine lv_icmp_ge (tgt := 63) hx hb d_Giving_possible_19 (by decide) (fun c_19 => ?_) (fun c_19 => ?_)
      · replace hf := (if_pos c_19).symm.trans hf
        refine lv_lload hx hb d_Giving_possible_63 (lv_at hl 4 rfl) ?_
        have hu := Option.some.inj hf
        exact m_retl () hx hb hr hlk hK hP hD hS hQ hAe (by rw [← hu]) (Nat.le_of_ble_eq_true rfl) (Nat.le_of_ble_eq_true rfl) d_Giving_possible_65
      · replace hf := (if_neg c_19).symm.trans hf
        refine lv_aload_n hx hb d_Giving_possible_22 rfl (lv_at hl 0 rfl) ?_
        refine va_get (D := D) (ci := 1) (v := .ref h_t_reach) (C := "RuleKernels$Giving") (T := T_Giving) (N := 6) hx hb hts w_i1 hown hK hP 0 rfl rfl 3 (by decide) w_f21 (fun _ h9 => h9) rfl d_Giving_possible_23 ?_
        refine lv_iload hx hb d_Giving_possible_26 (lv_at hl 5 rfl) ?_
        obtain ⟨h_28, hf⟩ := jin_some hf
        refine va_iald hx hb hK hP 2 0 rfl TY.1 h_28 d_Giving_possible_28 ?_
        refine lv_aload_n hx hb d_Giving_possible_29 rfl (lv_at hl 0 rfl) ?_
        refine va_get (D := D) (ci := 1) (v := .int t_movable) (C := "RuleKernels$Giving") (T := T_Giving) (N := 6) hx hb hts w_i1 hown hK hP 0 rfl rfl 5 (by decide) w_f28 (fun _ h9 => h9) rfl d_Giving_possible_30 ?_
        refine lv_iconst (v := 1) hx hb d_Giving_possible_33 (by decide) ?_
        refine lv_iload_n hx hb d_Giving_possible_34 rfl (lv_at hl 2 rfl) ?_
        refine lv_ishl hx hb d_Giving_possible_35 ?_
        refine lv_ior hx hb d_Giving_possible_36 ?_
        refine lv_iand hx hb d_Giving_possible_37 ?_
        refine lv_if_eq (tgt := 57) hx hb d_Giving_possible_38 (by decide) (fun c_38 => ?_) (fun c_38 => ?_)
        · replace hf := (if_pos c_38).symm.trans hf
          exact L57 _ ih x5 x7 hf _ _ hP hD hS ls (lv_sub hl [0, 1, 2, 3, 4, 5] rfl)
        · replace hf := (if_neg c_38).symm.trans hf
          refine lv_lload hx hb d_Giving_possible_41 (lv_at hl 4 rfl) ?_
          refine lv_lload_n hx hb d_Giving_possible_43 rfl (lv_at hl 1 rfl) ?_
          refine lv_lconst (v := 1) hx hb d_Giving_possible_44 (by decide) ?_
          refine lv_aload_n hx hb d_Giving_possible_45 rfl (lv_at hl 0 rfl) ?_
          refine va_get (D := D) (ci := 1) (v := .ref h_t_given) (C := "RuleKernels$Giving") (T := T_Giving) (N := 6) hx hb hts w_i1 hown hK hP 0 rfl rfl 0 (by decide) w_f9 (fun _ h9 => h9) rfl d_Giving_possible_46 ?_
          refine lv_iload hx hb d_Giving_possible_49 (lv_at hl 5 rfl) ?_
          obtain ⟨h_51, hf⟩ := jin_some hf
          refine va_iald hx hb hK hP 1 0 rfl TY.1 h_51 d_Giving_possible_51 ?_
          refine lv_lshl (v := (j_lshl (1 : Int64) (t_given x7.toNatClampNeg))) hx hb d_Giving_possible_52 rfl ?_
          refine lv_land hx hb d_Giving_possible_53 ?_
          refine lv_lor hx hb d_Giving_possible_54 ?_
          refine lv_lstore (lv' := [(5, .long (x5 ||| (a1 &&& (j_lshl (1 : Int64) (t_given x7.toNatClampNeg))))), (0, .ref h_t), (1, .long a1), (3, .int a3), (4, .int a4), (7, .int x7)]) hx hb d_Giving_possible_55 hl (by decide) rfl (fun ls hl => ?_)
          exact L57 _ ih (x5 ||| (a1 &&& (j_lshl (1 : Int64) (t_given x7.toNatClampNeg)))) x7 hf _ _ hP hD hS ls (lv_sub hl [1, 2, 3, 4, 0, 5] rfl)
  unfold p_Giving_possible at hf
  refine lv_lload_n hx hb d_Giving_possible_0 rfl (lv_at hl 1 rfl) ?_
  refine lv_aload_n hx hb d_Giving_possible_1 rfl (lv_at hl 0 rfl) ?_
  refine va_get (D := D) (ci := 1) (v := .long t_used) (C := "RuleKernels$Giving") (T := T_Giving) (N := 6) hx hb hts w_i1 hown hK hP 0 rfl rfl 4 (by decide) w_f24 (fun _ h9 => h9) rfl d_Giving_possible_2 ?_
  refine lv_ldc2 (v := -1) hx hb hown w_k36 d_Giving_possible_5 ?_
  refine lv_lxor hx hb d_Giving_possible_8 ?_
  refine lv_land hx hb d_Giving_possible_9 ?_
  refine lv_lstore (lv' := [(5, .long (a1 &&& (t_used ^^^ (-1 : Int64)))), (0, .ref h_t), (1, .long a1), (3, .int a3), (4, .int a4)]) hx hb d_Giving_possible_10 hl (by decide) rfl (fun ls hl => ?_)
  refine lv_iconst (v := 0) hx hb d_Giving_possible_12 (by decide) ?_
  refine lv_istore (lv' := [(7, .int (0 : Int32)), (5, .long (a1 &&& (t_used ^^^ (-1 : Int64)))), (0, .ref h_t), (1, .long a1), (3, .int a3), (4, .int a4)]) hx hb d_Giving_possible_13 hl (by decide) rfl (fun ls hl => ?_)
  exact L15  N (a1 &&& (t_used ^^^ (-1 : Int64))) (0 : Int32) hf _ _ hP hD hS ls (lv_sub hl [2, 3, 4, 5, 1, 0] rfl)
