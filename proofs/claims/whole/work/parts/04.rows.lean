/-! My own rows over the kit: a contract whose outcome is given, one row for a call, one for a return. -/
def mTy (tys : List (ClassId × FieldType)) (kI kL kZ kR kM : ClassId) : Prop := tys[0]? = some (kI, .int) ∧ tys[1]? = some (kL, .long) ∧ tys[2]? = some (kZ, .boolean) ∧ tys[3]? = some (kR, .object "RuleKernels$Rule") ∧ tys[4]? = some (kM, .object "RuleKernels$Mark")
/-- words of the tables that no caller hands on as words: the nest's links, the arrays of objects -/
def mNest (U : State) : Prop := va_Nw (Cond.methodLinkNest "RuleKernels$Board" 45 ⟨"RuleKernels", "has", "(JI)Z"⟩ "RuleKernels") U ∧ va_Nw (Cond.methodLinkNest "RuleKernels$Giving" 48 ⟨"RuleKernels", "has", "(JI)Z"⟩ "RuleKernels") U ∧ va_Nw (Cond.methodLinkNest "RuleKernels$Kernel" 115 ⟨"RuleKernels", "has", "(JI)Z"⟩ "RuleKernels") U ∧ va_Nw (Cond.methodLinkNest "RuleKernels$Rule" 40 ⟨"RuleKernels", "has", "(JI)Z"⟩ "RuleKernels") U ∧ va_AO "RuleKernels$Rule" U ∧ va_AO "RuleKernels$Mark" U
theorem mNest.same {u U : State} (e : u.vm = U.vm) (h : mNest u) : mNest U := ⟨va_Nw.same rfl e h.1, va_Nw.same rfl e h.2.1, va_Nw.same rfl e h.2.2.1, va_Nw.same rfl e h.2.2.2.1, va_AO.moved (by rw [e]; exact Vm.Alike.refl _) h.2.2.2.2.1, va_AO.moved (by rw [e]; exact Vm.Alike.refl _) h.2.2.2.2.2⟩
theorem mN_0 {s : State} (h : mNest s) : va_Nw (Cond.methodLinkNest "RuleKernels$Board" 45 ⟨"RuleKernels", "has", "(JI)Z"⟩ "RuleKernels") s := h.1
theorem mN_1 {s : State} (h : mNest s) : va_Nw (Cond.methodLinkNest "RuleKernels$Giving" 48 ⟨"RuleKernels", "has", "(JI)Z"⟩ "RuleKernels") s := h.2.1
theorem mN_2 {s : State} (h : mNest s) : va_Nw (Cond.methodLinkNest "RuleKernels$Kernel" 115 ⟨"RuleKernels", "has", "(JI)Z"⟩ "RuleKernels") s := h.2.2.1
theorem mN_3 {s : State} (h : mNest s) : va_Nw (Cond.methodLinkNest "RuleKernels$Rule" 40 ⟨"RuleKernels", "has", "(JI)Z"⟩ "RuleKernels") s := h.2.2.2.1
theorem mN_R {s : State} (h : mNest s) : va_AO "RuleKernels$Rule" s := h.2.2.2.2.1
theorem mN_M {s : State} (h : mNest s) : va_AO "RuleKernels$Mark" s := h.2.2.2.2.2
theorem mNest.moved {s U : State} (hW : s.WarmedH U.vm) (h : mNest s) : mNest U := ⟨va_Nw.warmM hW h.1, va_Nw.warmM hW h.2.1, va_Nw.warmM hW h.2.2.1, va_Nw.warmM hW h.2.2.2.1, va_AO.moved hW.alike h.2.2.2.2.1, va_AO.moved hW.alike h.2.2.2.2.2⟩
def mPre (D : va_G) (tys : List (ClassId × FieldType)) (av : List Value) (w : va_W) (sz : Nat) : Array Value → State → Prop :=
  va_Pc av (fun U => U.heap.size = sz ∧ va_P D vwCl w U.heap ∧ va_K D vwCl tys U ∧ mNest U ∧ va_D (fun _ => True) w)
def mPost {X : Type} (D : va_G) (tys : List (ClassId × FieldType)) (o : X → Option Value) (w : va_W) (w' : X → va_W) (sz : Nat) : Array Value → State → Outcome → State → Prop :=
  fun _ st oc t => (∃ x : X, oc = .returned (o x) ∧ va_P D vwCl (w' x) t.heap ∧ va_K D vwCl tys t ∧ va_D (va_A w sz) (w' x)) ∧ va_F (va_A w sz) st t
theorem mPre_blind {D : va_G} {tys : List (ClassId × FieldType)} {av : List Value} {w : va_W} {sz : Nat} : FrameBlind (mPre D tys av w sz) := fun a U g mk q => by
  obtain ⟨q0, q1, qP, qK, qN, qD⟩ := q
  exact ⟨q0, q1, qP, va_K.moved (u := U) (U := U.calling g mk a) (Vm.Alike.refl U.vm) qK, mNest.same (u := U) (U := U.calling g mk a) rfl qN, qD⟩
theorem m_subP {D : va_G} {ws wc : va_W} {H : Heap} (hP : va_P D vwCl ws H) (is : List Nat) (hC : is.map (fun i => ws[i]?) = wc.map some) : va_P D vwCl wc H := by
  intro k q hk
  obtain ⟨i, -, hi⟩ := va_in_of is hC hk
  exact hP i q hi
section MROWS
variable {p : Program} {l : Launch} {e : Env} {R : Room} {s : State} {m : MethodId} {args : Array Value} {below : List Frame} {meth : Method} {c : Code} {H : Heap} {locs : List Loc} {cells slots : Nat} {Q : State → Prop}
variable {D : va_G} {tys : List (ClassId × FieldType)} {A0 : Nat → Prop} {H0 : Heap} {ws wc wr wn : va_W} {mc ms pc : Nat} {ls : Array Slot} {rest st0 : List Value} {a : Array Value}
theorem m_preS (hK : va_K D vwCl tys s) (hN : mNest s) (hP : va_P D vwCl ws H) (hD : va_D A0 ws) (is : List Nat) (hC : is.map (fun i => ws[i]?) = wc.map some) (hn : va_nd is = true) (As : List Value) : PreS s H (mPre D tys As wc H.size) As :=
  ⟨mPre_blind, fun U hU hW => ⟨rfl, by rw [hU], by rw [hU]; exact m_subP hP is hC, va_K.moved hW.alike hK, hN.moved hW, (hD.sub is hn hC).weaken (fun _ _ _ _ => trivial)⟩⟩
theorem m_preV (hK : va_K D vwCl tys s) (hN : mNest s) (hP : va_P D vwCl ws H) (hD : va_D A0 ws) (is : List Nat) (hC : is.map (fun i => ws[i]?) = wc.map some) (hn : va_nd is = true) {b q0 ci : Nat} {q : vw_C} {fs : List Value} (hc : vwCl[ci]? = some q) (he : wc[q0]? = some (b, .inr (ci, fs))) (As : List Value) : PreV s H q.1 b (mPre D tys (.ref b :: As) wc H.size) As :=
  ⟨mPre_blind, va_recv hK (m_subP hP is hC) hc he, fun U hU hW => ⟨rfl, by rw [hU], by rw [hU]; exact m_subP hP is hC, va_K.moved hW.alike hK, hN.moved hW, (hD.sub is hn hC).weaken (fun _ _ _ _ => trivial)⟩⟩
/-- behind a call: the world with the callee's cells as it left them, in the order that is named -/
theorem m_call {X : Type} {o : X → Option Value} {w1 : X → va_W} {wn : X → va_W} (hr : va_Run p l e R s m args below meth c H locs cells slots mc ms (F0 m pc ls st0) rest (mPost D tys o wc w1 H.size a) (va_A wc H.size))
    (hP : va_P D vwCl ws H) (hD : va_D A0 ws) (hS : va_S A0 H0 H locs) (hA : ∀ q, H0.size ≤ q → A0 q) (isC isR isN : List Nat) (hC : isC.map (fun i => ws[i]?) = wc.map some) (hR : isR.map (fun i => ws[i]?) = wr.map some) (hn : va_nd isR = true) (hdis : ∀ i ∈ isR, i ∉ isC)
    (hnN : va_nd isN = true) (hN : ∀ x, isN.map (fun i => (wr ++ w1 x)[i]?) = (wn x).map some)
    (kk : ∀ (x : X) (H1 : Heap) (locs1 : List Loc), va_P D vwCl (wn x) H1 → va_D A0 (wn x) → va_S A0 H0 H1 locs1 → W p l e R s m args below meth c H1 locs1 (cells + mc) (slots + ms) Q (F0 m (pc + 3) ls ((o x).toList ++ rest))) : W p l e R s m args below meth c H locs cells slots Q (F0 m pc ls st0) := by
  intro T hT X0
  have hF := va_free (wc := wc) hD hS hA isC hC
  obtain ⟨v, st₀, t, T', L, h0, X', hL, e1, e2, ⟨⟨x, hv, hp1, hk1, hd1⟩, hz, hk⟩, st⟩ := hr T hT X0
  cases hv
  rw [h0] at hz hk
  have hp1' : va_P D vwCl (w1 x) T'.heap := by rw [e1]; exact hp1
  obtain ⟨hPn, hDn⟩ := va_join (H1 := T'.heap) hP hD isC isR hC hR hn hdis (fun q h1 h2 => by rw [e1]; exact hk q h1 h2) hF hp1' hd1
  obtain ⟨t2, a1, b1⟩ := kk x T'.heap (locs ++ L) (m_subP hPn isN (hN x)) (hDn.sub isN hnN (hN x))
    ⟨Nat.le_trans hS.1 (by rw [e1]; exact hz), fun q h1 h2 => by rw [e1, hk q (Nat.lt_of_lt_of_le h1 hS.1) (fun z => h2 (hF q z))]; exact hS.2.1 q h1 h2, fun q hq => by
      rcases List.mem_append.mp hq with h | h
      · exact hS.2.2 q h
      · exact hF _ (hL q h)⟩ T' rfl X'
  exact ⟨t2, st t2 a1, b1⟩
variable {X : Type} {o : X → Option Value} {w : va_W} {w' : X → va_W} {cc : ByteArray}
theorem m_retv {A : Nat → Prop} (x : X) (hx : p.tables.exec = Jvm.exec) (hb : c.code = cc) (hr : meth.sig.returnType = none) (hlk : meth.locks = false) (hK : va_K D vwCl tys s) (hP : va_P D vwCl (w' x) H) (hD : va_D A (w' x)) (hS : va_S A s.heap H locs) (hQ : MQ below (mPost D tys o w w' s.heap.size) args s mc ms (va_A w s.heap.size) = Q) (hAe : va_A w s.heap.size = A) (ho : o x = none) (h1 : cells ≤ mc) (h2 : slots ≤ ms) (hdg : decode cc pc = .ok (.return_, 1)) :
    W p l e R s m args below meth c H locs cells slots Q (F0 m pc ls []) := by
  subst hQ; subst hAe
  exact W.widen h1 h2 (W.vret hx hb hr (fun t ht hW => ⟨⟨x, by rw [ho], by rw [ht]; exact hP, va_K.moved hW.alike hK, hD⟩, hS.F ht⟩) hS.2.2 hdg hlk)
theorem m_reti {v : Int32} {A : Nat → Prop} (x : X) (hx : p.tables.exec = Jvm.exec) (hb : c.code = cc) (hr : meth.sig.returnType = some .int) (hlk : meth.locks = false) (hK : va_K D vwCl tys s) (hP : va_P D vwCl (w' x) H) (hD : va_D A (w' x)) (hS : va_S A s.heap H locs) (hQ : MQ below (mPost D tys o w w' s.heap.size) args s mc ms (va_A w s.heap.size) = Q) (hAe : va_A w s.heap.size = A) (ho : o x = some (.int v)) (h1 : cells ≤ mc) (h2 : slots ≤ ms) (hdg : decode cc pc = .ok (.ireturn, 1)) :
    W p l e R s m args below meth c H locs cells slots Q (F0 m pc ls [.int v]) := by
  subst hQ; subst hAe
  exact W.widen h1 h2 (W.iret hx hb hr (fun t ht hW => ⟨⟨x, by rw [ho], by rw [ht]; exact hP, va_K.moved hW.alike hK, hD⟩, hS.F ht⟩) hS.2.2 hdg hlk)
theorem m_retz {v : Int32} {A : Nat → Prop} (x : X) (hx : p.tables.exec = Jvm.exec) (hb : c.code = cc) (hr : meth.sig.returnType = some .boolean) (hlk : meth.locks = false) (hK : va_K D vwCl tys s) (hP : va_P D vwCl (w' x) H) (hD : va_D A (w' x)) (hS : va_S A s.heap H locs) (hQ : MQ below (mPost D tys o w w' s.heap.size) args s mc ms (va_A w s.heap.size) = Q) (hAe : va_A w s.heap.size = A) (hv : narrow .boolean (.int v) = .int v) (ho : o x = some (.int v)) (h1 : cells ≤ mc) (h2 : slots ≤ ms) (hdg : decode cc pc = .ok (.ireturn, 1)) :
    W p l e R s m args below meth c H locs cells slots Q (F0 m pc ls [.int v]) := by
  subst hQ; subst hAe
  exact W.widen h1 h2 (W.zret hx hb hr hv (fun t ht hW => ⟨⟨x, by rw [ho], by rw [ht]; exact hP, va_K.moved hW.alike hK, hD⟩, hS.F ht⟩) hS.2.2 hdg hlk)
theorem m_retl {v : Int64} {A : Nat → Prop} (x : X) (hx : p.tables.exec = Jvm.exec) (hb : c.code = cc) (hr : meth.sig.returnType = some .long) (hlk : meth.locks = false) (hK : va_K D vwCl tys s) (hP : va_P D vwCl (w' x) H) (hD : va_D A (w' x)) (hS : va_S A s.heap H locs) (hQ : MQ below (mPost D tys o w w' s.heap.size) args s mc ms (va_A w s.heap.size) = Q) (hAe : va_A w s.heap.size = A) (ho : o x = some (.long v)) (h1 : cells ≤ mc) (h2 : slots ≤ ms) (hdg : decode cc pc = .ok (.lreturn, 1)) :
    W p l e R s m args below meth c H locs cells slots Q (F0 m pc ls [.long v]) := by
  subst hQ; subst hAe
  exact W.widen h1 h2 (W.lret hx hb hr (fun t ht hW => ⟨⟨x, by rw [ho], by rw [ht]; exact hP, va_K.moved hW.alike hK, hD⟩, hS.F ht⟩) hS.2.2 hdg hlk)
theorem m_reta {v : Value} {rt : FieldType} {A : Nat → Prop} (x : X) (hx : p.tables.exec = Jvm.exec) (hb : c.code = cc) (hr : meth.sig.returnType = some rt) (hrt : (∃ n, rt = .object n) ∨ ∃ t, rt = .array t) (hlk : meth.locks = false) (hK : va_K D vwCl tys s) (hP : va_P D vwCl (w' x) H) (hD : va_D A (w' x)) (hS : va_S A s.heap H locs) (hQ : MQ below (mPost D tys o w w' s.heap.size) args s mc ms (va_A w s.heap.size) = Q) (hAe : va_A w s.heap.size = A) (hv : v = .null ∨ ∃ a, v = .ref a) (ho : o x = some v) (h1 : cells ≤ mc) (h2 : slots ≤ ms) (hdg : decode cc pc = .ok (.areturn, 1)) :
    W p l e R s m args below meth c H locs cells slots Q (F0 m pc ls [v]) := by
  subst hQ; subst hAe
  exact W.widen h1 h2 (W.aret hx hb hr hrt hv (fun t ht hW => ⟨⟨x, by rw [ho], by rw [ht]; exact hP, va_K.moved hW.alike hK, hD⟩, hS.F ht⟩) hS.2.2 hdg hlk)
end MROWS
/-- a method's contract out of the walk of its body -/
theorem m_ofW {l : Launch} {y : MethodName} {wds wds' : List Cond} {rm : Room} {D : va_G} {tys : List (ClassId × FieldType)} {av : List Value} {w : va_W} {X : Type} {o : X → Option Value} {w' : X → va_W} {mc ms : Nat} {cc : ByteArray} {maxL : Nat} {ret : Option FieldType} (hy : plainName y.cls = true) (hw : wds = Cond.code y cc maxL ret :: wds') (hlen : (lg_sl av).length ≤ maxL)
    (body : ∀ (p : Program) (e : Env) (s : State) (m : MethodId) (args : Array Value) (below : List Frame) (meth : Method) (c : Code) (ls : Array Slot) (Q : State → Prop) (A : Nat → Prop), p.tables.exec = Jvm.exec → c.code = cc → c.maxLocals = maxL → meth.sig.returnType = ret → (∀ q ∈ wds, q.before args s = true) → s.vm.findClass y.cls = some m.cls → meth.name = y.name → meth.locks = false → va_K D vwCl tys s → mNest s → va_P D vwCl w s.heap → va_D A w → (∀ q, s.heap.size ≤ q → A q) → va_S A s.heap s.heap [] → lv_has ls maxL (lv_args 0 av) → MQ below (mPost D tys o w w' s.heap.size) args s mc ms (va_A w s.heap.size) = Q → va_A w s.heap.size = A →
      W p l e rm s m args below meth c s.heap [] 0 0 Q (F0 m 0 ls [])) (sz : Nat) : Met l y wds rm (mPre D tys av w sz) (mPost D tys o w w' sz) mc ms (va_A w sz) := by
  refine Met.ofW (cc := cc) (maxL := maxL) (ret := ret) hy hw ?_
  intro p e s m args below meth c s₁ B hml hv
  obtain ⟨rfl, hsz, hP, hK, hN, hD0⟩ := hv
  subst hsz
  have hl := lv_entry av (n := maxL) hlen
  rw [lg_entry_eq]
  exact body p e s m _ below meth c _ _ _ B.exec B.bytes hml B.returns (atoms_spec (ws := wds) B.pre) (findClass_of_methodNamed B.named) (name_of_methodNamed B.named B.method).1 B.notSynchronized hK hN hP (hD0.self (sz := s.heap.size)) (fun q h => Or.inr h) va_S.rf hl rfl rfl
theorem jb {α β : Type} {x : Option α} {f : α → Option β} {o : β} (h : x.bind f = some o) : ∃ z, x = some z ∧ f z = some o := by
  cases x with
  | none => cases h
  | some z => exact ⟨z, rfl, h⟩
def jin {α : Type} (x : Int32) (n : Nat) (k : Option α) : Option α := if x < 0 ∨ n ≤ x.toNatClampNeg then none else k
theorem jin_some {α : Type} {x : Int32} {n : Nat} {k : Option α} {o : α} (h : jin x n k = some o) : vp_in x n ∧ k = some o := by
  unfold jin at h
  by_cases hc : x < 0 ∨ n ≤ x.toNatClampNeg
  · rw [if_pos hc] at h; cases h
  · rw [if_neg hc] at h; exact ⟨hc, h⟩
theorem jin_nI {α : Type} {i n : Nat} {k : Option α} (h : i < n) (hn : n < 2 ^ 31) : jin (nI i) n k = k := by
  unfold jin
  exact if_neg (vp_in_nI h hn)
def j_lshl (x : Int64) (y : Int32) : Int64 := x <<< (y.toInt64 &&& 63)
def j_lushr (x : Int64) (y : Int32) : Int64 := (x.toUInt64 >>> (y.toInt64.toUInt64 &&& Int64.toUInt64 63)).toInt64
def j_lshr (x : Int64) (y : Int32) : Int64 := x >>> (y.toInt64 &&& 63)
def j_iushr (x y : Int32) : Int32 := (x.toUInt32 >>> (y.toUInt32 &&& Int32.toUInt32 31)).toInt32
/-- a guard: an option of nothing where the room or an allocation does not hold -/
def jg {α : Type} (b : Bool) (k : Option α) : Option α := match b with
  | true => k
  | false => none
theorem jg_some {α : Type} {b : Bool} {k : Option α} {o : α} (h : jg b k = some o) : b = true ∧ k = some o := by
  cases b with
  | true => exact ⟨rfl, h⟩
  | false => cases h
/-- a new array's length: not below nothing, and at most lim -/
def jnw {α : Type} (x : Int32) (lim : Nat) (k : Option α) : Option α := if x < 0 ∨ lim < x.toNatClampNeg then none else k
theorem jnw_some {α : Type} {x : Int32} {lim : Nat} {k : Option α} {o : α} (h : jnw x lim k = some o) : (¬ x < 0 ∧ x.toNatClampNeg ≤ lim) ∧ k = some o := by
  unfold jnw at h
  by_cases hc : x < 0 ∨ lim < x.toNatClampNeg
  · rw [if_pos hc] at h; cases h
  · rw [if_neg hc] at h; exact ⟨⟨fun z => hc (Or.inl z), Nat.le_of_not_lt (fun z => hc (Or.inr z))⟩, h⟩
section MNEW
variable {p : Program} {l : Launch} {e : Env} {R : Room} {s : State} {m : MethodId} {args : Array Value} {below : List Frame} {meth : Method} {c : Code} {H : Heap} {locs : List Loc} {cells slots : Nat} {Q : State → Prop}
variable {D : va_G} {tys : List (ClassId × FieldType)} {kI kL kZ kR kM : ClassId} {A : Nat → Prop} {H0 : Heap} {ws : va_W} {pc : Nat} {ls : Array Slot} {rest : List Value} {cc : ByteArray}
theorem m_newI (hexec : p.tables.exec = Jvm.exec) (hb : c.code = cc) (harr : (Cond.arrayClass .int).before args s = true) (TY : mTy tys kI kL kZ kR kM) (hK : va_K D vwCl tys s) (hP : va_P D vwCl ws H) (hD : va_D A ws) (hS : va_S A H0 H locs) (hA : ∀ q, H0.size ≤ q → A q) {n : Int32} {N' : Nat} (hn : ¬ n < 0) (hN : n.toNatClampNeg = N') (hbytes : N' * 4 ≤ 536870912) (hcells : cells + 1 ≤ R.cells) (hslots : slots + N' ≤ R.slots) (hdg : decode cc pc = .ok (.newarray .int, 2))
    (kk : ∀ (q : Nat) (H1 : Heap), va_P D vwCl (ws ++ [(q, .inl (kI, N', .inl (fun _ => 0)))]) H1 → va_D A (ws ++ [(q, .inl (kI, N', .inl (fun _ => 0)))]) → va_S A H0 H1 locs → W p l e R s m args below meth c H1 locs (cells + 1) (slots + N') Q (F0 m (pc + 2) ls (.ref q :: rest))) : W p l e R s m args below meth c H locs cells slots Q (F0 m pc ls (.int n :: rest)) := by
  refine va_newa (atype := .int) (ty := .int) (a0 := (N', .inl (fun _ => 0))) hexec hb harr rfl hK hP hD hS hA (fun _ => rfl) hn hN hbytes hcells hslots hdg (fun q cA H1 hK1 hP1 hD1 hS1 => ?_)
  have e1 := va_nm_int (hK.2 0 _ TY.1).2
  have e2 := va_nm_int (hK1.2 tys.length (cA, .int) (by simp)).2
  have e3 : kI = cA := Option.some.inj (e1.symm.trans e2)
  subst e3
  exact kk q H1 hP1 hD1 hS1
theorem m_newJ (hexec : p.tables.exec = Jvm.exec) (hb : c.code = cc) (harr : (Cond.arrayClass .long).before args s = true) (TY : mTy tys kI kL kZ kR kM) (hK : va_K D vwCl tys s) (hP : va_P D vwCl ws H) (hD : va_D A ws) (hS : va_S A H0 H locs) (hA : ∀ q, H0.size ≤ q → A q) {n : Int32} {N' : Nat} (hn : ¬ n < 0) (hN : n.toNatClampNeg = N') (hbytes : N' * 8 ≤ 536870912) (hcells : cells + 1 ≤ R.cells) (hslots : slots + N' ≤ R.slots) (hdg : decode cc pc = .ok (.newarray .long, 2))
    (kk : ∀ (q : Nat) (H1 : Heap), va_P D vwCl (ws ++ [(q, .inl (kL, N', .inr (.inl (fun _ => 0))))]) H1 → va_D A (ws ++ [(q, .inl (kL, N', .inr (.inl (fun _ => 0))))]) → va_S A H0 H1 locs → W p l e R s m args below meth c H1 locs (cells + 1) (slots + N') Q (F0 m (pc + 2) ls (.ref q :: rest))) : W p l e R s m args below meth c H locs cells slots Q (F0 m pc ls (.int n :: rest)) := by
  refine va_newa (atype := .long) (ty := .long) (a0 := (N', .inr (.inl (fun _ => 0)))) hexec hb harr rfl hK hP hD hS hA (fun _ => rfl) hn hN hbytes hcells hslots hdg (fun q cA H1 hK1 hP1 hD1 hS1 => ?_)
  have e1 := va_nm_long (hK.2 1 _ TY.2.1).2
  have e2 := va_nm_long (hK1.2 tys.length (cA, .long) (by simp)).2
  have e3 : kL = cA := Option.some.inj (e1.symm.trans e2)
  subst e3
  exact kk q H1 hP1 hD1 hS1
theorem m_newZ (hexec : p.tables.exec = Jvm.exec) (hb : c.code = cc) (harr : (Cond.arrayClass .boolean).before args s = true) (TY : mTy tys kI kL kZ kR kM) (hK : va_K D vwCl tys s) (hP : va_P D vwCl ws H) (hD : va_D A ws) (hS : va_S A H0 H locs) (hA : ∀ q, H0.size ≤ q → A q) {n : Int32} {N' : Nat} (hn : ¬ n < 0) (hN : n.toNatClampNeg = N') (hbytes : N' * 1 ≤ 536870912) (hcells : cells + 1 ≤ R.cells) (hslots : slots + N' ≤ R.slots) (hdg : decode cc pc = .ok (.newarray .boolean, 2))
    (kk : ∀ (q : Nat) (H1 : Heap), va_P D vwCl (ws ++ [(q, .inl (kZ, N', .inl (fun _ => 0)))]) H1 → va_D A (ws ++ [(q, .inl (kZ, N', .inl (fun _ => 0)))]) → va_S A H0 H1 locs → W p l e R s m args below meth c H1 locs (cells + 1) (slots + N') Q (F0 m (pc + 2) ls (.ref q :: rest))) : W p l e R s m args below meth c H locs cells slots Q (F0 m pc ls (.int n :: rest)) := by
  refine va_newa (atype := .boolean) (ty := .boolean) (a0 := (N', .inl (fun _ => 0))) hexec hb harr rfl hK hP hD hS hA (fun _ => rfl) hn hN hbytes hcells hslots hdg (fun q cA H1 hK1 hP1 hD1 hS1 => ?_)
  have e1 := va_nm_boolean (hK.2 2 _ TY.2.2.1).2
  have e2 := va_nm_boolean (hK1.2 tys.length (cA, .boolean) (by simp)).2
  have e3 : kZ = cA := Option.some.inj (e1.symm.trans e2)
  subst e3
  exact kk q H1 hP1 hD1 hS1
end MNEW
/-- System.arraycopy's own guards -/
def jcp {α : Type} (sp dp n : Int32) (n0 n1 : Nat) (k : Option α) : Option α := if sp < 0 ∨ dp < 0 ∨ n < 0 ∨ n0 < sp.toNatClampNeg + n.toNatClampNeg ∨ n1 < dp.toNatClampNeg + n.toNatClampNeg then none else k
theorem jcp_some {α : Type} {sp dp n : Int32} {n0 n1 : Nat} {k : Option α} {o : α} (h : jcp sp dp n n0 n1 k = some o) : (¬ sp < 0 ∧ ¬ dp < 0 ∧ ¬ n < 0 ∧ sp.toNatClampNeg + n.toNatClampNeg ≤ n0 ∧ dp.toNatClampNeg + n.toNatClampNeg ≤ n1) ∧ k = some o := by
  unfold jcp at h
  by_cases hc : sp < 0 ∨ dp < 0 ∨ n < 0 ∨ n0 < sp.toNatClampNeg + n.toNatClampNeg ∨ n1 < dp.toNatClampNeg + n.toNatClampNeg
  · rw [if_pos hc] at h; cases h
  · rw [if_neg hc] at h
    exact ⟨⟨fun z => hc (Or.inl z), fun z => hc (Or.inr (Or.inl z)), fun z => hc (Or.inr (Or.inr (Or.inl z))), Nat.le_of_not_lt (fun z => hc (Or.inr (Or.inr (Or.inr (Or.inl z))))), Nat.le_of_not_lt (fun z => hc (Or.inr (Or.inr (Or.inr (Or.inr z)))))⟩, h⟩

