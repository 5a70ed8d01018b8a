def jix (n j : Nat) : Option Nat := if j < n then some j else none
abbrev RAdr : Type := Nat × Nat × Nat × Nat
abbrev MAdr : Type := Nat × Nat × Nat × Nat × Nat × Nat
/-- a rule's own words: length of the partners, kind, right, size, pairs, places, factors, partners -/
abbrev RData : Type := Nat × Int32 × Int64 × Int32 × Int32 × (Nat → Int32) × (Nat → Int32) × (Nat → Int64)
/-- a mark's: gone, the row's head and size, ring, waits, the count of what was told, the numbers -/
abbrev MData : Type := Int32 × Int32 × Int32 × (Nat → Int32) × (Nat → Int32) × Int32 × (Nat → Int32)
def pix {α : Type} (n : Nat) (f : Nat → Nat × α) : Nat → Option Nat := fun j => Option.map (fun i => (f i).1) (jix n j)
theorem pix_push {α : Type} {n : Nat} {f : Nat → Nat × α} (a : Nat × α) {j : Nat} (h : j = n) : va_up (pix n f) j (some a.1) = pix (n + 1) (va_up f n a) := by
  subst h
  funext i
  unfold pix va_up jix
  by_cases h1 : i = j
  · subst h1
    simp
  · by_cases h2 : i < j
    · have h3 : i < j + 1 := by omega
      simp [h1, h2, h3]
    · have h3 : ¬ i < j + 1 := by omega
      simp [h1, h2, h3]
theorem pix_0 {α : Type} (f : Nat → Nat × α) : pix 0 f = fun _ => none := by
  funext i
  unfold pix jix
  simp
def jlt {α : Type} (i n : Nat) (k : Option α) : Option α := if i < n then k else none
theorem jlt_some {α : Type} {i n : Nat} {k : Option α} {o : α} (h : jlt i n k = some o) : i < n ∧ k = some o := by
  unfold jlt at h
  by_cases hc : i < n
  · rw [if_pos hc] at h; exact ⟨hc, h⟩
  · rw [if_neg hc] at h; cases h
def jeq {α : Type} (i n : Nat) (k : Option α) : Option α := if i = n then k else none
theorem jeq_some {α : Type} {i n : Nat} {k : Option α} {o : α} (h : jeq i n k = some o) : i = n ∧ k = some o := by
  unfold jeq at h
  by_cases hc : i = n
  · rw [if_pos hc] at h; exact ⟨hc, h⟩
  · rw [if_neg hc] at h; cases h
/-! Worlds with a tail, and clusters of cells in any number. -/
theorem m_leftP {D : va_G} {X T : va_W} {H : Heap} (h : va_P D vwCl (X ++ T) H) : va_P D vwCl X H := fun k q hk => h k q (by rw [List.getElem?_append_left (List.getElem?_eq_some_iff.mp hk).1]; exact hk)
theorem m_leftD {A : Nat → Prop} {X T : va_W} (h : va_D A (X ++ T)) : va_D A X := by
  have g : ∀ (k : Nat) (q : Nat × va_E), X[k]? = some q → (X ++ T)[k]? = some q := fun k q hk => by rw [List.getElem?_append_left (List.getElem?_eq_some_iff.mp hk).1]; exact hk
  exact ⟨fun i j a b ha hb e => h.1 i j a b (g i a ha) (g j b hb) e, fun k q hk => h.2 k q (g k q hk)⟩
theorem m_P_iff {D : va_G} {ws : va_W} {H : Heap} : va_P D vwCl ws H ↔ ∀ q ∈ ws, va_at D vwCl q H := by
  constructor
  · intro h q hq
    obtain ⟨i, hi⟩ := List.getElem?_of_mem hq
    exact h i q hi
  · intro h k q hk
    exact h q (List.mem_of_getElem? hk)
theorem m_D_iff {A : Nat → Prop} {ws : va_W} : va_D A ws ↔ (ws.map Prod.fst).Nodup ∧ ∀ q ∈ ws, A q.1 := by
  constructor
  · intro h
    refine ⟨List.pairwise_iff_getElem.mpr ?_, fun q hq => ?_⟩
    · intro i j hi hj hij e
      have hi' : i < ws.length := by simpa using hi
      have hj' : j < ws.length := by simpa using hj
      rw [List.getElem_map, List.getElem_map] at e
      have := h.1 i j ws[i] ws[j] (List.getElem?_eq_getElem hi') (List.getElem?_eq_getElem hj') e
      omega
    · obtain ⟨i, hi⟩ := List.getElem?_of_mem hq
      exact h.2 i q hi
  · rintro ⟨h1, h2⟩
    have h1 := List.pairwise_iff_getElem.mp h1
    refine ⟨fun i j a b ha hb e => ?_, fun k q hk => h2 q (List.mem_of_getElem? hk)⟩
    obtain ⟨li, ei⟩ := List.getElem?_eq_some_iff.mp ha
    obtain ⟨lj, ej⟩ := List.getElem?_eq_some_iff.mp hb
    rcases Nat.lt_trichotomy i j with h | h | h
    · exact absurd (by rw [List.getElem_map, List.getElem_map, ei, ej]; exact e) (h1 i j (by simpa using li) (by simpa using lj) h)
    · exact h
    · exact absurd (by rw [List.getElem_map, List.getElem_map, ei, ej]; exact e.symm) (h1 j i (by simpa using lj) (by simpa using li) h)
theorem m_permP {D : va_G} {a b : va_W} {H : Heap} (p : a.Perm b) (h : va_P D vwCl a H) : va_P D vwCl b H := m_P_iff.mpr (fun q hq => m_P_iff.mp h q (p.mem_iff.mpr hq))
theorem m_permD {A : Nat → Prop} {a b : va_W} (p : a.Perm b) (h : va_D A a) : va_D A b := by
  obtain ⟨h1, h2⟩ := m_D_iff.mp h
  exact m_D_iff.mpr ⟨((p.map Prod.fst).nodup_iff).mp h1, fun q hq => h2 q (p.mem_iff.mpr hq)⟩
/-- n clusters of cells -/
def rtail (n : Nat) (f : Nat → va_W) : va_W := (List.range n).flatMap f
/-- all but the i-th -/
def rrest (n : Nat) (f : Nat → va_W) (i : Nat) : va_W := ((List.range n).filter (fun j => !(j == i))).flatMap f
theorem rsplit (n i : Nat) (f : Nat → va_W) (h : i < n) : (rtail n f).Perm (f i ++ rrest n f i) := by
  induction n with
  | zero => omega
  | succ n ih =>
    unfold rtail rrest at *
    rw [List.range_succ, List.flatMap_append, List.filter_append, List.flatMap_append]
    by_cases hi : i = n
    · subst hi
      have e : (List.range i).filter (fun j => !(j == i)) = List.range i := List.filter_eq_self.mpr (fun a ha => by
        have := List.mem_range.mp ha
        have : a ≠ i := by omega
        simp [this])
      have e2 : [i].filter (fun j => !(j == i)) = [] := by simp
      rw [e, e2]
      simp only [List.flatMap_cons, List.flatMap_nil, List.append_nil]
      exact List.perm_append_comm
    · have hlt : i < n := by omega
      have e2 : [n].filter (fun j => !(j == i)) = [n] := by
        have : n ≠ i := fun z => hi z.symm
        simp [this]
      rw [e2]
      have p := (ih hlt).append_right ([n].flatMap f)
      rw [List.append_assoc] at p
      exact p
theorem rrest_up (n i : Nat) (f : Nat → va_W) (w : va_W) : rrest n (va_up f i w) i = rrest n f i := by
  unfold rrest
  have : ∀ l : List Nat, (∀ j ∈ l, j ≠ i) → l.flatMap (va_up f i w) = l.flatMap f := by
    intro l
    induction l with
    | nil => intro _; rfl
    | cons a l ih =>
      intro h
      rw [List.flatMap_cons, List.flatMap_cons, ih (fun j hj => h j (List.mem_cons_of_mem _ hj))]
      have : va_up f i w a = f a := if_neg (h a List.mem_cons_self)
      rw [this]
  exact this _ (fun j hj => by
    have := (List.mem_filter.mp hj).2
    simpa using this)
theorem ropenp (n i : Nat) (f : Nat → va_W) (X T : va_W) (h : i < n) : (X ++ (rtail n f ++ T)).Perm ((X ++ f i) ++ (rrest n f i ++ T)) := by
  have p := ((rsplit n i f h).append_right T).append_left X
  have e : X ++ ((f i ++ rrest n f i) ++ T) = (X ++ f i) ++ (rrest n f i ++ T) := by simp only [List.append_assoc]
  rw [e] at p
  exact p
theorem rclosep (n i : Nat) (f : Nat → va_W) (w X T : va_W) (h : i < n) : ((X ++ w) ++ (rrest n f i ++ T)).Perm (X ++ (rtail n (va_up f i w) ++ T)) := by
  have p := (ropenp n i (va_up f i w) X T h).symm
  rw [rrest_up, show va_up f i w i = w from if_pos rfl] at p
  exact p
theorem rpush (n : Nat) (f : Nat → va_W) (w : va_W) : rtail (n + 1) (va_up f n w) = rtail n f ++ w := by
  unfold rtail
  rw [List.range_succ, List.flatMap_append]
  have e1 : (List.range n).flatMap (va_up f n w) = (List.range n).flatMap f := by
    have : ∀ l : List Nat, (∀ j ∈ l, j ≠ n) → l.flatMap (va_up f n w) = l.flatMap f := by
      intro l
      induction l with
      | nil => intro _; rfl
      | cons a l ih =>
        intro h
        rw [List.flatMap_cons, List.flatMap_cons, ih (fun j hj => h j (List.mem_cons_of_mem _ hj))]
        have : va_up f n w a = f a := if_neg (h a List.mem_cons_self)
        rw [this]
    exact this _ (fun j hj => by have := List.mem_range.mp hj; omega)
  have e2 : [n].flatMap (va_up f n w) = w := by
    simp only [List.flatMap_cons, List.flatMap_nil, List.append_nil]
    exact if_pos rfl
  rw [e1, e2]
theorem rpushp (n : Nat) (f : Nat → va_W) (w X T : va_W) : ((X ++ w) ++ (rtail n f ++ T)).Perm (X ++ (rtail (n + 1) (va_up f n w) ++ T)) := by
  rw [rpush]
  have e : (X ++ w) ++ (rtail n f ++ T) = X ++ ((w ++ rtail n f) ++ T) := by simp only [List.append_assoc]
  rw [e]
  exact ((List.perm_append_comm).append_right T).append_left X
section MTAIL
variable {p : Program} {l : Launch} {e : Env} {R : Room} {s : State} {m : MethodId} {args : Array Value} {below : List Frame} {meth : Method} {c : Code} {H : Heap} {locs : List Loc} {cells slots : Nat} {Q : State → Prop}
variable {D : va_G} {tys : List (ClassId × FieldType)} {A0 : Nat → Prop} {H0 : Heap} {X T wc wr : va_W} {mc ms pc : Nat} {ls : Array Slot} {rest st0 : List Value} {a : Array Value}
theorem m_callQ {Y : Type} {o : Y → Option Value} {w1 : Y → va_W} {wn : Y → va_W} (hr : va_Run p l e R s m args below meth c H locs cells slots mc ms (F0 m pc ls st0) rest (mPost D tys o wc w1 H.size a) (va_A wc H.size))
    (hP : va_P D vwCl (X ++ T) H) (hD : va_D A0 (X ++ T)) (hS : va_S A0 H0 H locs) (hA : ∀ q, H0.size ≤ q → A0 q) (isC isR isN : List Nat) (hC : isC.map (fun i => X[i]?) = wc.map some) (hR : isR.map (fun i => X[i]?) = wr.map some) (hn : va_nd isR = true) (hdis : ∀ i ∈ isR, i ∉ isC)
    (hnN : va_nd isN = true) (hN : ∀ x, isN.map (fun i => (wr ++ w1 x)[i]?) = (wn x).map some)
    (kk : ∀ (x : Y) (H1 : Heap) (locs1 : List Loc), va_P D vwCl (wn x ++ T) H1 → va_D A0 (wn x ++ T) → va_S A0 H0 H1 locs1 → W p l e R s m args below meth c H1 locs1 (cells + mc) (slots + ms) Q (F0 m (pc + 3) ls ((o x).toList ++ rest))) : W p l e R s m args below meth c H locs cells slots Q (F0 m pc ls st0) := by
  intro T0 hT X0
  have hF : ∀ q, va_A wc H.size q → A0 q := va_free (wc := wc) (m_leftD hD) hS hA isC hC
  obtain ⟨v, st₀, t, T', L, h0, X', hL, e1, e2, ⟨⟨x, hv, hp1, hk1, hd1⟩, hz, hk⟩, st⟩ := hr T0 hT X0
  cases hv
  rw [h0] at hz hk
  have hp1' : va_P D vwCl (w1 x) T'.heap := by rw [e1]; exact hp1
  obtain ⟨hPn, hDn⟩ := va_joinQ (H1 := T'.heap) hP hD isC isR hC hR hn hdis (fun q h1 h2 => by rw [e1]; exact hk q h1 h2) hF hp1' hd1
  obtain ⟨t2, a1, b1⟩ := kk x T'.heap (locs ++ L) (hPn.part isN (hN x)) (hDn.part isN hnN (hN x))
    ⟨Nat.le_trans hS.1 (by rw [e1]; exact hz), fun q h1 h2 => by rw [e1, hk q (Nat.lt_of_lt_of_le h1 hS.1) (fun z => h2 (hF q z))]; exact hS.2.1 q h1 h2, fun q hq => by
      rcases List.mem_append.mp hq with h | h
      · exact hS.2.2 q h
      · exact hF _ (hL q h)⟩ T' rfl X'
  exact ⟨t2, st t2 a1, b1⟩
/-- a call of a method that has the whole tail -/
theorem m_callP {Y : Type} {o : Y → Option Value} {w1 T1 : Y → va_W} {wn : Y → va_W} (hr : va_Run p l e R s m args below meth c H locs cells slots mc ms (F0 m pc ls st0) rest (mPost D tys o (wc ++ T) (fun x => w1 x ++ T1 x) H.size a) (va_A (wc ++ T) H.size))
    (hP : va_P D vwCl (X ++ T) H) (hD : va_D A0 (X ++ T)) (hS : va_S A0 H0 H locs) (hA : ∀ q, H0.size ≤ q → A0 q) (isC isR isN : List Nat) (hC : isC.map (fun i => X[i]?) = wc.map some) (hR : isR.map (fun i => X[i]?) = wr.map some) (hn : va_nd isR = true) (hdis : ∀ i ∈ isR, i ∉ isC)
    (hnN : va_nd isN = true) (hN : ∀ x, isN.map (fun i => (wr ++ w1 x)[i]?) = (wn x).map some)
    (kk : ∀ (x : Y) (H1 : Heap) (locs1 : List Loc), va_P D vwCl (wn x ++ T1 x) H1 → va_D A0 (wn x ++ T1 x) → va_S A0 H0 H1 locs1 → W p l e R s m args below meth c H1 locs1 (cells + mc) (slots + ms) Q (F0 m (pc + 3) ls ((o x).toList ++ rest))) : W p l e R s m args below meth c H locs cells slots Q (F0 m pc ls st0) := by
  intro T0 hT X0
  have hF : ∀ q, va_A (wc ++ T) H.size q → A0 q := va_freeP hD hS hA isC hC
  obtain ⟨v, st₀, t, T', L, h0, X', hL, e1, e2, ⟨⟨x, hv, hp1, hk1, hd1⟩, hz, hk⟩, st⟩ := hr T0 hT X0
  cases hv
  rw [h0] at hz hk
  have hp1' : va_P D vwCl (w1 x ++ T1 x) T'.heap := by rw [e1]; exact hp1
  obtain ⟨hPn, hDn⟩ := va_joinP (H1 := T'.heap) hP hD isC isR hC hR hn hdis (fun q h1 h2 => by rw [e1]; exact hk q h1 h2) hF hp1' hd1
  obtain ⟨t2, a1, b1⟩ := kk x T'.heap (locs ++ L) (hPn.part isN (hN x)) (hDn.part isN hnN (hN x))
    ⟨Nat.le_trans hS.1 (by rw [e1]; exact hz), fun q h1 h2 => by rw [e1, hk q (Nat.lt_of_lt_of_le h1 hS.1) (fun z => h2 (hF q z))]; exact hS.2.1 q h1 h2, fun q hq => by
      rcases List.mem_append.mp hq with h | h
      · exact hS.2.2 q h
      · exact hF _ (hL q h)⟩ T' rfl X'
  exact ⟨t2, st t2 a1, b1⟩
theorem m_prePV (hK : va_K D vwCl tys s) (hN : mNest s) (hP : va_P D vwCl (X ++ T) H) (hD : va_D A0 (X ++ T)) (is : List Nat) (hC : is.map (fun i => X[i]?) = wc.map some) (hn : va_nd is = true) {b q0 ci : Nat} {q : vw_C} {fs : List Value} (hc : vwCl[ci]? = some q) (he : wc[q0]? = some (b, .inr (ci, fs))) (As : List Value) : PreV s H q.1 b (mPre D tys (.ref b :: As) (wc ++ T) H.size) As :=
  ⟨mPre_blind, va_recv hK (m_leftP (hP.part is hC)) hc he, fun U hU hW => ⟨rfl, by rw [hU], by rw [hU]; exact hP.part is hC, va_K.moved hW.alike hK, hN.moved hW, (hD.part is hn hC).weaken (fun _ _ _ _ => trivial)⟩⟩
end MTAIL
def rcell (kI kL : ClassId) (a : RAdr) (r : RData) : va_W := [(a.1, .inr (5, [.int r.2.1, .long r.2.2.1, .ref a.2.1, .ref a.2.2.1, .ref a.2.2.2, .int r.2.2.2.1, .int r.2.2.2.2.1])), (a.2.1, .inl (kI, 16, .inl r.2.2.2.2.2.1)), (a.2.2.1, .inl (kI, 16, .inl r.2.2.2.2.2.2.1)), (a.2.2.2, .inl (kL, r.1, .inr (.inl r.2.2.2.2.2.2.2)))]
def mcell (kI kZ : ClassId) (a : MAdr) (r : MData) : va_W := [(a.1, .inr (3, [.int r.1, .ref a.2.1, .ref a.2.2.2.2.1])), (a.2.1, .inr (4, [.ref a.2.2.1, .ref a.2.2.2.1, .int r.2.1, .int r.2.2.1])), (a.2.2.1, .inl (kI, 120, .inl r.2.2.2.1)), (a.2.2.2.1, .inl (kZ, 120, .inl r.2.2.2.2.1)), (a.2.2.2.2.1, .inr (6, [.ref a.2.2.2.2.2, .int r.2.2.2.2.2.1])), (a.2.2.2.2.2, .inl (kI, 1000, .inl r.2.2.2.2.2.2))]
def rF_ (kI kL : ClassId) (f : Nat → RAdr) (g : Nat → RData) : Nat → va_W := fun i => rcell kI kL (f i) (g i)
def mF_ (kI kZ : ClassId) (f : Nat → MAdr) (g : Nat → MData) : Nat → va_W := fun i => mcell kI kZ (f i) (g i)
section POOLS
variable {kI kL kZ : ClassId} {n i : Nat} {X T : va_W} {RA : Nat → RAdr} {RF : Nat → RData} {MA : Nat → MAdr} {MF : Nat → MData}
theorem rF_up (r : RData) : va_up (rF_ kI kL RA RF) i (rcell kI kL (RA i) r) = rF_ kI kL RA (va_up RF i r) := by
  funext j
  unfold va_up rF_
  by_cases h : j = i
  · subst h; simp
  · simp [h]
theorem mF_up (r : MData) : va_up (mF_ kI kZ MA MF) i (mcell kI kZ (MA i) r) = mF_ kI kZ MA (va_up MF i r) := by
  funext j
  unfold va_up mF_
  by_cases h : j = i
  · subst h; simp
  · simp [h]
theorem rF_push (a : RAdr) (r : RData) : va_up (rF_ kI kL RA RF) n (rcell kI kL a r) = rF_ kI kL (va_up RA n a) (va_up RF n r) := by
  funext j
  unfold va_up rF_
  by_cases h : j = n
  · simp [h]
  · simp [h]
theorem mF_push (a : MAdr) (r : MData) : va_up (mF_ kI kZ MA MF) n (mcell kI kZ a r) = mF_ kI kZ (va_up MA n a) (va_up MF n r) := by
  funext j
  unfold va_up mF_
  by_cases h : j = n
  · simp [h]
  · simp [h]
theorem ropenR (h : i < n) : (X ++ (rtail n (rF_ kI kL RA RF) ++ T)).Perm ((X ++ rcell kI kL (RA i) (RF i)) ++ (rrest n (rF_ kI kL RA RF) i ++ T)) := ropenp n i _ X T h
theorem rcloseR {r : RData} (h : i < n) : ((X ++ rcell kI kL (RA i) r) ++ (rrest n (rF_ kI kL RA RF) i ++ T)).Perm (X ++ (rtail n (rF_ kI kL RA (va_up RF i r)) ++ T)) := by
  have p := rclosep n i (rF_ kI kL RA RF) (rcell kI kL (RA i) r) X T h
  rw [rF_up] at p
  exact p
theorem rpushR {a : RAdr} {r : RData} : ((X ++ rcell kI kL a r) ++ (rtail n (rF_ kI kL RA RF) ++ T)).Perm (X ++ (rtail (n + 1) (rF_ kI kL (va_up RA n a) (va_up RF n r)) ++ T)) := by
  have p := rpushp n (rF_ kI kL RA RF) (rcell kI kL a r) X T
  rw [rF_push] at p
  exact p
theorem p_swap (X A B : va_W) : (X ++ (A ++ B)).Perm (X ++ (B ++ A)) := List.Perm.append_left X List.perm_append_comm
theorem ropenM (h : i < n) : (X ++ (T ++ rtail n (mF_ kI kZ MA MF))).Perm ((X ++ mcell kI kZ (MA i) (MF i)) ++ (T ++ rrest n (mF_ kI kZ MA MF) i)) :=
  (p_swap X T _).trans ((ropenp n i (mF_ kI kZ MA MF) X T h).trans (p_swap _ _ T))
theorem rcloseM {r : MData} (h : i < n) : ((X ++ mcell kI kZ (MA i) r) ++ (T ++ rrest n (mF_ kI kZ MA MF) i)).Perm (X ++ (T ++ rtail n (mF_ kI kZ MA (va_up MF i r)))) := by
  have p := rclosep n i (mF_ kI kZ MA MF) (mcell kI kZ (MA i) r) X T h
  rw [mF_up] at p
  exact (p_swap _ T _).trans (p.trans (p_swap X _ T))
theorem rpushM {a : MAdr} {r : MData} : ((X ++ mcell kI kZ a r) ++ (T ++ rtail n (mF_ kI kZ MA MF))).Perm (X ++ (T ++ rtail (n + 1) (mF_ kI kZ (va_up MA n a) (va_up MF n r)))) := by
  have p := rpushp n (mF_ kI kZ MA MF) (mcell kI kZ a r) X T
  rw [mF_push] at p
  exact (p_swap _ T _).trans (p.trans (p_swap X _ T))
end POOLS
section MNEWR
variable {p : Program} {l : Launch} {e : Env} {R : Room} {s : State} {m : MethodId} {args : Array Value} {below : List Frame} {meth : Method} {c : Code} {H : Heap} {locs : List Loc} {cells slots : Nat} {Q : State → Prop}
variable {D : va_G} {tys : List (ClassId × FieldType)} {A : Nat → Prop} {H0 : Heap} {ws : va_W} {pc : Nat} {ls : Array Slot} {rest : List Value} {cc : ByteArray}
theorem m_newR (hexec : p.tables.exec = Jvm.exec) (hb : c.code = cc) {own C : String} {index t0 : Nat} {kX : ClassId} (hown : s.vm.findClass own = some m.cls) (hclink : (Cond.classLink own index C).before args s = true) (hover : va_AO C s) (hT : tys[t0]? = some (kX, .object C)) (hK : va_K D vwCl tys s) (hP : va_P D vwCl ws H) (hD : va_D A ws) (hS : va_S A H0 H locs) (hA : ∀ q, H0.size ≤ q → A q) {n : Int32} {N' : Nat} (hn : ¬ n < 0) (hN : n.toNatClampNeg = N') (hbytes : N' * 4 ≤ 536870912) (hcells : cells + 1 ≤ R.cells) (hslots : slots + N' ≤ R.slots) (hdg : decode cc pc = .ok (.anewarray index, 3))
    (kk : ∀ (q : Nat) (H1 : Heap), va_P D vwCl (ws ++ [(q, .inl (kX, N', .inr (.inr (.inr (.inr (fun _ => none))))))]) H1 → va_D A (ws ++ [(q, .inl (kX, N', .inr (.inr (.inr (.inr (fun _ => none))))))]) → va_S A H0 H1 locs → W p l e R s m args below meth c H1 locs (cells + 1) (slots + N') Q (F0 m (pc + 3) ls (.ref q :: rest))) : W p l e R s m args below meth c H locs cells slots Q (F0 m pc ls (.int n :: rest)) := by
  refine va_newq hexec hb hown hclink hover hK hP hD hS hA hn hN hbytes hcells hslots hdg (fun q cA H1 hK1 hP1 hD1 hS1 => ?_)
  obtain ⟨kA, comp, -, -, -, e1⟩ := (hK.2 t0 _ hT).2
  obtain ⟨kB, comp2, -, -, -, e2⟩ := (hK1.2 tys.length (cA, .object C) (by simp)).2
  have e3 : kX = cA := Option.some.inj (e1.symm.trans e2)
  subst e3
  exact kk q H1 hP1 hD1 hS1
end MNEWR

