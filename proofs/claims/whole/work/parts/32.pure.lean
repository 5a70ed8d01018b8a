/-! The reference's row, seats of a rule, waking. -/
def RowM (waits : Int32) (row : Nat → Int32) (l : List Nat) : Prop := waits = nI l.length ∧ (∀ k, k < l.length → row k = nI (l.getD k 0)) ∧ l.Nodup ∧ ∀ r ∈ l, r < 120
theorem RowM.len {waits : Int32} {row : Nat → Int32} {l : List Nat} (h : RowM waits row l) : l.length ≤ 120 := nodup_lt_len 120 l h.2.2.1 h.2.2.2
theorem getD_lt {l : List Nat} {k : Nat} (h : k < l.length) : l.getD k 0 = l[k] := by
  rw [List.getD_eq_getElem?_getD, List.getElem?_eq_getElem h]; rfl
theorem mem_getD {l : List Nat} {k : Nat} (h : k < l.length) : l.getD k 0 ∈ l := by
  rw [getD_lt h]
  exact List.getElem_mem h
theorem getD_of_mem {l : List Nat} {r : Nat} (h : r ∈ l) : ∃ k, k < l.length ∧ l.getD k 0 = r := by
  obtain ⟨k, hk, e⟩ := List.mem_iff_getElem.mp h
  exact ⟨k, hk, by rw [getD_lt hk]; exact e⟩
theorem mo_wake_loop (N : Nat) {row : Nat → Int32} {l : List Nat} {r : Nat} (hr : r < 120) (hlen : l.length ≤ 120) (hrow : ∀ k, k < l.length → row k = nI (l.getD k 0)) (hl : ∀ q ∈ l, q < 120) :
    ∀ n i, l.length - i < n → i ≤ l.length → (∀ k, k < i → l.getD k 0 ≠ r) → q_Mo_wake_2 N (nI r) n (nI i) (nI l.length) row = if r ∈ l then some (nI l.length, row) else q_Mo_wake_27 N (nI r) (nI l.length) row := by
  intro n
  induction n with
  | zero => intro i h; omega
  | succ n ih =>
    intro i hn hi hne
    rw [q_Mo_wake_2]
    show (if nI l.length ≤ nI i then _ else _) = _
    by_cases hc : l.length ≤ i
    · have hnm : ¬ r ∈ l := fun hm => by
        obtain ⟨k, hk, e⟩ := getD_of_mem hm
        exact hne k (by omega) e
      rw [if_pos (nI_le hc (by omega)), if_neg hnm]
    · have hi2 : i < l.length := by omega
      rw [if_neg (nI_ge hi2 (by omega)), jin_nI (by omega) (by decide), nI_clamp (by omega), hrow i hi2]
      have hm := mem_getD hi2
      by_cases he : l.getD i 0 = r
      · rw [if_pos (by rw [he]), if_pos (by rw [← he]; exact hm)]
      · have hlt := hl _ hm
        rw [if_neg (fun h => he ((nI_eq (by omega) (by omega)).mp h)), nI_1]
        exact ih (i + 1) (by omega) (by omega) (fun k hk => by
          by_cases hki : k = i
          · rw [hki]; exact he
          · exact hne k (by omega))
theorem mo_wake {N : Nat} (hN : 121 ≤ N) {waits : Int32} {row : Nat → Int32} {l : List Nat} {r : Nat} (h : RowM waits row l) (hr : r < 120) : ∃ w' row', p_Mo_wake N waits row (nI r) = some (w', row') ∧ RowM w' row' (rjoin l r) := by
  have hlen := h.len
  obtain ⟨rfl, hrow, hnd, hlt⟩ := h
  unfold p_Mo_wake rjoin
  have e := mo_wake_loop N hr hlen hrow hlt N 0 (by omega) (by omega) (fun k hk => absurd hk (Nat.not_lt_zero _))
  rw [show (0 : Int32) = nI 0 from rfl, e]
  by_cases hm : r ∈ l
  · rw [if_pos hm, if_pos hm]
    exact ⟨_, _, rfl, rfl, hrow, hnd, hlt⟩
  · rw [if_neg hm, if_neg hm]
    have hlen2 : l.length + 1 ≤ 120 := nodup_lt_len 120 (r :: l) (List.nodup_cons.mpr ⟨hm, hnd⟩) (fun x hx => by
      rcases List.mem_cons.mp hx with e | e
      · omega
      · exact hlt x e)
    unfold q_Mo_wake_27
    rw [jin_nI (by omega) (by decide), nI_clamp (by omega)]
    refine ⟨_, _, rfl, ?_, ?_, ?_, ?_⟩
    · rw [List.length_append]; exact nI_1 l.length
    · intro k hk
      rw [List.length_append, List.length_singleton] at hk
      by_cases hkl : k = l.length
      · subst hkl
        rw [show upd row l.length (nI r) l.length = nI r from if_pos rfl]
        simp
      · have hk2 : k < l.length := by omega
        rw [show upd row l.length (nI r) k = row k from if_neg hkl, hrow k hk2]
        congr 1
        rw [getD_app hk2]
    · rw [List.nodup_append]
      refine ⟨hnd, by simp, ?_⟩
      intro a ha b hb e
      rw [List.mem_singleton] at hb
      exact hm (by rw [← hb, ← e]; exact ha)
    · intro q hq
      rcases List.mem_append.mp hq with e | e
      · exact hlt q e
      · rw [List.mem_singleton] at e; omega
/-- the rules' places, as the reference holds them -/
def MemM (nR : Nat) (sizes members : Nat → Int32) (sz : Nat → Nat) (pl : Nat → Nat → Nat) : Prop := ∀ r, r < nR → sizes r = nI (sz r) ∧ sz r ≤ 16 ∧ ∀ k, k < sz r → members (16 * r + k) = nI (pl r k) ∧ pl r k < 128
def inR (sz : Nat → Nat) (pl : Nat → Nat → Nat) (r p : Nat) : Bool := (List.range (sz r)).any (fun k => pl r k == p)
theorem inR_iff {sz : Nat → Nat} {pl : Nat → Nat → Nat} {r p : Nat} : inR sz pl r p = true ↔ ∃ k, k < sz r ∧ pl r k = p := by
  unfold inR
  rw [List.any_eq_true]
  constructor
  · rintro ⟨k, hk, e⟩
    exact ⟨k, List.mem_range.mp hk, by simpa using e⟩
  · rintro ⟨k, hk, e⟩
    exact ⟨k, List.mem_range.mpr hk, by simpa using e⟩
theorem mo_seat_loop (N : Nat) {nR : Nat} (hR : nR ≤ 120) {sizes members : Nat → Int32} {sz : Nat → Nat} {pl : Nat → Nat → Nat} (h : MemM nR sizes members sz pl) {r p : Nat} (hr : r < nR) (hp : p < 128) :
    ∀ n i, sz r - i < n → i ≤ sz r → (∀ k, k < i → pl r k ≠ p) → ∃ o : Int32, q_Mo_seatOf_2 N sizes members (nI r) (nI p) n (nI i) = some o ∧ (if inR sz pl r p = true then ∃ k, k < sz r ∧ pl r k = p ∧ o = nI k else o = -1) := by
  obtain ⟨h1, h2, h3⟩ := h r hr
  intro n
  induction n with
  | zero => intro i h; omega
  | succ n ih =>
    intro i hn hi hne
    rw [q_Mo_seatOf_2]
    show ∃ o : Int32, (jin (nI r) 120 (if sizes (nI r).toNatClampNeg ≤ nI i then _ else _)) = some o ∧ _
    rw [jin_nI (by omega) (by decide), nI_clamp (by omega), h1]
    by_cases hc : sz r ≤ i
    · rw [if_pos (nI_le hc (by omega))]
      refine ⟨_, rfl, ?_⟩
      rw [if_neg]
      intro hin
      obtain ⟨k, hk, e⟩ := inR_iff.mp hin
      exact hne k (by omega) e
    · have hi2 : i < sz r := by omega
      obtain ⟨h4, h5⟩ := h3 i hi2
      rw [if_neg (nI_ge hi2 (by omega)), show (16 : Int32) = nI 16 from rfl, pk_mul, nI_add, jin_nI (by omega) (by decide), nI_clamp (by omega), h4]
      by_cases he : pl r i = p
      · rw [if_pos (by rw [he])]
        exact ⟨_, rfl, by rw [if_pos (inR_iff.mpr ⟨i, hi2, he⟩)]; exact ⟨i, hi2, he, rfl⟩⟩
      · rw [if_neg (fun h => he ((nI_eq (by omega) (by omega)).mp h)), nI_1]
        exact ih (i + 1) (by omega) (by omega) (fun k hk => by
          by_cases hki : k = i
          · rw [hki]; exact he
          · exact hne k (by omega))
theorem mo_seat {N : Nat} (hN : 17 ≤ N) {nR : Nat} (hR : nR ≤ 120) {sizes members : Nat → Int32} {sz : Nat → Nat} {pl : Nat → Nat → Nat} (h : MemM nR sizes members sz pl) {r p : Nat} (hr : r < nR) (hp : p < 128) : ∃ o : Int32, p_Mo_seatOf N sizes members (nI r) (nI p) = some o ∧ (if inR sz pl r p = true then ∃ k, k < sz r ∧ pl r k = p ∧ o = nI k else o = -1) := by
  unfold p_Mo_seatOf
  exact mo_seat_loop N hR h hr hp N 0 (by have := (h r hr).2.1; omega) (by omega) (fun k hk => absurd hk (Nat.not_lt_zero _))
/-- n numbers from i on come to the row, those that c names, but for one -/
def gf (c : Nat → Bool) (but : Option Nat) : Nat → Nat → List Nat → List Nat
  | 0, _, l => l
  | n + 1, i, l => gf c but n (i + 1) (if some i ≠ but ∧ c i = true then rjoin l i else l)
theorem gf_s (c : Nat → Bool) (but : Option Nat) (n i : Nat) (l : List Nat) : gf c but (n + 1) i l = gf c but n (i + 1) (if some i ≠ but ∧ c i = true then rjoin l i else l) := rfl
theorem gf_add (c : Nat → Bool) (but : Option Nat) : ∀ a b i l, gf c but (a + b) i l = gf c but b (i + a) (gf c but a i l) := by
  intro a
  induction a with
  | zero => intro b i l; rw [Nat.zero_add]; rfl
  | succ a ih =>
    intro b i l
    rw [show a + 1 + b = (a + b) + 1 by omega, gf_s, gf_s, ih, show i + 1 + a = i + (a + 1) by omega]
theorem gf_none (c : Nat → Bool) (but : Option Nat) : ∀ n i l, (∀ j, i ≤ j → j < i + n → c j = false) → gf c but n i l = l := by
  intro n
  induction n with
  | zero => intro i l _; rfl
  | succ n ih =>
    intro i l h
    rw [gf_s, if_neg (fun z => by rw [h i (by omega) (by omega)] at z; exact absurd z.2 (by decide))]
    exact ih (i + 1) l (fun j h1 h2 => h j (by omega) (by omega))
theorem gf_congr {c d : Nat → Bool} (but : Option Nat) : ∀ n i l, (∀ j, i ≤ j → j < i + n → c j = d j) → gf c but n i l = gf d but n i l := by
  intro n
  induction n with
  | zero => intro i l _; rfl
  | succ n ih =>
    intro i l h
    rw [gf_s, gf_s, h i (by omega) (by omega)]
    exact ih (i + 1) _ (fun j h1 h2 => h j (by omega) (by omega))
theorem mo_wakeAll_loop {N : Nat} (hN : 121 ≤ N) {nR : Nat} (hR : nR ≤ 120) {sizes members : Nat → Int32} {sz : Nat → Nat} {pl : Nat → Nat → Nat} (h : MemM nR sizes members sz pl) {p : Nat} (hp : p < 128) {but : Option Nat} {b : Int32} (hb : ∀ i, i < 120 → (nI i = b ↔ some i = but)) :
    ∀ n i w row l, nR - i < n → i ≤ nR → RowM w row l → ∃ w' row', q_Mo_wakeAll_2 N (nI nR) sizes members (nI p) b n (nI i) w row = some (w', row') ∧ RowM w' row' (gf (fun r => inR sz pl r p) but (nR - i) i l) := by
  intro n
  induction n with
  | zero => intro i w row l h; omega
  | succ n ih =>
    intro i w row l hn hi hl
    rw [q_Mo_wakeAll_2]
    show ∃ w' row', (if nI nR ≤ nI i then _ else _) = some (w', row') ∧ _
    by_cases hc : nR ≤ i
    · rw [if_pos (nI_le hc (by omega)), show nR - i = 0 by omega]
      exact ⟨_, _, rfl, hl⟩
    · have hi2 : i < nR := by omega
      rw [if_neg (nI_ge hi2 (by omega)), show nR - i = (nR - (i + 1)) + 1 by omega]
      rw [gf_s]
      by_cases hbi : nI i = b
      · rw [if_pos hbi]
        unfold q_Mo_wakeAll_29
        rw [nI_1, if_neg (show ¬ (some i ≠ but ∧ inR sz pl i p = true) from fun z => z.1 ((hb i (by omega)).mp hbi))]
        exact ih (i + 1) w row l (by omega) (by omega) hl
      · have hbn : some i ≠ but := fun z => hbi ((hb i (by omega)).mpr z)
        obtain ⟨o, ho, ho2⟩ := mo_seat (N := N) (by omega) hR h hi2 hp
        rw [if_neg hbi, ho]
        show ∃ w' row', (if o < 0 then _ else _) = some (w', row') ∧ _
        by_cases hin : inR sz pl i p = true
        · rw [if_pos hin] at ho2
          obtain ⟨k, hk, -, rfl⟩ := ho2
          have := (h i hi2).2.1
          rw [if_neg (nI_pos (by omega)), if_pos ⟨hbn, hin⟩]
          obtain ⟨w1, row1, e1, h1⟩ := mo_wake hN hl (show i < 120 by omega)
          rw [e1]
          show ∃ w' row', q_Mo_wakeAll_29 N _ (nI i) w1 row1 = some (w', row') ∧ _
          unfold q_Mo_wakeAll_29
          rw [nI_1]
          exact ih (i + 1) w1 row1 _ (by omega) (by omega) h1
        · rw [if_neg hin] at ho2
          subst ho2
          rw [if_pos (show (-1 : Int32) < 0 by decide), if_neg (show ¬ (some i ≠ but ∧ inR sz pl i p = true) from fun z => hin z.2)]
          unfold q_Mo_wakeAll_29
          rw [nI_1]
          exact ih (i + 1) w row l (by omega) (by omega) hl
theorem mo_wakeAll {N : Nat} (hN : 122 ≤ N) {nR : Nat} (hR : nR ≤ 120) {sizes members : Nat → Int32} {sz : Nat → Nat} {pl : Nat → Nat → Nat} (h : MemM nR sizes members sz pl) {p : Nat} (hp : p < 128) {but : Option Nat} {b : Int32} (hb : ∀ i, i < 120 → (nI i = b ↔ some i = but)) {w : Int32} {row : Nat → Int32} {l : List Nat} (hl : RowM w row l) :
    ∃ w' row', p_Mo_wakeAll N (nI nR) w sizes members row (nI p) b = some (w', row') ∧ RowM w' row' (gf (fun r => inR sz pl r p) but nR 0 l) := by
  unfold p_Mo_wakeAll
  exact mo_wakeAll_loop (by omega) hR h hp hb N 0 w row l (by omega) (by omega) hl

