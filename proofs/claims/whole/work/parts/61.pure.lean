/-! rising: the class and the reference take the same away. -/
def zI (z : Int) : Int32 := Int32.ofInt z
def Sm (z : Int) : Prop := -1000 ≤ z ∧ z ≤ 1000
theorem zI_toInt {a : Int} (h : Sm a) : (zI a).toInt = a := by
  obtain ⟨h1, h2⟩ := h
  exact Int32.toInt_ofInt_of_le (by omega) (by omega)
theorem zlt {a b : Int} (ha : Sm a) (hb : Sm b) : zI a < zI b ↔ a < b := by rw [Int32.lt_iff_toInt_lt, zI_toInt ha, zI_toInt hb]
theorem zle {a b : Int} (ha : Sm a) (hb : Sm b) : zI a ≤ zI b ↔ a ≤ b := by rw [Int32.le_iff_toInt_le, zI_toInt ha, zI_toInt hb]
theorem zeq {a b : Int} (ha : Sm a) (hb : Sm b) : zI a = zI b ↔ a = b := by rw [← Int32.toInt_inj, zI_toInt ha, zI_toInt hb]
theorem nz (v : Nat) : nI v = zI v := Int32.ofInt_eq_ofNat.symm
theorem z1 (a : Int) : zI a + 1 = zI (a + 1) := (Int32.ofInt_add a 1).symm
theorem zm1 (a : Int) : zI a + (-1) = zI (a - 1) := by
  rw [show a - 1 = a + (-1) by omega, show (-1 : Int32) = Int32.ofInt (-1) by decide]
  exact (Int32.ofInt_add a (-1)).symm
theorem zneg {a : Int} (ha : Sm a) : zI a < (0 : Int32) ↔ a < 0 := by rw [show (0 : Int32) = zI 0 by decide]; exact zlt ha ⟨by omega, by omega⟩
theorem zs1 (a : Int) : zI a - 1 = zI (a - 1) := (Int32.ofInt_sub a 1).symm
theorem below_tb : ∀ e, e < 62 → ∀ v, v < 64 → tb (j_lshl 1 (nI e) - 1) v = decide (v < e) := by decide +kernel
theorem below_ (N : Nat) {e : Nat} (he : e < 62) : p_Kernel_below N (nI e) = some (j_lshl 1 (nI e) - 1) := by
  unfold p_Kernel_below
  rw [if_pos (show nI e < (64 : Int32) from nI_lt (b := 64) (by omega) (by decide))]
/-- behind the lowest symbol from e on -/
def NX (S : Nat) (x : Int64) (e e' : Nat) : Prop := (∃ v, tb x v = true ∧ e ≤ v ∧ e' = v + 1 ∧ ∀ w, tb x w = true → e ≤ w → v ≤ w) ∨ ((∀ w, tb x w = true → ¬ e ≤ w) ∧ e' = S + 1)
/-- the highest symbol below b -/
def PV (x : Int64) (b b' : Nat) : Prop := (∃ v, tb x v = true ∧ v < b ∧ b' = v ∧ ∀ w, tb x w = true → w < b → w ≤ v) ∨ ((∀ w, tb x w = true → ¬ w < b) ∧ b' = 0)
theorem NX_ex (S : Nat) {x : Int64} (e : Nat) : ∃ e', NX S x e e' := by
  by_cases h : ∃ v, tb x v = true ∧ e ≤ v
  · obtain ⟨v, hv, hl⟩ := pk_least (fun v => tb x v = true ∧ e ≤ v) h
    refine ⟨v + 1, Or.inl ⟨v, hv.1, hv.2, rfl, fun w h1 h2 => ?_⟩⟩
    apply Classical.byContradiction
    intro hc
    exact hl w (by omega) ⟨h1, h2⟩
  · exact ⟨S + 1, Or.inr ⟨fun w h1 h2 => h ⟨w, h1, h2⟩, rfl⟩⟩
theorem PV_ex {x : Int64} (b : Nat) : ∃ b', PV x b b' := by
  by_cases h : ∃ v, v < b ∧ tb x v = true
  · obtain ⟨v, h1, h2, h3⟩ := most_bit (tb x) b h
    refine ⟨v, Or.inl ⟨v, h2, h1, rfl, fun w h4 h5 => ?_⟩⟩
    apply Classical.byContradiction
    intro hc
    rw [h3 w (by omega) h5] at h4
    cases h4
  · exact ⟨0, Or.inr ⟨fun w h1 h2 => h ⟨w, h2, h1⟩, rfl⟩⟩
theorem NX_uniq {S : Nat} {x : Int64} {e a b : Nat} (ha : NX S x e a) (hb : NX S x e b) : a = b := by
  rcases ha with ⟨v, v1, v2, v3, v4⟩ | ⟨v1, v2⟩
  · rcases hb with ⟨w, w1, w2, w3, w4⟩ | ⟨w1, w2⟩
    · have := v4 w w1 w2
      have := w4 v v1 v2
      omega
    · exact absurd v2 (w1 v v1)
  · rcases hb with ⟨w, w1, w2, w3, w4⟩ | ⟨w1, w2⟩
    · exact absurd w2 (v1 w w1)
    · omega
theorem PV_uniq {x : Int64} {e a b : Nat} (ha : PV x e a) (hb : PV x e b) : a = b := by
  rcases ha with ⟨v, v1, v2, v3, v4⟩ | ⟨v1, v2⟩
  · rcases hb with ⟨w, w1, w2, w3, w4⟩ | ⟨w1, w2⟩
    · have := v4 w w1 w2
      have := w4 v v1 v2
      omega
    · exact absurd v2 (w1 v v1)
  · rcases hb with ⟨w, w1, w2, w3, w4⟩ | ⟨w1, w2⟩
    · exact absurd w2 (v1 w w1)
    · omega
theorem seq_ex {P : Nat → Nat → Nat → Prop} (a0 : Nat) (h : ∀ k a, ∃ b, P k a b) : ∃ e : Nat → Nat, e 0 = a0 ∧ ∀ k, P k (e k) (e (k + 1)) := by
  obtain ⟨f, hf⟩ := Classical.axiomOfChoice (fun p : Nat × Nat => h p.1 p.2)
  exact ⟨fun k => Nat.rec a0 (fun k a => f (k, a)) k, rfl, fun k => hf (k, _)⟩
/-- both rows of bounds -/
def RisH (S n : Nat) (h : Nat → Int64) (e B : Nat → Nat) : Prop := (S ≤ 60) ∧ (n ≤ 16) ∧ (∀ k, k < n → ∀ v, tb (h k) v = true → v < S) ∧ (e 0 = 0) ∧ (∀ k, k < n → NX S (h k) (e k) (e (k + 1))) ∧ (B 0 = S) ∧ (∀ j, j < n → PV (h (n - 1 - j)) (B j) (B (j + 1)))
theorem RisH.cs {S n : Nat} {h : Nat → Int64} {e B : Nat → Nat} (hH : RisH S n h e B) : S ≤ 60 := hH.1
theorem RisH.cn {S n : Nat} {h : Nat → Int64} {e B : Nat → Nat} (hH : RisH S n h e B) : n ≤ 16 := hH.2.1
theorem RisH.clt {S n : Nat} {h : Nat → Int64} {e B : Nat → Nat} (hH : RisH S n h e B) : ∀ k, k < n → ∀ v, tb (h k) v = true → v < S := hH.2.2.1
theorem RisH.e0 {S n : Nat} {h : Nat → Int64} {e B : Nat → Nat} (hH : RisH S n h e B) : e 0 = 0 := hH.2.2.2.1
theorem RisH.es {S n : Nat} {h : Nat → Int64} {e B : Nat → Nat} (hH : RisH S n h e B) : ∀ k, k < n → NX S (h k) (e k) (e (k + 1)) := hH.2.2.2.2.1
theorem RisH.b0 {S n : Nat} {h : Nat → Int64} {e B : Nat → Nat} (hH : RisH S n h e B) : B 0 = S := hH.2.2.2.2.2.1
theorem RisH.bs {S n : Nat} {h : Nat → Int64} {e B : Nat → Nat} (hH : RisH S n h e B) : ∀ j, j < n → PV (h (n - 1 - j)) (B j) (B (j + 1)) := hH.2.2.2.2.2.2
theorem RisH.ele {S n : Nat} {h : Nat → Int64} {e B : Nat → Nat} (H : RisH S n h e B) : ∀ k, k ≤ n → e k ≤ S + 1 := by
  intro k
  cases k with
  | zero => intro _; rw [H.e0]; omega
  | succ k =>
    intro hk
    rcases H.es k (by omega) with ⟨v, v1, _, v3, _⟩ | ⟨_, v2⟩
    · have := H.clt k (by omega) v v1; omega
    · omega
theorem RisH.ble {S n : Nat} {h : Nat → Int64} {e B : Nat → Nat} (H : RisH S n h e B) : ∀ j, j ≤ n → B j ≤ S := by
  intro j
  cases j with
  | zero => intro _; rw [H.b0]; omega
  | succ j =>
    intro hj
    rcases H.bs j (by omega) with ⟨v, v1, _, v3, _⟩ | ⟨_, v2⟩
    · have := H.clt (n - 1 - j) (by omega) v v1; omega
    · omega
theorem ris_c4 (N : Nat) {S n : Nat} {h : Nat → Int64} {e B : Nat → Nat} (H : RisH S n h e B) :
    ∀ g k keep, k ≤ n → n - k < g → (∀ i, k ≤ i → i < n → keep i = h i) → ∃ keep', q_Kernel_keepRising_4 N (nI S) h (nI n) g (zI ((e k : Int) - 1)) (nI k) keep = q_Kernel_keepRising_62 N (nI S) h (nI n) keep' ∧ (∀ i, i < k → keep' i = keep i) ∧ ∀ i, k ≤ i → i < n → ∀ v, v < 64 → (tb (keep' i) v = true ↔ tb (h i) v = true ∧ e i ≤ v) := by
  have hn := H.cn
  have hs := H.cs
  intro g
  induction g with
  | zero => intro k keep _ hg; omega
  | succ g ih =>
    intro k keep hk hg hkeep
    rw [q_Kernel_keepRising_4]
    show ∃ keep', (if nI n ≤ nI k then _ else _) = _ ∧ _
    by_cases hc : n ≤ k
    · rw [if_pos (nI_le hc (by omega))]
      exact ⟨keep, rfl, fun _ _ => rfl, fun i h1 h2 => by omega⟩
    · have hek := H.ele k (by omega)
      rw [if_neg (nI_ge (by omega) (by omega)), jin_nI (by omega) (by decide), z1, show ((e k : Int) - 1 + 1) = ((e k : Nat) : Int) by omega, ← nz, below_ N (by omega), Option.bind_some, jin_nI (by omega) (by decide), jin_nI (by omega) (by decide), nI_clamp (by omega), pk_uLs, hkeep k (Nat.le_refl _) (by omega)]
      have hbit : ∀ v, v < 64 → (tb (h k &&& ((j_lshl 1 (nI (e k)) - 1) ^^^ (-1 : Int64))) v = true ↔ tb (h k) v = true ∧ e k ≤ v) := by
        intro v hv
        rw [tb_and, tb_not hv, below_tb (e k) (by omega) v hv, Bool.and_eq_true, Bool.not_eq_true', decide_eq_false_iff_not, Nat.not_lt]
      have next : ∃ keep', q_Kernel_keepRising_55 N (q_Kernel_keepRising_4 N (nI S) h (nI n) g) (nI k) (zI ((e (k + 1) : Int) - 1)) (vp_updL keep k (h k &&& ((j_lshl 1 (nI (e k)) - 1) ^^^ (-1 : Int64)))) = q_Kernel_keepRising_62 N (nI S) h (nI n) keep' ∧ (∀ i, i < k → keep' i = keep i) ∧ ∀ i, k ≤ i → i < n → ∀ v, v < 64 → (tb (keep' i) v = true ↔ tb (h i) v = true ∧ e i ≤ v) := by
        unfold q_Kernel_keepRising_55
        rw [nI_1]
        obtain ⟨keep', e1, h1, h2⟩ := ih (k + 1) (vp_updL keep k (h k &&& ((j_lshl 1 (nI (e k)) - 1) ^^^ (-1 : Int64)))) (by omega) (by omega) (fun i a b => by rw [pk_uLn (by omega)]; exact hkeep i (by omega) b)
        refine ⟨keep', e1, fun i hi => by rw [h1 i (by omega), pk_uLn (by omega)], fun i a b v hv => ?_⟩
        by_cases he : i = k
        · subst he
          rw [h1 i (by omega), pk_uLs]
          exact hbit v hv
        · exact h2 i (by omega) b v hv
      have hnx := H.es k (by omega)
      by_cases hz : h k &&& ((j_lshl 1 (nI (e k)) - 1) ^^^ (-1 : Int64)) = 0
      · rw [if_pos ((lg_cmp_eq _ _).mpr hz)]
        have : e (k + 1) = S + 1 := NX_uniq hnx (Or.inr ⟨fun w h1 h2 => (by
          have hw := H.clt k (by omega) w h1
          have := (hbit w (by omega)).mpr ⟨h1, h2⟩
          rw [hz, tb_0] at this
          cases this), rfl⟩)
        rw [this] at next
        rw [show nI S = zI (((S + 1 : Nat) : Int) - 1) by rw [nz]; congr 1; omega]
        rw [show nI S = zI (((S + 1 : Nat) : Int) - 1) by rw [nz]; congr 1; omega] at next
        exact next
      · rw [if_neg (fun q => hz ((lg_cmp_eq _ _).mp q)), jin_nI (by omega) (by decide)]
        obtain ⟨v, v1, v2, v3⟩ := lowestOf N hz (fun v hv => by
          rw [tb_and, Bool.and_eq_true] at hv
          have := H.clt k (by omega) v hv.1
          omega)
        rw [v3, Option.bind_some]
        have hv := (hbit v (by omega)).mp v2.1
        have : e (k + 1) = v + 1 := NX_uniq hnx (Or.inl ⟨v, hv.1, hv.2, rfl, fun w h1 h2 => v2.2 w ((hbit w (by have := H.clt k (by omega) w h1; omega)).mpr ⟨h1, h2⟩)⟩)
        rw [this] at next
        rw [show nI v = zI (((v + 1 : Nat) : Int) - 1) by rw [nz]; congr 1; omega]
        exact next
theorem ris_c72 (N : Nat) {S n : Nat} {h : Nat → Int64} {e B : Nat → Nat} (H : RisH S n h e B) :
    ∀ g j keep, j ≤ n → n - j < g → ∃ keep', q_Kernel_keepRising_72 N h g (nI (B j)) (zI ((n : Int) - 1 - j)) keep = some keep' ∧ (∀ i, n - j ≤ i → keep' i = keep i) ∧ ∀ i, i < n - j → keep' i = keep i &&& (j_lshl 1 (nI (B (n - 1 - i))) - 1) := by
  have hn := H.cn
  have hs := H.cs
  intro g
  induction g with
  | zero => intro k keep _ hg; omega
  | succ g ih =>
    intro j keep hj hg
    rw [q_Kernel_keepRising_72]
    show ∃ keep', (if zI ((n : Int) - 1 - j) < 0 then _ else _) = _ ∧ _
    by_cases hc : n ≤ j
    · rw [if_pos ((zneg (a := (n : Int) - 1 - j) ⟨by omega, by omega⟩).mpr (by omega))]
      exact ⟨keep, rfl, fun _ _ => rfl, fun i hi => by omega⟩
    · have hbj := H.ble j (by omega)
      rw [if_neg (fun q => by have := (zneg (a := (n : Int) - 1 - j) ⟨by omega, by omega⟩).mp q; omega), show zI ((n : Int) - 1 - j) = nI (n - 1 - j) by rw [nz]; congr 1; omega, jin_nI (by omega) (by decide), below_ N (by omega), Option.bind_some, jin_nI (by omega) (by decide), Option.bind_some, jin_nI (by omega) (by decide), nI_clamp (by omega)]
      have hbit : ∀ v, v < 64 → (tb (h (n - 1 - j) &&& (j_lshl 1 (nI (B j)) - 1)) v = true ↔ tb (h (n - 1 - j)) v = true ∧ v < B j) := by
        intro v hv
        rw [tb_and, below_tb (B j) (by omega) v hv, Bool.and_eq_true, decide_eq_true_eq]
      have next : ∃ keep', q_Kernel_keepRising_121 N (q_Kernel_keepRising_72 N h g) (nI (n - 1 - j)) (nI (B (j + 1))) (vp_updL keep (n - 1 - j) (keep (n - 1 - j) &&& (j_lshl 1 (nI (B j)) - 1))) = some keep' ∧ (∀ i, n - j ≤ i → keep' i = keep i) ∧ ∀ i, i < n - j → keep' i = keep i &&& (j_lshl 1 (nI (B (n - 1 - i))) - 1) := by
        unfold q_Kernel_keepRising_121
        rw [nz (n - 1 - j), zm1, show (((n - 1 - j : Nat) : Int) - 1) = (n : Int) - 1 - ((j + 1 : Nat) : Int) by omega]
        obtain ⟨keep', e1, h1, h2⟩ := ih (j + 1) (vp_updL keep (n - 1 - j) (keep (n - 1 - j) &&& (j_lshl 1 (nI (B j)) - 1))) (by omega) (by omega)
        refine ⟨keep', e1, fun i hi => by rw [h1 i (by omega), pk_uLn (by omega)], fun i hi => ?_⟩
        by_cases he : i = n - 1 - j
        · subst he
          rw [h1 _ (by omega), pk_uLs, show n - 1 - (n - 1 - j) = j by omega]
        · rw [h2 i (by omega), pk_uLn he]
      have hpv := H.bs j (by omega)
      by_cases hz : h (n - 1 - j) &&& (j_lshl 1 (nI (B j)) - 1) = 0
      · rw [if_pos ((lg_cmp_eq _ _).mpr hz)]
        have : B (j + 1) = 0 := PV_uniq hpv (Or.inr ⟨fun w h1 h2 => (by
          have := (hbit w (by omega)).mpr ⟨h1, h2⟩
          rw [hz, tb_0] at this
          cases this), rfl⟩)
        rw [this] at next
        exact next
      · rw [if_neg (fun q => hz ((lg_cmp_eq _ _).mp q))]
        obtain ⟨v, v1, v2, v3⟩ := highestOf N hz (fun v hv => by
          rw [tb_and, Bool.and_eq_true] at hv
          have := H.clt (n - 1 - j) (by omega) v hv.1
          omega)
        rw [v3, Option.bind_some]
        have hv := (hbit v (by omega)).mp v2.1
        have : B (j + 1) = v := PV_uniq hpv (Or.inl ⟨v, hv.1, hv.2, rfl, fun w h1 h2 => v2.2 w ((hbit w (by omega)).mpr ⟨h1, h2⟩)⟩)
        rw [this] at next
        exact next
theorem ris_c {N : Nat} (hN : 18 ≤ N) {S n : Nat} {h : Nat → Int64} {e B : Nat → Nat} (H : RisH S n h e B) (keep : Nat → Int64) (hkeep : ∀ i, i < n → keep i = h i) : ∃ keep', p_Kernel_keepRising N (nI S) h keep (nI n) = some keep' ∧ ∀ i, i < n → ∀ v, v < 64 → (tb (keep' i) v = true ↔ tb (h i) v = true ∧ e i ≤ v ∧ v < B (n - 1 - i)) := by
  have hn := H.cn
  have hs := H.cs
  obtain ⟨k1, e1, _, h1⟩ := ris_c4 N H N 0 keep (by omega) (by omega) (fun i _ b => hkeep i b)
  obtain ⟨k2, e2, _, h2⟩ := ris_c72 N H N 0 k1 (by omega) (by omega)
  refine ⟨k2, ?_, fun i hi v hv => ?_⟩
  · unfold p_Kernel_keepRising
    rw [H.e0] at e1
    refine Eq.trans (show q_Kernel_keepRising_4 N (nI S) h (nI n) N (-1) 0 keep = _ from e1) ?_
    unfold q_Kernel_keepRising_62
    rw [nz n, zs1, show (n : Int) - 1 = (n : Int) - 1 - ((0 : Nat) : Int) by omega, ← H.b0]
    exact e2
  · have hb := H.ble (n - 1 - i) (by omega)
    rw [h2 i (by omega), tb_and, Bool.and_eq_true, h1 i (by omega) hi v hv, below_tb _ (by omega) v hv, decide_eq_true_eq, and_assoc]
/-- the reference takes away what lies below -/
theorem ris_m12 (N : Nat) {S k e : Nat} (hS : S ≤ 60) (hk : k < 16) (he : e ≤ S + 1) {h : Nat → Int64} (K : Int32 → Int32 → (Nat → Int64) → Option (Nat → Int64)) :
    ∀ g v goes, v ≤ S → S - v < g → ∃ goes', q_Mo_rising_12 N (nI S) h K g (zI ((e : Int) - 1)) (nI k) (nI v) goes = q_Mo_rising_57 N (nI S) h K (zI ((e : Int) - 1)) (nI k) goes' ∧ (∀ i, i ≠ k → goes' i = goes i) ∧ ∀ w, w < 64 → (tb (goes' k) w = true ↔ tb (goes k) w = true ∨ (v ≤ w ∧ w < S ∧ w < e ∧ tb (h k) w = true)) := by
  intro g
  induction g with
  | zero => intro v goes _ hg; omega
  | succ g ih =>
    intro v goes hv hg
    rw [q_Mo_rising_12]
    show ∃ goes', (if zI ((e : Int) - 1) < nI v then _ else _) = _ ∧ _
    have stop : (e ≤ v ∨ S ≤ v) → ∃ goes', q_Mo_rising_57 N (nI S) h K (zI ((e : Int) - 1)) (nI k) goes = q_Mo_rising_57 N (nI S) h K (zI ((e : Int) - 1)) (nI k) goes' ∧ (∀ i, i ≠ k → goes' i = goes i) ∧ ∀ w, w < 64 → (tb (goes' k) w = true ↔ tb (goes k) w = true ∨ (v ≤ w ∧ w < S ∧ w < e ∧ tb (h k) w = true)) := by
      intro q
      refine ⟨goes, rfl, fun _ _ => rfl, fun w hw => ⟨Or.inl, ?_⟩⟩
      rintro (z | z)
      · exact z
      · omega
    by_cases c1 : e ≤ v
    · rw [if_pos (by rw [nz, zlt ⟨by omega, by omega⟩ ⟨by omega, by omega⟩]; omega)]
      exact stop (Or.inl c1)
    · rw [if_neg (by rw [nz, zlt ⟨by omega, by omega⟩ ⟨by omega, by omega⟩]; omega)]
      by_cases c2 : S ≤ v
      · rw [if_pos (nI_le c2 (by omega))]
        exact stop (Or.inr c2)
      · rw [if_neg (nI_ge (by omega) (by omega)), jin_nI hk (by decide), jin_nI hk (by decide), jin_nI hk (by decide), nI_clamp (by omega), nI_1]
        obtain ⟨g', e1, h1, h2⟩ := ih (v + 1) (vp_updL goes k (goes k ||| (h k &&& j_lshl 1 (nI v)))) (by omega) (by omega)
        refine ⟨g', e1, fun i hi => by rw [h1 i hi, pk_uLn hi], fun w hw => ?_⟩
        rw [h2 w hw, pk_uLs, tb_or, tb_and, tb_bit (by omega) hw, Bool.or_eq_true, Bool.and_eq_true, decide_eq_true_eq]
        constructor
        · rintro ((z | ⟨z1, z2⟩) | z)
          · exact Or.inl z
          · subst z2; exact Or.inr ⟨Nat.le_refl _, by omega, by omega, z1⟩
          · exact Or.inr ⟨by omega, z.2⟩
        · rintro (z | ⟨z1, z2⟩)
          · exact Or.inl (Or.inl z)
          · by_cases hwv : w = v
            · subst hwv; exact Or.inl (Or.inr ⟨z2.2.2, rfl⟩)
            · exact Or.inr ⟨by omega, z2⟩
theorem ris_m71 (N : Nat) {S k e : Nat} (hS : S ≤ 60) (hk : k < 16) (he : e ≤ S + 1) {h : Nat → Int64} (hlt : ∀ v, tb (h k) v = true → v < S) (K : Int32 → Int32 → (Nat → Int64) → Option (Nat → Int64)) (goes : Nat → Int64) :
    ∀ g j m, j ≤ S → j < g → (e ≤ j ∨ j = S) → ((m = S ∧ ∀ w, tb (h k) w = true → ¬ j ≤ w) ∨ (tb (h k) m = true ∧ j ≤ m ∧ e ≤ m ∧ ∀ w, tb (h k) w = true → j ≤ w → m ≤ w)) →
      ∃ m', q_Mo_rising_71 N h K g (zI ((e : Int) - 1)) (nI k) (nI m) (zI ((j : Int) - 1)) goes = K (nI m') (nI (k + 1)) goes ∧ NX S (h k) e (m' + 1) := by
  intro g
  induction g with
  | zero => intro j m _ hg; omega
  | succ g ih =>
    intro j m hj hg hej hI
    rw [q_Mo_rising_71]
    show ∃ m', (if zI ((j : Int) - 1) ≤ zI ((e : Int) - 1) then _ else _) = _ ∧ _
    by_cases c1 : j ≤ e
    · rw [if_pos (by rw [zle ⟨by omega, by omega⟩ ⟨by omega, by omega⟩]; omega)]
      unfold q_Mo_rising_106
      rw [nI_1]
      refine ⟨m, rfl, ?_⟩
      rcases hI with ⟨q1, q2⟩ | ⟨q1, q2, q3, q4⟩
      · refine Or.inr ⟨fun w h1 h2 => q2 w h1 (by omega), by omega⟩
      · refine Or.inl ⟨m, q1, q3, rfl, fun w h1 h2 => q4 w h1 (by omega)⟩
    · rw [if_neg (by rw [zle ⟨by omega, by omega⟩ ⟨by omega, by omega⟩]; omega), show zI ((j : Int) - 1) = nI (j - 1) by rw [nz]; congr 1; omega, jin_nI hk (by decide), nI_clamp (by omega), mo_has N _ (by omega), Option.bind_some]
      unfold q_Mo_rising_98
      rw [nz (j - 1), zm1, show ((j - 1 : Nat) : Int) - 1 = ((j - 1 : Nat) : Int) - 1 from rfl, ← nz (j - 1)]
      by_cases hb : tb (h k) (j - 1) = true
      · rw [if_pos hb, if_neg (show ¬ (1 : Int32) = 0 by decide)]
        refine ih (j - 1) (j - 1) (by omega) (by omega) (Or.inl (by omega)) (Or.inr ⟨hb, Nat.le_refl _, by omega, fun w _ q => q⟩)
      · rw [if_neg hb, if_pos rfl]
        refine ih (j - 1) m (by omega) (by omega) (Or.inl (by omega)) ?_
        rcases hI with ⟨q1, q2⟩ | ⟨q1, q2, q3, q4⟩
        · refine Or.inl ⟨q1, fun w h1 h2 => ?_⟩
          by_cases hw : w = j - 1
          · subst hw; exact hb h1
          · exact q2 w h1 (by omega)
        · refine Or.inr ⟨q1, by omega, q3, fun w h1 h2 => ?_⟩
          by_cases hw : w = j - 1
          · subst hw; exact absurd h1 hb
          · exact q4 w h1 (by omega)
theorem ris_m4 {N : Nat} (hN : 62 ≤ N) {S n : Nat} {h : Nat → Int64} {e B : Nat → Nat} (H : RisH S n h e B) :
    ∀ g k goes, k ≤ n → n - k < g → ∃ goes', q_Mo_rising_4 N (nI S) h (nI n) g (zI ((e k : Int) - 1)) (nI k) goes = q_Mo_rising_115 N (nI S) h (nI n) (zI ((e n : Int) - 1)) goes' ∧ (∀ i, i < k → goes' i = goes i) ∧ ∀ i, k ≤ i → i < n → ∀ w, w < 64 → (tb (goes' i) w = true ↔ tb (goes i) w = true ∨ (w < e i ∧ tb (h i) w = true)) := by
  have hn := H.cn
  have hs := H.cs
  intro g
  induction g with
  | zero => intro k goes _ hg; omega
  | succ g ih =>
    intro k goes hk hg
    rw [q_Mo_rising_4]
    show ∃ goes', (if nI n ≤ nI k then _ else _) = _ ∧ _
    by_cases hc : n ≤ k
    · rw [if_pos (nI_le hc (by omega))]
      have : k = n := by omega
      subst this
      exact ⟨goes, rfl, fun _ _ => rfl, fun i h1 h2 => by omega⟩
    · have hek := H.ele k (by omega)
      rw [if_neg (nI_ge (by omega) (by omega))]
      obtain ⟨g1, e1, h1, h2⟩ := ris_m12 N hs (show k < 16 by omega) hek (h := h) (q_Mo_rising_4 N (nI S) h (nI n) g) N 0 goes (by omega) (by omega)
      rw [show (0 : Int32) = nI 0 from rfl, e1]
      unfold q_Mo_rising_57
      obtain ⟨m, e2, h3⟩ := ris_m71 N hs (show k < 16 by omega) hek (H.clt k (by omega)) (q_Mo_rising_4 N (nI S) h (nI n) g) g1 N S S (by omega) (by omega) (Or.inr rfl) (Or.inl ⟨rfl, fun w q1 q2 => by have := H.clt k (by omega) w q1; omega⟩)
      have e2' : q_Mo_rising_71 N h (q_Mo_rising_4 N (nI S) h (nI n) g) N (zI ((e k : Int) - 1)) (nI k) (nI S) (nI S - 1) g1 = q_Mo_rising_4 N (nI S) h (nI n) g (nI m) (nI (k + 1)) g1 := by
        rw [show nI S - 1 = zI ((S : Int) - 1) by rw [nz S, zs1]]
        exact e2
      rw [e2']
      have hm : m + 1 = e (k + 1) := NX_uniq h3 (H.es k (by omega))
      rw [show nI m = zI ((e (k + 1) : Int) - 1) by rw [nz, ← hm]; congr 1; omega]
      obtain ⟨g2, e3, h4, h5⟩ := ih (k + 1) g1 (by omega) (by omega)
      refine ⟨g2, e3, fun i hi => by rw [h4 i (by omega), h1 i (by omega)], fun i a b w hw => ?_⟩
      by_cases he : i = k
      · subst he
        rw [h4 i (by omega), h2 w hw]
        constructor
        · rintro (z | z)
          · exact Or.inl z
          · exact Or.inr ⟨z.2.2.1, z.2.2.2⟩
        · rintro (z | z)
          · exact Or.inl z
          · exact Or.inr ⟨Nat.zero_le _, H.clt i (by omega) w z.2, z.1, z.2⟩
      · rw [h5 i (by omega) b w hw, h1 i he]
/-- the reference takes away what lies from a bound on -/
theorem ris_m138 (N : Nat) {S k : Nat} (hS : S ≤ 60) (hk : k < 16) {b : Int} (hb1 : -1 ≤ b) (hb2 : b ≤ S) {h : Nat → Int64} (K : Int32 → Int32 → Int32 → (Nat → Int64) → Option (Nat → Int64)) (x2 : Int32) :
    ∀ g j goes, j ≤ S → j < g → ∃ goes', q_Mo_rising_138 N h K g x2 (zI b) (nI k) (zI ((j : Int) - 1)) goes = q_Mo_rising_182 N h K x2 (zI b) (nI k) goes' ∧ (∀ i, i ≠ k → goes' i = goes i) ∧ ∀ w, w < 64 → (tb (goes' k) w = true ↔ tb (goes k) w = true ∨ (w < j ∧ b ≤ w ∧ tb (h k) w = true)) := by
  intro g
  induction g with
  | zero => intro j goes _ hg; omega
  | succ g ih =>
    intro j goes hj hg
    rw [q_Mo_rising_138]
    show ∃ goes', (if zI ((j : Int) - 1) < zI b then _ else (if zI ((j : Int) - 1) < 0 then _ else _)) = _ ∧ _
    have stop : ((j : Int) - 1 < b ∨ j = 0) → ∃ goes', q_Mo_rising_182 N h K x2 (zI b) (nI k) goes = q_Mo_rising_182 N h K x2 (zI b) (nI k) goes' ∧ (∀ i, i ≠ k → goes' i = goes i) ∧ ∀ w, w < 64 → (tb (goes' k) w = true ↔ tb (goes k) w = true ∨ (w < j ∧ b ≤ w ∧ tb (h k) w = true)) := by
      intro q
      refine ⟨goes, rfl, fun _ _ => rfl, fun w hw => ⟨Or.inl, ?_⟩⟩
      rintro (z | z)
      · exact z
      · omega
    by_cases c1 : (j : Int) - 1 < b
    · rw [if_pos ((zlt ⟨by omega, by omega⟩ ⟨by omega, by omega⟩).mpr c1)]
      exact stop (Or.inl c1)
    · rw [if_neg (fun q => c1 ((zlt ⟨by omega, by omega⟩ ⟨by omega, by omega⟩).mp q))]
      by_cases c2 : j = 0
      · rw [if_pos ((zneg (a := (j : Int) - 1) ⟨by omega, by omega⟩).mpr (by omega))]
        exact stop (Or.inr c2)
      · rw [if_neg (fun q => by have := (zneg (a := (j : Int) - 1) ⟨by omega, by omega⟩).mp q; omega), jin_nI hk (by decide), jin_nI hk (by decide), jin_nI hk (by decide), nI_clamp (by omega), zm1, show zI ((j : Int) - 1) = nI (j - 1) by rw [nz]; congr 1; omega, show (j : Int) - 1 - 1 = ((j - 1 : Nat) : Int) - 1 by omega]
        obtain ⟨g', e1, h1, h2⟩ := ih (j - 1) (vp_updL goes k (goes k ||| (h k &&& j_lshl 1 (nI (j - 1))))) (by omega) (by omega)
        refine ⟨g', e1, fun i hi => by rw [h1 i hi, pk_uLn hi], fun w hw => ?_⟩
        rw [h2 w hw, pk_uLs, tb_or, tb_and, tb_bit (by omega) hw, Bool.or_eq_true, Bool.and_eq_true, decide_eq_true_eq]
        constructor
        · rintro ((z | ⟨z1, z2⟩) | z)
          · exact Or.inl z
          · exact Or.inr ⟨by omega, by omega, z1⟩
          · exact Or.inr ⟨by omega, z.2⟩
        · rintro (z | ⟨z1, z2⟩)
          · exact Or.inl (Or.inl z)
          · by_cases hwv : w = j - 1
            · exact Or.inl (Or.inr ⟨z2.2, hwv⟩)
            · exact Or.inr ⟨by omega, z2⟩
theorem ris_m188 (N : Nat) {S k : Nat} (hS : S ≤ 60) (hk : k < 16) {b : Int} (hb1 : -1 ≤ b) (hb2 : b ≤ S) {h : Nat → Int64} (K : Int32 → Int32 → Int32 → (Nat → Int64) → Option (Nat → Int64)) (x2 x4 : Int32) (hx4 : x4 = nI k) (goes : Nat → Int64) :
    ∀ g j (m : Int), j ≤ S → S - j < g → ((m = -1 ∧ ∀ w, w < j → tb (h k) w = false) ∨ ∃ v : Nat, m = v ∧ (v : Int) < b ∧ v < j ∧ tb (h k) v = true ∧ ∀ w, tb (h k) w = true → w < j → w ≤ v) → ((j : Int) ≤ b ∨ j = 0) →
      ∃ m', q_Mo_rising_188 N h K g x2 (zI b) x4 (zI m) (nI j) goes = K x2 (zI m') (x4 + (-1)) goes ∧ ((m' = -1 ∧ ∀ w : Nat, (w : Int) < b → tb (h k) w = false) ∨ ∃ v : Nat, m' = v ∧ (v : Int) < b ∧ tb (h k) v = true ∧ ∀ w : Nat, tb (h k) w = true → (w : Int) < b → w ≤ v) := by
  subst hx4
  intro g
  induction g with
  | zero => intro j m _ hg; omega
  | succ g ih =>
    intro j m hj hg hI hjb
    rw [q_Mo_rising_188]
    show ∃ m', (if zI b ≤ nI j then _ else _) = _ ∧ _
    by_cases c1 : b ≤ j
    · rw [if_pos (by rw [nz, zle ⟨by omega, by omega⟩ ⟨by omega, by omega⟩]; exact c1)]
      unfold q_Mo_rising_224
      refine ⟨m, rfl, ?_⟩
      rcases hI with ⟨q1, q2⟩ | ⟨v, q1, q2, q3, q4, q5⟩
      · exact Or.inl ⟨q1, fun w hw => q2 w (by omega)⟩
      · exact Or.inr ⟨v, q1, q2, q4, fun w h1 h2 => q5 w h1 (by omega)⟩
    · rw [if_neg (by rw [nz, zle ⟨by omega, by omega⟩ ⟨by omega, by omega⟩]; exact c1), jin_nI hk (by decide), nI_clamp (by omega), mo_has N _ (by omega), Option.bind_some]
      unfold q_Mo_rising_216
      rw [nI_1]
      by_cases hb : tb (h k) j = true
      · rw [if_pos hb, if_neg (show ¬ (1 : Int32) = 0 by decide), nz j]
        clear hI
        exact ih (j + 1) j (by omega) (by omega) (Or.inr ⟨j, rfl, by omega, by omega, hb, fun w _ q => by omega⟩) (Or.inl (by omega))
      · rw [if_neg hb, if_pos rfl]
        have hb' : tb (h k) j = false := by simpa using hb
        refine ih (j + 1) m (by clear hI; omega) (by clear hI; omega) ?_ (Or.inl (by clear hI; omega))
        rcases hI with ⟨q1, q2⟩ | ⟨v, q1, q2, q3, q4, q5⟩
        · refine Or.inl ⟨q1, fun w hw => ?_⟩
          by_cases he : w = j
          · subst he; exact hb'
          · exact q2 w (by omega)
        · refine Or.inr ⟨v, q1, q2, by omega, q4, fun w h1 h2 => ?_⟩
          by_cases he : w = j
          · subst he; exact absurd h1 hb
          · exact q5 w h1 (by omega)
theorem ris_m125 {N : Nat} (hN : 62 ≤ N) {S n : Nat} {h : Nat → Int64} {e B : Nat → Nat} (H : RisH S n h e B) (x2 : Int32) :
    ∀ g j (b : Int) goes, j ≤ n → n - j < g → (b = B j ∨ (b = -1 ∧ B j = 0)) → (b = -1 → 0 < j ∧ ∀ w, tb (h (n - j)) w = true → ¬ w < B (j - 1)) → ∃ goes' b', q_Mo_rising_125 N (nI S) h (nI n) g x2 (zI b) (zI ((n : Int) - 1 - j)) goes = q_Mo_rising_233 N (nI S) h (nI n) x2 (zI b') goes' ∧ (b' = B n ∨ (b' = -1 ∧ B n = 0)) ∧ (b' = -1 → 0 < n ∧ ∀ w, tb (h 0) w = true → ¬ w < B (n - 1)) ∧ (∀ i, n - j ≤ i → goes' i = goes i) ∧ ∀ i, i < n - j → ∀ w, w < 64 → (tb (goes' i) w = true ↔ tb (goes i) w = true ∨ (B (n - 1 - i) ≤ w ∧ tb (h i) w = true)) := by
  have hn := H.cn
  have hs := H.cs
  intro g
  induction g with
  | zero => intro k b goes _ hg; omega
  | succ g ih =>
    intro j b goes hj hg hbB hm1
    have hbj := H.ble j hj
    rw [q_Mo_rising_125]
    show ∃ goes' b', (if zI ((n : Int) - 1 - j) < 0 then _ else _) = _ ∧ _
    by_cases hc : n ≤ j
    · have : j = n := by omega
      subst this
      rw [if_pos ((zneg (a := (j : Int) - 1 - j) ⟨by omega, by omega⟩).mpr (by omega))]
      refine ⟨goes, b, rfl, hbB, fun q => ?_, fun _ _ => rfl, fun i hi => by omega⟩
      have := hm1 q
      rw [Nat.sub_self] at this
      exact this
    · rw [if_neg (fun q => by have := (zneg (a := (n : Int) - 1 - j) ⟨by omega, by omega⟩).mp q; omega), show zI ((n : Int) - 1 - j) = nI (n - 1 - j) by rw [nz]; congr 1; omega, nz S, zs1]
      obtain ⟨g1, e1, h1, h2⟩ := ris_m138 N hs (show n - 1 - j < 16 by omega) (b := b) (by omega) (by omega) (h := h) (q_Mo_rising_125 N (zI S) h (nI n) g) x2 N S goes (by omega) (by omega)
      rw [e1]
      unfold q_Mo_rising_182
      obtain ⟨m', e2, h3⟩ := ris_m188 N hs (show n - 1 - j < 16 by omega) (b := b) (by omega) (by omega) (h := h) (q_Mo_rising_125 N (zI S) h (nI n) g) x2 (nI (n - 1 - j)) rfl g1 N 0 (-1) (by omega) (by omega) (Or.inl ⟨rfl, fun w hw => absurd hw (Nat.not_lt_zero _)⟩) (Or.inr rfl)
      rw [show (0 : Int32) = nI 0 from rfl, show (-1 : Int32) = zI (-1) from rfl, e2]
      have hpv := H.bs j (by omega)
      have hnext : (m' = B (j + 1) ∨ (m' = -1 ∧ B (j + 1) = 0)) ∧ (m' = -1 → 0 < j + 1 ∧ ∀ w, tb (h (n - (j + 1))) w = true → ¬ w < B (j + 1 - 1)) := by
        rw [show n - (j + 1) = n - 1 - j by omega, show j + 1 - 1 = j by omega]
        rcases h3 with ⟨q1, q2⟩ | ⟨v, q1, q2, q3, q4⟩
        · have hnone : ∀ w, tb (h (n - 1 - j)) w = true → ¬ w < B j := fun w hw hl => by
            rcases hbB with hb | ⟨hb, hb0⟩
            · rw [q2 w (by omega)] at hw; cases hw
            · omega
          exact ⟨Or.inr ⟨q1, PV_uniq hpv (Or.inr ⟨hnone, rfl⟩)⟩, fun _ => ⟨by omega, hnone⟩⟩
        · have hbe : b = B j := by
            rcases hbB with hb | ⟨hb, _⟩
            · exact hb
            · omega
          refine ⟨Or.inl ?_, fun q => by omega⟩
          rw [PV_uniq hpv (Or.inl ⟨v, q3, by omega, rfl, fun w h4 h5 => q4 w h4 (by omega)⟩)]
          exact q1
      clear h3
      rw [nz (n - 1 - j), show (-1 : Int32) = zI (-1) from rfl] at *
      rw [show zI ((n - 1 - j : Nat) : Int) + zI (-1) = zI ((n : Int) - 1 - ((j + 1 : Nat) : Int)) by rw [show zI ((n - 1 - j : Nat) : Int) + zI (-1) = zI (((n - 1 - j : Nat) : Int) - 1) from zm1 _]; congr 1; omega, ← nz S]
      obtain ⟨g2, b2, e3, h4, h5, h6, h7⟩ := ih (j + 1) m' g1 (by omega) (by omega) hnext.1 hnext.2
      refine ⟨g2, b2, e3, h4, h5, fun i hi => by rw [h6 i (by omega), h1 i (by omega)], fun i hi w hw => ?_⟩
      by_cases he : i = n - 1 - j
      · subst he
        rw [h6 _ (by omega), h2 w hw, show n - 1 - (n - 1 - j) = j by omega]
        constructor
        · rintro (z | z)
          · exact Or.inl z
          · refine Or.inr ⟨?_, z.2.2⟩
            rcases hbB with hb | ⟨hb, hb0⟩ <;> omega
        · rintro (z | z)
          · exact Or.inl z
          · exact Or.inr ⟨H.clt _ (by omega) w z.2, by rcases hbB with hb | ⟨hb, hb0⟩ <;> omega, z.2⟩
      · rw [h7 i (by omega) w hw, h1 i he]
theorem ris_m236 (N : Nat) {S n : Nat} (hn : n ≤ 16) {h : Nat → Int64} {x2 x3 : Int32} (hq : x2 = nI S ∨ x3 = -1) :
    ∀ g k goes, k ≤ n → n - k < g → ∃ goes', q_Mo_rising_236 N (nI S) h (nI n) g x2 x3 (nI k) goes = some goes' ∧ (∀ i, i < k → goes' i = goes i) ∧ ∀ i, k ≤ i → i < n → goes' i = h i := by
  intro g
  induction g with
  | zero => intro k goes _ hg; omega
  | succ g ih =>
    intro k goes hk hg
    rw [q_Mo_rising_236]
    show ∃ goes', (if nI n ≤ nI k then _ else _) = _ ∧ _
    by_cases hc : n ≤ k
    · rw [if_pos (nI_le hc (by omega))]
      exact ⟨goes, rfl, fun _ _ => rfl, fun i h1 h2 => by omega⟩
    · rw [if_neg (nI_ge (by omega) (by omega))]
      have go : ∃ goes', q_Mo_rising_255 N h (q_Mo_rising_236 N (nI S) h (nI n) g) x2 x3 (nI k) goes = some goes' ∧ (∀ i, i < k → goes' i = goes i) ∧ ∀ i, k ≤ i → i < n → goes' i = h i := by
        unfold q_Mo_rising_255
        rw [jin_nI (by omega) (by decide), jin_nI (by omega) (by decide), nI_clamp (by omega), nI_1]
        obtain ⟨g', e1, h1, h2⟩ := ih (k + 1) (vp_updL goes k (h k)) (by omega) (by omega)
        refine ⟨g', e1, fun i hi => by rw [h1 i (by omega), pk_uLn (by omega)], fun i a b => ?_⟩
        by_cases he : i = k
        · subst he; rw [h1 i (by omega), pk_uLs]
        · exact h2 i (by omega) b
      by_cases c1 : x2 = nI S
      · rw [if_pos c1]; exact go
      · rw [if_neg c1, if_pos (hq.resolve_left c1)]; exact go
theorem RisH.up {S n : Nat} {h : Nat → Int64} {e B : Nat → Nat} (H : RisH S n h e B) : ∀ d k, n - 1 - k = d → k < n → (∃ v, tb (h k) v = true ∧ e k ≤ v ∧ v < B (n - 1 - k)) → e n ≠ S + 1 := by
  intro d
  induction d with
  | zero =>
    intro k hd hk ⟨v, v1, v2, v3⟩
    have hkn : k = n - 1 := by omega
    have := H.es k hk
    rw [show k + 1 = n by omega] at this
    rcases this with ⟨w, w1, w2, w3, w4⟩ | ⟨w1, _⟩
    · have := H.clt k hk w w1; omega
    · exact absurd v2 (w1 v v1)
  | succ d ih =>
    intro k hd hk ⟨v, v1, v2, v3⟩
    have hk1 : k + 1 < n := by omega
    refine ih (k + 1) (by omega) hk1 ?_
    have hpv := H.bs (n - 1 - (k + 1)) (by omega)
    rw [show n - 1 - (n - 1 - (k + 1)) = k + 1 by omega, show n - 1 - (k + 1) + 1 = n - 1 - k by omega] at hpv
    rcases hpv with ⟨w, w1, w2, w3, w4⟩ | ⟨_, w2⟩
    · refine ⟨w, w1, ?_, w2⟩
      rcases H.es k hk with ⟨u, u1, u2, u3, u4⟩ | ⟨u1, _⟩
      · have := u4 v v1 v2; omega
      · exact absurd v2 (u1 v v1)
    · omega
theorem RisH.down {S n : Nat} {h : Nat → Int64} {e B : Nat → Nat} (H : RisH S n h e B) : ∀ k, k < n → (∃ v, tb (h k) v = true ∧ e k ≤ v ∧ v < B (n - 1 - k)) → ∃ v, tb (h 0) v = true ∧ v < B (n - 1) := by
  intro k
  induction k with
  | zero =>
    intro hk ⟨v, v1, v2, v3⟩
    exact ⟨v, v1, by rw [Nat.sub_zero] at v3; exact v3⟩
  | succ k ih =>
    intro hk ⟨v, v1, v2, v3⟩
    refine ih (by omega) ?_
    rcases H.es k (by omega) with ⟨u, u1, u2, u3, u4⟩ | ⟨_, u2⟩
    · refine ⟨u, u1, u2, ?_⟩
      have hpv := H.bs (n - 1 - (k + 1)) (by omega)
      rw [show n - 1 - (n - 1 - (k + 1)) = k + 1 by omega, show n - 1 - (k + 1) + 1 = n - 1 - k by omega] at hpv
      rcases hpv with ⟨w, w1, w2, w3, w4⟩ | ⟨w1, _⟩
      · have := w4 v v1 v3; omega
      · exact absurd v3 (w1 v v1)
    · have := H.clt (k + 1) hk v v1; omega
theorem rising_both {N : Nat} (hN : 62 ≤ N) {S n : Nat} (hS : S ≤ 60) (hn : n ≤ 16) {h : Nat → Int64} (hlt : ∀ k, k < n → ∀ v, tb (h k) v = true → v < S) (keep goes : Nat → Int64) (hkeep : ∀ i, i < n → keep i = h i) (hg : ∀ i, i < n → goes i = 0) :
    ∃ keep' goes', p_Kernel_keepRising N (nI S) h keep (nI n) = some keep' ∧ p_Mo_rising N (nI S) h goes (nI n) = some goes' ∧ Same h keep' goes' n := by
  obtain ⟨e, e0, es⟩ := seq_ex (P := fun k a b => NX S (h k) a b) 0 (fun k a => NX_ex S a)
  obtain ⟨B, b0, bs⟩ := seq_ex (P := fun j a b => PV (h (n - 1 - j)) a b) S (fun j a => PV_ex a)
  have H : RisH S n h e B := ⟨hS, hn, hlt, e0, fun k _ => es k, b0, fun j _ => bs j⟩
  obtain ⟨keep', e1, h1⟩ := ris_c (N := N) (by omega) H keep hkeep
  obtain ⟨g1, m1, _, q1⟩ := ris_m4 hN H N 0 goes (by omega) (by omega)
  obtain ⟨g2, b', m2, q2, q3, _, q4⟩ := ris_m125 hN H (zI ((e n : Int) - 1)) N 0 S g1 (by omega) (by omega) (Or.inl (by rw [b0])) (fun q => by omega)
  have hen := H.ele n (Nat.le_refl _)
  have hbn := H.ble n (Nat.le_refl _)
  have eM : p_Mo_rising N (nI S) h goes (nI n) = q_Mo_rising_236 N (nI S) h (nI n) N (zI ((e n : Int) - 1)) (zI b') (nI 0) g2 := by
    unfold p_Mo_rising
    rw [e0] at m1
    refine Eq.trans (show q_Mo_rising_4 N (nI S) h (nI n) N (-1) 0 goes = _ from m1) ?_
    unfold q_Mo_rising_115
    rw [show nI n - 1 = zI ((n : Int) - 1 - ((0 : Nat) : Int)) by rw [nz n, zs1]; congr 1; omega]
    have m2' : q_Mo_rising_125 N (nI S) h (nI n) N (zI ((e n : Int) - 1)) (nI S) (zI ((n : Int) - 1 - ((0 : Nat) : Int))) g1 = q_Mo_rising_233 N (nI S) h (nI n) (zI ((e n : Int) - 1)) (zI b') g2 := (congrArg (fun t => q_Mo_rising_125 N (nI S) h (nI n) N (zI ((e n : Int) - 1)) t (zI ((n : Int) - 1 - ((0 : Nat) : Int))) g1) (nz S)).trans m2
    rw [m2']
    rfl
  rw [e1, eM]
  by_cases hbad : zI ((e n : Int) - 1) = nI S ∨ zI b' = -1
  · obtain ⟨g3, m3, _, q5⟩ := ris_m236 N (S := S) hn (h := h) (x2 := zI ((e n : Int) - 1)) (x3 := zI b') hbad N 0 g2 (by omega) (by omega)
    refine ⟨keep', g3, rfl, m3, ?_⟩
    apply same_of
    intro k hk v hv
    rw [q5 k (by omega) hk, h1 k hk v hv]
    constructor
    · intro z
      refine ⟨z, fun q => ?_⟩
      rcases hbad with hb | hb
      · rw [nz, zeq ⟨by omega, by omega⟩ ⟨by omega, by omega⟩] at hb
        exact H.up _ k rfl hk ⟨v, q⟩ (by omega)
      · have hb : zI b' = zI (-1) := hb
        rw [zeq ⟨by omega, by omega⟩ ⟨by omega, by omega⟩] at hb
        obtain ⟨w, w1, w2⟩ := H.down k hk ⟨v, q⟩
        exact (q3 hb).2 w w1 w2
    · intro z; exact z.1
  · refine ⟨keep', g2, rfl, ?_, ?_⟩
    · obtain ⟨N, rfl⟩ : ∃ M, N = M + 1 := ⟨N - 1, by omega⟩
      rw [q_Mo_rising_236]
      show (if nI n ≤ nI 0 then _ else (if zI ((e n : Int) - 1) = nI S then _ else (if zI b' = -1 then _ else _))) = _
      rw [if_neg (fun q => hbad (Or.inl q)), if_neg (fun q => hbad (Or.inr q)), ite_self]
    · apply same_of
      intro k hk v hv
      rw [q4 k (by omega) v hv, q1 k (by omega) hk v hv, hg k hk, tb_0, h1 k hk v hv]
      constructor
      · rintro ((z | z) | z)
        · cases z
        · exact ⟨z.2, fun q => by omega⟩
        · exact ⟨z.2, fun q => by omega⟩
      · rintro ⟨z1, z2⟩
        by_cases c : v < e k
        · exact Or.inl (Or.inr ⟨c, z1⟩)
        · refine Or.inr ⟨?_, z1⟩
          apply Classical.byContradiction
          intro c2
          exact z2 ⟨z1, by omega, by omega⟩

