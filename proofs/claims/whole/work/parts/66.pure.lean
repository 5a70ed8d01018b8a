/-! mark and back. -/
theorem zI_toIntB {a : Int} (h1 : -100000 ≤ a) (h2 : a ≤ 100000) : (zI a).toInt = a := Int32.toInt_ofInt_of_le (by omega) (by omega)
theorem zltB {a b : Int} (h1 : -100000 ≤ a) (h2 : a ≤ 100000) (h3 : -100000 ≤ b) (h4 : b ≤ 100000) : zI a < zI b ↔ a < b := by rw [Int32.lt_iff_toInt_lt, zI_toIntB h1 h2, zI_toIntB h3 h4]
theorem znegB {a : Int} (h1 : -100000 ≤ a) (h2 : a ≤ 100000) : zI a < (0 : Int32) ↔ a < 0 := by rw [show (0 : Int32) = zI 0 by decide]; exact zltB h1 h2 (by omega) (by omega)
theorem cntE_back {c : Nat → Int64} {p n : Nat} (hp : p < n) {y : Int64} (hy : y ≠ 0) : cntE c n = cntE (vp_updL c p y) n + (if c p = 0 then 1 else 0) := by
  rw [← cntE_upd (c := vp_updL c p y) (p := p) (x := c p) n hp (by rw [pk_uLs]; exact hy)]
  apply cntE_congr
  intro k _
  by_cases h : k = p
  · subst h; rw [pk_uLs]
  · rw [pk_uLn h, pk_uLn h]
theorem take_succ_getD {l : List Nat} {i : Nat} (h : i < l.length) : l.take (i + 1) = l.take i ++ [l.getD i 0] := by
  rw [getD_lt h, List.take_succ_eq_append_getElem h]
theorem TrOK.take {P S : Nat} {tr : List Nat} (h : TrOK P S tr) (g : Nat) : TrOK P S (tr.take g) := ⟨h.1.sublist (List.take_sublist g tr), fun c hc => h.2 c (List.mem_of_mem_take hc)⟩
theorem back_loop (N : Nat) {P S : Nat} (hP : P ≤ 128) (hS : S ≤ 60) {trail : Nat → Int32} {tr : List Nat} (hT : TrOK P S tr) (hTr : Trail trail tr) {g : Nat} (hg : g ≤ tr.length) (gone : Int32) :
    ∀ d i, i - g = d → g ≤ i → i ≤ tr.length → ∀ f, d < f → ∀ cand, CandOK P S cand (tr.take i) → ∃ e' c', q_Board_returnTo_7 N P (P * S) trail (nI g) f (zI ((i : Int) - 1)) gone (nI (cntE cand P)) cand = some (nI g, e', c') ∧ CandOK P S c' (tr.take g) ∧ e' = nI (cntE c' P) := by
  have hlen : tr.length ≤ P * S := hT.len (by omega)
  have hps : P * S ≤ 128 * 60 := Nat.mul_le_mul hP hS
  intro d
  induction d with
  | zero =>
    intro i hd hi hi2 f hf cand hc
    obtain ⟨f, rfl⟩ : ∃ m, f = m + 1 := ⟨f - 1, by omega⟩
    have : i = g := by omega
    subst this
    rw [q_Board_returnTo_7]
    show ∃ e' c', (if zI ((i : Int) - 1) < nI i then _ else _) = _ ∧ _
    rw [if_pos (by rw [nz, zltB (by omega) (by omega) (by omega) (by omega)]; omega)]
    exact ⟨_, _, rfl, hc, rfl⟩
  | succ d ih =>
    intro i hd hi hi2 f hf cand hc
    obtain ⟨f, rfl⟩ : ∃ m, f = m + 1 := ⟨f - 1, by omega⟩
    obtain ⟨j, rfl⟩ : ∃ j, i = j + 1 := ⟨i - 1, by omega⟩
    have hj : j < tr.length := by omega
    rw [q_Board_returnTo_7]
    show ∃ e' c', (if zI (((j + 1 : Nat) : Int) - 1) < nI g then _ else (if zI (((j + 1 : Nat) : Int) - 1) < 0 then _ else _)) = _ ∧ _
    rw [if_neg (by rw [nz, zltB (by omega) (by omega) (by omega) (by omega)]; omega), if_neg (by rw [znegB (by omega) (by omega)]; omega), show zI (((j + 1 : Nat) : Int) - 1) = nI j by rw [nz]; congr 1; omega, jin_nI (by omega) (by omega), nI_clamp (by omega), hTr j hj]
    obtain ⟨c, hcdef⟩ : ∃ c, c = tr.getD j 0 := ⟨_, rfl⟩
    have hmem : c ∈ tr := by rw [hcdef]; exact mem_getD hj
    obtain ⟨hcP, hcS⟩ := hT.2 c hmem
    have hc64 : c < 128 * 64 := by omega
    rw [← hcdef, iu_nI (by omega) 6 6 (by decide), show c / 2 ^ 6 = c / 64 from rfl, jin_nI hcP (by omega), nI_clamp (by omega)]
    have etake : tr.take (j + 1) = tr.take j ++ [c] := by rw [hcdef]; exact take_succ_getD hj
    have hfresh : c ∉ tr.take j := by
      have h1 : (tr.take j ++ [c]).Nodup := by rw [← etake]; exact (hT.take _).1
      intro z
      exact (List.nodup_append.mp h1).2.2 c z c (List.mem_singleton.mpr rfl) rfl
    have hnew : ∀ y, y = cand (c / 64) ||| j_lshl 1 (nI (c % 64)) → CandOK P S (vp_updL cand (c / 64) y) (tr.take j) ∧ y ≠ 0 := by
      intro y hy
      have hb : tb y (c % 64) = true := by rw [hy, tb_or, tb_bit (by omega) (by omega)]; simp
      refine ⟨fun p hp v hv => ?_, fun z => by rw [z, tb_0] at hb; cases hb⟩
      have h0 := hc p hp v hv
      rw [etake] at h0
      by_cases hpc : p = c / 64
      · subst hpc
        rw [pk_uLs, hy, tb_or, tb_bit (by omega) hv, h0, Bool.eq_iff_iff, Bool.or_eq_true, decide_eq_true_eq, decide_eq_true_eq, decide_eq_true_eq, List.mem_append, List.mem_singleton]
        constructor
        · rintro (⟨a, b⟩ | a)
          · exact ⟨a, fun z => b (Or.inl z)⟩
          · subst a
            refine ⟨hcS, ?_⟩
            rw [show 64 * (c / 64) + c % 64 = c by omega]
            exact hfresh
        · rintro ⟨a, b⟩
          by_cases he : v = c % 64
          · exact Or.inr he
          · refine Or.inl ⟨a, fun z => ?_⟩
            rcases z with z | z
            · exact b z
            · omega
      · rw [pk_uLn hpc, h0, Bool.eq_iff_iff, decide_eq_true_eq, decide_eq_true_eq, List.mem_append, List.mem_singleton]
        constructor
        · rintro ⟨a, b⟩; exact ⟨a, fun z => b (Or.inl z)⟩
        · rintro ⟨a, b⟩
          refine ⟨a, fun z => ?_⟩
          rcases z with z | z
          · exact b z
          · omega
    obtain ⟨n1, n2⟩ := hnew _ rfl
    have hcnt := cntE_back (c := cand) hcP n2
    have next : ∀ e, e = nI (cntE (vp_updL cand (c / 64) (cand (c / 64) ||| j_lshl 1 (nI (c % 64)))) P) → ∃ e' c', q_Board_returnTo_47 N P (P * S) trail (q_Board_returnTo_7 N P (P * S) trail (nI g) f) (nI j) (nI (c / 64)) gone e cand = some (nI g, e', c') ∧ CandOK P S c' (tr.take g) ∧ e' = nI (cntE c' P) := by
      intro e he
      unfold q_Board_returnTo_47
      rw [jin_nI hcP (by omega), jin_nI (by omega) (by omega), jin_nI hcP (by omega), nI_clamp (by omega), nI_clamp (by omega), hTr j hj, ← hcdef, pk_andN (k := 6) (by omega) (by decide), show c % 2 ^ 6 = c % 64 from rfl, nz j, zm1, he]
      exact ih j (by omega) (by omega) (by omega) f (by omega) _ n1
    by_cases hz : cand (c / 64) = 0
    · rw [if_pos ((lg_cmp_eq _ _).mpr hz)]
      apply next
      rw [hcnt, if_pos hz]
      exact nI_pred _
    · rw [if_neg (fun q => hz ((lg_cmp_eq _ _).mp q))]
      apply next
      rw [hcnt, if_neg hz, Nat.add_zero]
theorem board_back {N P S : Nat} (hN : 7682 ≤ N) (hP : P ≤ 128) (hS : S ≤ 60) {gone empty : Int32} {cand : Nat → Int64} {reasons trail : Nat → Int32} {tr : List Nat} {rs : Nat → Int32} (h : BoardOK P S gone empty cand reasons trail tr rs) {g : Nat} (hg : g ≤ tr.length) :
    ∃ e' c', p_Board_returnTo N P (P * S) gone empty cand trail (nI g) = some (nI g, e', c') ∧ BoardOK P S (nI g) e' c' reasons trail (tr.take g) rs := by
  obtain ⟨b1, b2, b3, b4, b5, b6⟩ := h
  have hlen : tr.length ≤ P * S := b3.len (by omega)
  have hps : P * S ≤ 128 * 60 := Nat.mul_le_mul hP hS
  obtain ⟨e', c', e1, h1, h2⟩ := back_loop N hP hS b3 b2 hg gone (tr.length - g) tr.length rfl hg (Nat.le_refl _) N (by omega) cand (by rw [List.take_length]; exact b4)
  refine ⟨e', c', ?_, ?_, ?_, b3.take g, h1, fun c hc => b5 c (List.mem_of_mem_take hc), h2⟩
  · unfold p_Board_returnTo
    rw [show gone - 1 = zI ((tr.length : Int) - 1) by rw [b1, nz, zs1], b6]
    exact e1
  · rw [List.length_take, Nat.min_eq_left hg]
  · intro k hk
    rw [List.length_take] at hk
    rw [b2 k (by omega), getD_lt (by omega), getD_lt (by rw [List.length_take]; omega), List.getElem_take]
/-- copies into the st-th piece of m, from k on -/
def cpF {α : Type} (m st k : Nat) (X Y : Nat → α) : Nat → α := fun i => if m * st + k ≤ i ∧ i < m * st + m then X (i - m * st) else Y i
def bkF {α : Type} (m j k : Nat) (Kp X : Nat → α) : Nat → α := fun i => if k ≤ i ∧ i < m then Kp (m * j + i) else X i
theorem cpF_end {α : Type} {m st : Nat} (X Y : Nat → α) : cpF m st m X Y = Y := by
  funext i
  exact if_neg (by omega)
theorem bkF_end {α : Type} {m j : Nat} (X Y : Nat → α) : bkF m j m X Y = Y := by
  funext i
  exact if_neg (by omega)
theorem cpF_I {m st k : Nat} (h : k < m) (X Y : Nat → Int32) : cpF m st (k + 1) X (upd Y (m * st + k) (X k)) = cpF m st k X Y := by
  funext i
  unfold cpF
  by_cases he : i = m * st + k
  · subst he
    rw [if_neg (by omega), pk_us, if_pos (by omega)]
    congr 1
    omega
  · rw [pk_un he]
    by_cases h1 : m * st + k ≤ i ∧ i < m * st + m
    · rw [if_pos h1, if_pos (by omega)]
    · rw [if_neg h1, if_neg (by omega)]
theorem cpF_L {m st k : Nat} (h : k < m) (X Y : Nat → Int64) : cpF m st (k + 1) X (vp_updL Y (m * st + k) (X k)) = cpF m st k X Y := by
  funext i
  unfold cpF
  by_cases he : i = m * st + k
  · subst he
    rw [if_neg (by omega), pk_uLs, if_pos (by omega)]
    congr 1
    omega
  · rw [pk_uLn he]
    by_cases h1 : m * st + k ≤ i ∧ i < m * st + m
    · rw [if_pos h1, if_pos (by omega)]
    · rw [if_neg h1, if_neg (by omega)]
theorem bkF_I {m j k : Nat} (h : k < m) (Kp X : Nat → Int32) : bkF m j (k + 1) Kp (upd X k (Kp (m * j + k))) = bkF m j k Kp X := by
  funext i
  unfold bkF
  by_cases he : i = k
  · subst he
    rw [if_neg (by omega), pk_us, if_pos (by omega)]
  · rw [pk_un he]
    by_cases h1 : k ≤ i ∧ i < m
    · rw [if_pos h1, if_pos (by omega)]
    · rw [if_neg h1, if_neg (by omega)]
theorem bkF_L {m j k : Nat} (h : k < m) (Kp X : Nat → Int64) : bkF m j (k + 1) Kp (vp_updL X k (Kp (m * j + k))) = bkF m j k Kp X := by
  funext i
  unfold bkF
  by_cases he : i = k
  · subst he
    rw [if_neg (by omega), pk_uLs, if_pos (by omega)]
  · rw [pk_uLn he]
    by_cases h1 : k ≤ i ∧ i < m
    · rw [if_pos h1, if_pos (by omega)]
    · rw [if_neg h1, if_neg (by omega)]
section MARKM
variable (N : Nat) {st : Nat} (w wk th : Int32) (mc : Nat → Int64) (mre row order : Nat → Int32)
theorem mark_18 (hst : st < 20) : ∀ f k kC kR kW kRo kO kOr, k ≤ 128 → 128 - k < f → q_Mo_mark_18 N w wk mc mre row order f (nI k) th (nI st) kC kR kW kRo kO kOr = q_Mo_mark_52 N w wk mre row order th (nI st) (cpF 128 st k mc kC) kR kW kRo kO kOr := by
  intro f
  induction f with
  | zero => intro k kC kR kW kRo kO kOr _ hf; omega
  | succ f ih =>
    intro k kC kR kW kRo kO kOr hk hf
    rw [q_Mo_mark_18]
    show (if nI 128 ≤ nI k then _ else _) = _
    by_cases hc : 128 ≤ k
    · rw [if_pos (nI_le hc (by omega)), show k = 128 by omega, cpF_end]
    · rw [if_neg (nI_ge (by omega) (by omega)), jin_nI (by omega) (by decide), show (128 : Int32) = nI 128 from rfl, pk_mul, nI_add, jin_nI (by omega) (by decide), nI_clamp (by omega), nI_clamp (by omega), nI_1, ih _ _ _ _ _ _ _ (by omega) (by omega), cpF_L (by omega)]
theorem mark_54 (hst : st < 20) : ∀ f k kC kR kW kRo kO kOr, k ≤ 7680 → 7680 - k < f → q_Mo_mark_54 N w wk mre row order f (nI k) th (nI st) kC kR kW kRo kO kOr = q_Mo_mark_88 N w wk row order th (nI st) kC (cpF 7680 st k mre kR) kW kRo kO kOr := by
  intro f
  induction f with
  | zero => intro k kC kR kW kRo kO kOr _ hf; omega
  | succ f ih =>
    intro k kC kR kW kRo kO kOr hk hf
    rw [q_Mo_mark_54]
    show (if nI 7680 ≤ nI k then _ else _) = _
    by_cases hc : 7680 ≤ k
    · rw [if_pos (nI_le hc (by omega)), show k = 7680 by omega, cpF_end]
    · rw [if_neg (nI_ge (by omega) (by omega)), jin_nI (by omega) (by decide), show (7680 : Int32) = nI 7680 from rfl, pk_mul, nI_add, jin_nI (by omega) (by decide), nI_clamp (by omega), nI_clamp (by omega), nI_1, ih _ _ _ _ _ _ _ (by omega) (by omega), cpF_I (by omega)]
theorem mark_103 (hst : st < 20) : ∀ f k kC kR kW kRo kO kOr, k ≤ 120 → 120 - k < f → q_Mo_mark_103 N wk row order f (nI k) th (nI st) kC kR kW kRo kO kOr = q_Mo_mark_135 N wk order th (nI st) kC kR kW (cpF 120 st k row kRo) kO kOr := by
  intro f
  induction f with
  | zero => intro k kC kR kW kRo kO kOr _ hf; omega
  | succ f ih =>
    intro k kC kR kW kRo kO kOr hk hf
    rw [q_Mo_mark_103]
    show (if nI 120 ≤ nI k then _ else _) = _
    by_cases hc : 120 ≤ k
    · rw [if_pos (nI_le hc (by omega)), show k = 120 by omega, cpF_end]
    · rw [if_neg (nI_ge (by omega) (by omega)), jin_nI (by omega) (by decide), show (120 : Int32) = nI 120 from rfl, pk_mul, nI_add, jin_nI (by omega) (by decide), nI_clamp (by omega), nI_clamp (by omega), nI_1, ih _ _ _ _ _ _ _ (by omega) (by omega), cpF_I (by omega)]
theorem mark_150 (hst : st < 20) : ∀ f k kC kR kW kRo kO kOr, k ≤ 1000 → 1000 - k < f → q_Mo_mark_150 N order f (nI k) th (nI st) kC kR kW kRo kO kOr = q_Mo_mark_184 N th (nI st) kC kR kW kRo kO (cpF 1000 st k order kOr) := by
  intro f
  induction f with
  | zero => intro k kC kR kW kRo kO kOr _ hf; omega
  | succ f ih =>
    intro k kC kR kW kRo kO kOr hk hf
    rw [q_Mo_mark_150]
    show (if nI 1000 ≤ nI k then _ else _) = _
    by_cases hc : 1000 ≤ k
    · rw [if_pos (nI_le hc (by omega)), show k = 1000 by omega, cpF_end]
    · rw [if_neg (nI_ge (by omega) (by omega)), jin_nI (by omega) (by decide), show (1000 : Int32) = nI 1000 from rfl, pk_mul, nI_add, jin_nI (by omega) (by decide), nI_clamp (by omega), nI_clamp (by omega), nI_1, ih _ _ _ _ _ _ _ (by omega) (by omega), cpF_I (by omega)]
theorem mo_mark (hst : st < 20) (hN : 7682 ≤ N) (kC : Nat → Int64) (kR kW kRo kO kOr : Nat → Int32) : p_Mo_mark N w wk (nI st) mc mre row order kC kR kW kRo kO kOr = some (nI st, 0, nI (st + 1), cpF 128 st 0 mc kC, cpF 7680 st 0 mre kR, upd kW st w, cpF 120 st 0 row kRo, upd kO st wk, cpF 1000 st 0 order kOr) := by
  unfold p_Mo_mark
  rw [if_neg (show ¬ nI st = (20 : Int32) from fun q => by have := (nI_eq (b := 20) (by omega) (by decide)).mp q; omega)]
  refine (mark_18 N w wk 0 mc mre row order hst N 0 kC kR kW kRo kO kOr (by omega) (by omega)).trans ?_
  unfold q_Mo_mark_52
  refine (mark_54 N w wk 0 mre row order hst N 0 _ kR kW kRo kO kOr (by omega) (by omega)).trans ?_
  unfold q_Mo_mark_88
  rw [jin_nI (by omega) (by decide), nI_clamp (by omega)]
  refine (mark_103 N wk 0 row order hst N 0 _ _ _ kRo kO kOr (by omega) (by omega)).trans ?_
  unfold q_Mo_mark_135
  rw [jin_nI (by omega) (by decide), nI_clamp (by omega)]
  refine (mark_150 N 0 order hst N 0 _ _ _ _ _ kOr (by omega) (by omega)).trans ?_
  unfold q_Mo_mark_184
  rw [nI_1, show nI (st + 1) - 1 = nI st from nI_pred st]
end MARKM
section BACKM
variable (N : Nat) {j : Nat} (th : Int32) (kC : Nat → Int64) (kR kW kRo kO kOr : Nat → Int32)
theorem bk_26 (hj : j < 20) : ∀ f k w wk mk mc mre row order, k ≤ 128 → 128 - k < f → q_Mo_back_26 N kC kR kW kRo kO kOr (nI j) f (nI k) th w wk mk mc mre row order = q_Mo_back_57 N kR kW kRo kO kOr (nI j) th w wk mk (bkF 128 j k kC mc) mre row order := by
  intro f
  induction f with
  | zero => intro k w wk mk mc mre row order _ hf; omega
  | succ f ih =>
    intro k w wk mk mc mre row order hk hf
    rw [q_Mo_back_26]
    show (if nI 128 ≤ nI k then _ else _) = _
    by_cases hc : 128 ≤ k
    · rw [if_pos (nI_le hc (by omega)), show k = 128 by omega, bkF_end]
    · rw [if_neg (nI_ge (by omega) (by omega)), show (128 : Int32) = nI 128 from rfl, pk_mul, nI_add, jin_nI (by omega) (by decide), jin_nI (by omega) (by decide), nI_clamp (by omega), nI_clamp (by omega), nI_1, ih _ _ _ _ _ _ _ _ (by omega) (by omega), bkF_L (by omega)]
theorem bk_59 (hj : j < 20) : ∀ f k w wk mk mc mre row order, k ≤ 7680 → 7680 - k < f → q_Mo_back_59 N kR kW kRo kO kOr (nI j) f (nI k) th w wk mk mc mre row order = q_Mo_back_90 N kW kRo kO kOr (nI j) th w wk mk mc (bkF 7680 j k kR mre) row order := by
  intro f
  induction f with
  | zero => intro k w wk mk mc mre row order _ hf; omega
  | succ f ih =>
    intro k w wk mk mc mre row order hk hf
    rw [q_Mo_back_59]
    show (if nI 7680 ≤ nI k then _ else _) = _
    by_cases hc : 7680 ≤ k
    · rw [if_pos (nI_le hc (by omega)), show k = 7680 by omega, bkF_end]
    · rw [if_neg (nI_ge (by omega) (by omega)), show (7680 : Int32) = nI 7680 from rfl, pk_mul, nI_add, jin_nI (by omega) (by decide), jin_nI (by omega) (by decide), nI_clamp (by omega), nI_clamp (by omega), nI_1, ih _ _ _ _ _ _ _ _ (by omega) (by omega), bkF_I (by omega)]
theorem bk_102 (hj : j < 20) : ∀ f k w wk mk mc mre row order, k ≤ 120 → 120 - k < f → q_Mo_back_102 N kRo kO kOr (nI j) f (nI k) th w wk mk mc mre row order = q_Mo_back_131 N kO kOr (nI j) th w wk mk mc mre (bkF 120 j k kRo row) order := by
  intro f
  induction f with
  | zero => intro k w wk mk mc mre row order _ hf; omega
  | succ f ih =>
    intro k w wk mk mc mre row order hk hf
    rw [q_Mo_back_102]
    show (if nI 120 ≤ nI k then _ else _) = _
    by_cases hc : 120 ≤ k
    · rw [if_pos (nI_le hc (by omega)), show k = 120 by omega, bkF_end]
    · rw [if_neg (nI_ge (by omega) (by omega)), show (120 : Int32) = nI 120 from rfl, pk_mul, nI_add, jin_nI (by omega) (by decide), jin_nI (by omega) (by decide), nI_clamp (by omega), nI_clamp (by omega), nI_1, ih _ _ _ _ _ _ _ _ (by omega) (by omega), bkF_I (by omega)]
theorem bk_143 (hj : j < 20) : ∀ f k w wk mk mc mre row order, k ≤ 1000 → 1000 - k < f → q_Mo_back_143 N kOr (nI j) f (nI k) th w wk mk mc mre row order = some (1, th, w, wk, mk, mc, mre, row, bkF 1000 j k kOr order) := by
  intro f
  induction f with
  | zero => intro k w wk mk mc mre row order _ hf; omega
  | succ f ih =>
    intro k w wk mk mc mre row order hk hf
    rw [q_Mo_back_143]
    show (if nI 1000 ≤ nI k then _ else _) = _
    by_cases hc : 1000 ≤ k
    · rw [if_pos (nI_le hc (by omega)), show k = 1000 by omega, bkF_end]
    · rw [if_neg (nI_ge (by omega) (by omega)), show (1000 : Int32) = nI 1000 from rfl, pk_mul, nI_add, jin_nI (by omega) (by decide), jin_nI (by omega) (by decide), nI_clamp (by omega), nI_clamp (by omega), nI_1, ih _ _ _ _ _ _ _ _ (by omega) (by omega), bkF_I (by omega)]
theorem mo_back1 (hj : j < 20) (hN : 7682 ≤ N) (w wk mk : Int32) (mc : Nat → Int64) (mre row order : Nat → Int32) : q_Mo_back_26 N kC kR kW kRo kO kOr (nI j) N 0 th w wk mk mc mre row order = some (1, th, kW j, kO j, mk, bkF 128 j 0 kC mc, bkF 7680 j 0 kR mre, bkF 120 j 0 kRo row, bkF 1000 j 0 kOr order) := by
  refine (bk_26 N th kC kR kW kRo kO kOr hj N 0 w wk mk mc mre row order (by omega) (by omega)).trans ?_
  unfold q_Mo_back_57
  refine (bk_59 N th kR kW kRo kO kOr hj N 0 w wk mk _ mre row order (by omega) (by omega)).trans ?_
  unfold q_Mo_back_90
  rw [jin_nI (by omega) (by decide), nI_clamp (by omega)]
  refine (bk_102 N th kRo kO kOr hj N 0 _ wk mk _ _ row order (by omega) (by omega)).trans ?_
  unfold q_Mo_back_131
  rw [jin_nI (by omega) (by decide), nI_clamp (by omega)]
  exact bk_143 N th kOr hj N 0 _ _ mk _ _ _ order (by omega) (by omega)
end BACKM

