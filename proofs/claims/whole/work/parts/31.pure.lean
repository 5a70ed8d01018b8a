/-! The row of waiting rules, as a list. -/
theorem nodup_lt_len : ∀ (n : Nat) (l : List Nat), l.Nodup → (∀ x ∈ l, x < n) → l.length ≤ n := by
  intro n
  induction n with
  | zero =>
    intro l _ h
    cases l with
    | nil => simp
    | cons a l => exact absurd (h a List.mem_cons_self) (Nat.not_lt_zero _)
  | succ n ih =>
    intro l hn h
    by_cases hm : n ∈ l
    · have h1 := ih (l.erase n) (hn.erase n) (fun x hx => by
        have hx2 := (hn.mem_erase_iff).mp hx
        have := h x hx2.2
        omega)
      rw [List.length_erase_of_mem hm] at h1
      omega
    · have h1 := ih l hn (fun x hx => by
        have := h x hx
        have : x ≠ n := fun e => hm (e ▸ hx)
        omega)
      omega
theorem getD_app {l m : List Nat} {k : Nat} (h : k < l.length) : (l ++ m).getD k 0 = l.getD k 0 := by
  rw [List.getD_eq_getElem?_getD, List.getD_eq_getElem?_getD, List.getElem?_append_left h]
def RowOK (head size : Int32) (ring waits : Nat → Int32) (l : List Nat) : Prop :=
  ∃ h : Nat, h < 120 ∧ head = nI h ∧ size = nI l.length ∧ (∀ k, k < l.length → ring ((h + k) % 120) = nI (l.getD k 0)) ∧ (∀ r, r < 120 → waits r = if r ∈ l then 1 else 0) ∧ l.Nodup ∧ ∀ r ∈ l, r < 120
theorem RowOK.len {head size : Int32} {ring waits : Nat → Int32} {l : List Nat} (h : RowOK head size ring waits l) : l.length ≤ 120 := by
  obtain ⟨_, _, _, _, _, _, hn, hl⟩ := h
  exact nodup_lt_len 120 l hn hl
/-- a rule comes to the row's end, once -/
def rjoin (l : List Nat) (r : Nat) : List Nat := if r ∈ l then l else l ++ [r]
theorem nar_1 : vp_nar .boolean (1 : Int32) = 1 := by decide
theorem nar_0 : vp_nar .boolean (0 : Int32) = 0 := by decide
theorem row_join (N : Nat) {head size : Int32} {ring waits : Nat → Int32} {l : List Nat} {r : Nat} (h : RowOK head size ring waits l) (hr : r < 120) : ∃ s' g' w', p_Row_join N head size ring waits (nI r) = some (s', g', w') ∧ RowOK head s' g' w' (rjoin l r) := by
  obtain ⟨hd, hd120, rfl, rfl, hring, hw, hnd, hlt⟩ := h
  unfold p_Row_join rjoin
  rw [if_neg (nI_pos (by omega)), if_neg (nI_ge hr (by decide)), jin_nI hr (by decide), nI_clamp (by omega)]
  by_cases hm : r ∈ l
  · rw [hw r hr, if_pos hm, if_neg (show ¬ (1 : Int32) = 0 by decide), if_pos hm]
    exact ⟨_, _, _, rfl, hd, hd120, rfl, rfl, hring, hw, hnd, hlt⟩
  · have hlen : l.length + 1 ≤ 120 := nodup_lt_len 120 (r :: l) (List.nodup_cons.mpr ⟨hm, hnd⟩) (fun x hx => by
      rcases List.mem_cons.mp hx with e | e
      · omega
      · exact hlt x e)
    rw [hw r hr, if_neg hm, if_pos rfl, if_neg hm, if_pos (nI_lt (by omega) (by decide)), nI_add]
    have key : ∀ e : Nat, e < 120 → e = (hd + l.length) % 120 → ∃ s' g' w', q_Row_join_69 N (nI r) (nI e) (nI l.length) ring waits = some (s', g', w') ∧ RowOK (nI hd) s' g' w' (l ++ [r]) := by
      intro e he hee
      unfold q_Row_join_69
      rw [jin_nI he (by decide), jin_nI hr (by decide), nI_clamp (by omega), nI_clamp (by omega), nar_1]
      refine ⟨_, _, _, rfl, hd, hd120, rfl, ?_, ?_, ?_, ?_, ?_⟩
      · rw [List.length_append]; exact nI_1 l.length
      · intro k hk
        rw [List.length_append, List.length_singleton] at hk
        by_cases hkl : k = l.length
        · subst hkl
          rw [← hee, show upd ring e (nI r) e = nI r from if_pos rfl]
          simp
        · have hk2 : k < l.length := by omega
          have hne : (hd + k) % 120 ≠ e := by
            rw [hee]; omega
          rw [show upd ring e (nI r) ((hd + k) % 120) = ring ((hd + k) % 120) from if_neg hne, hring k hk2]
          congr 1
          rw [getD_app hk2]
      · intro q hq
        by_cases hqr : q = r
        · subst hqr
          rw [show upd waits q 1 q = 1 from if_pos rfl]
          simp
        · rw [show upd waits r 1 q = waits q from if_neg hqr, hw q hq]
          simp [hqr]
      · rw [List.nodup_append]
        refine ⟨hnd, by simp, ?_⟩
        intro a ha b hb e
        rw [List.mem_singleton] at hb
        exact hm (by rw [← hb, ← e]; exact ha)
      · intro q hq
        rcases List.mem_append.mp hq with e | e
        · exact hlt q e
        · rw [List.mem_singleton] at e; omega
    by_cases hc : 120 ≤ hd + l.length
    · rw [if_pos (nI_le hc (by omega)), pk_sub hc]
      exact key (hd + l.length - 120) (by omega) (by omega)
    · rw [if_neg (nI_ge (by omega) (by decide))]
      exact key (hd + l.length) (by omega) (by omega)
theorem row_leave (N : Nat) {head size : Int32} {ring waits : Nat → Int32} {r : Nat} {l : List Nat} (h : RowOK head size ring waits (r :: l)) : ∃ h' s' w', p_Row_leave N head size ring waits = some (nI r, h', s', w') ∧ RowOK h' s' ring w' l := by
  have hlen := h.len
  obtain ⟨hd, hd120, rfl, rfl, hring, hw, hnd, hlt⟩ := h
  have hr : r < 120 := hlt r List.mem_cons_self
  have h0 := hring 0 (by simp)
  rw [Nat.add_zero, Nat.mod_eq_of_lt hd120] at h0
  simp only [List.getD_cons_zero] at h0
  rw [List.length_cons] at hlen
  unfold p_Row_leave
  rw [List.length_cons, if_pos (show (0 : Int32) < nI (l.length + 1) from nI_lt (a := 0) (by omega) (by omega)), jin_nI hd120 (by decide), nI_clamp (by omega), h0, jin_nI hr (by decide), nI_clamp (by omega), nar_0]
  have key : ∀ e : Nat, e < 120 → e = (hd + 1) % 120 → ∃ h' s' w', q_Row_leave_51 N (nI r) (nI e) (nI hd) (nI (l.length + 1)) (upd waits r 0) = some (nI r, h', s', w') ∧ RowOK h' s' ring w' l := by
    intro e he hee
    unfold q_Row_leave_51
    refine ⟨_, _, _, rfl, e, he, rfl, nI_pred l.length, ?_, ?_, (List.nodup_cons.mp hnd).2, fun q hq => hlt q (List.mem_cons_of_mem _ hq)⟩
    · intro k hk
      have h1 := hring (k + 1) (by rw [List.length_cons]; omega)
      rw [List.getD_cons_succ] at h1
      rw [← h1]
      congr 1
      omega
    · intro q hq
      by_cases hqr : q = r
      · subst hqr
        rw [show upd waits q 0 q = 0 from if_pos rfl, if_neg (List.nodup_cons.mp hnd).1]
      · rw [show upd waits r 0 q = waits q from if_neg hqr, hw q hq]
        simp [hqr]
  by_cases hc : 120 ≤ hd + 1
  · rw [if_pos (show nI 120 ≤ nI hd + 1 by rw [nI_1]; exact nI_le hc (by omega))]
    exact key 0 (by decide) (by omega)
  · rw [if_neg (show ¬ nI 120 ≤ nI hd + 1 by rw [nI_1]; exact nI_ge (by omega) (by decide)), nI_1]
    exact key (hd + 1) (by omega) (by omega)

