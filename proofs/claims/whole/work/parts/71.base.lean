/-! whether there is such a person, such a secret -/
theorem e_has {q j : Nat} (hq : q ≤ 8) (hj : j < 2 ^ 31) : f_X9_in (nI j) 0 (nI q - 1) = if q ≤ j then 0 else 1 := by
  unfold f_X9_in
  rw [if_neg (nI_pos hj)]
  rcases q with _ | q
  · rw [if_pos (Nat.zero_le _), if_pos (Int32.lt_of_lt_of_le (show nI 0 - 1 < 0 by decide) (nI_pos' hj))]
  · rw [nI_pred]
    rcases Nat.lt_or_ge q j with w | w
    · rw [if_pos (nI_lt w hj), if_pos (by omega)]
    · rw [if_neg (nI_nlt w (by omega)), if_neg (by omega)]
theorem e_hasS {mTo : Nat → Int32} {vS p0 : Int32} {q : Nat} (hq : q ≤ 8) (h : vS = nI q) (h' : mTo 1 = nI q) : (f_X7_hasSecret vS p0 = 0 ∧ f_X9_isSecret mTo p0 = 0) ∨ ∃ k, k < q ∧ p0 = nI k ∧ f_X7_hasSecret vS p0 = 1 ∧ f_X9_isSecret mTo p0 = 1 := by
  subst h
  unfold f_X7_hasSecret f_X9_isSecret
  rw [h']
  by_cases c : p0 < 0
  · left; exact ⟨if_pos c, if_pos c⟩
  · obtain ⟨j, hj, rfl⟩ := nI_of c
    rw [e_has hq hj, if_neg c]
    rcases Nat.lt_or_ge j q with w | w
    · right
      refine ⟨j, w, rfl, ?_, if_neg (by omega)⟩
      rw [if_neg (nI_ge w (by omega)), if_neg (show ¬ (8 : Int32) ≤ nI j from nI_ge (a := j) (b := 8) (by omega) (by decide))]
    · left
      exact ⟨if_pos (nI_le w hj), if_pos w⟩
theorem e_hasP {mTo : Nat → Int32} {vP p0 : Int32} {q : Nat} (hq : q ≤ 6) (h : vP = nI q) (h' : mTo 0 = nI q) : (f_X7_hasPerson vP p0 = 0 ∧ f_X9_isPerson mTo p0 = 0) ∨ ∃ k, k < q ∧ p0 = nI k ∧ f_X7_hasPerson vP p0 = 1 ∧ f_X9_isPerson mTo p0 = 1 := by
  subst h
  unfold f_X7_hasPerson f_X9_isPerson
  rw [h']
  by_cases c : p0 < 0
  · left; exact ⟨if_pos c, if_pos c⟩
  · obtain ⟨j, hj, rfl⟩ := nI_of c
    rw [e_has (by omega) hj, if_neg c]
    rcases Nat.lt_or_ge j q with w | w
    · right
      refine ⟨j, w, rfl, ?_, if_neg (by omega)⟩
      rw [if_neg (nI_ge w (by omega)), if_neg (show ¬ (6 : Int32) ≤ nI j from nI_ge (a := j) (b := 6) (by omega) (by decide))]
    · left
      exact ⟨if_pos (nI_le w hj), if_pos w⟩
/-! standings put away and taken up -/
theorem e_StOK {p q : Nat} {t r r' : Nat → Int32} (hq : q ≤ 8) (h : StOK p q t r) (e : ∀ k, k < 15 → r' k = r k) : StOK p q t r' := fun k hk => by
  obtain ⟨K, o, a, b, c⟩ := h k hk
  exact ⟨K, o, a, by rw [e (6 + k) (by omega)]; exact b, c⟩
theorem e_cf (cel i0 : Nat → Int32) (n k : Nat) : F_X6_copyFrom_2 cel i0 n k = if k < n then cel k else i0 k := by
  induction n with
  | zero => rfl
  | succ n ih =>
    rw [F_X6_copyFrom_2]; unfold upd
    by_cases e : k = n
    · subst e; rw [if_pos rfl, if_pos (by omega)]
    · rw [if_neg e, ih]
      by_cases w : k < n
      · rw [if_pos w, if_pos (by omega)]
      · rw [if_neg w, if_neg (by omega)]
theorem e_un (m : Nat) (pa i0 : Nat → Int32) (n k : Nat) : F_X9_undo_22 m pa i0 n k = if k < n then pa (15 * m + k) else i0 k := by
  induction n with
  | zero => rfl
  | succ n ih =>
    rw [F_X9_undo_22]; unfold upd
    by_cases e : k = n
    · subst e; rw [if_pos rfl, if_pos (by omega)]
    · rw [if_neg e, ih]
      by_cases w : k < n
      · rw [if_pos w, if_pos (by omega)]
      · rw [if_neg w, if_neg (by omega)]
theorem e_ba (m : Nat) (pa i0 : Nat → Int32) (n k : Nat) : F_X9_back_22 m pa i0 n k = if k < n then pa (15 * m + k) else i0 k := by
  induction n with
  | zero => rfl
  | succ n ih =>
    rw [F_X9_back_22]; unfold upd
    by_cases e : k = n
    · subst e; rw [if_pos rfl, if_pos (by omega)]
    · rw [if_neg e, ih]
      by_cases w : k < n
      · rw [if_pos w, if_pos (by omega)]
      · rw [if_neg w, if_neg (by omega)]
theorem e_ke (m : Nat) (st i0 : Nat → Int32) (n k : Nat) : F_X9_keep_13 m st i0 n k = if 15 * m ≤ k ∧ k < 15 * m + n then st (k - 15 * m) else i0 k := by
  induction n with
  | zero => rw [if_neg (by omega)]; rfl
  | succ n ih =>
    rw [F_X9_keep_13]; unfold upd
    by_cases e : k = 15 * m + n
    · rw [if_pos e, if_pos (by omega), e, Nat.add_sub_cancel_left]
    · rw [if_neg e, ih]
      by_cases w : 15 * m ≤ k ∧ k < 15 * m + n
      · rw [if_pos w, if_pos (by omega)]
      · rw [if_neg w, if_neg (by omega)]
theorem e_ci0 (row i0 : Nat → Int32) (n k : Nat) : F_X6_copyInto_2 row i0 n k = if k < n then row k else i0 k := by
  induction n with
  | zero => rfl
  | succ n ih =>
    rw [F_X6_copyInto_2]; unfold upd
    by_cases e : k = n
    · subst e; rw [if_pos rfl, if_pos (by omega)]
    · rw [if_neg e, ih]
      by_cases w : k < n
      · rw [if_pos w, if_pos (by omega)]
      · rw [if_neg w, if_neg (by omega)]
theorem e_ci {row cel : Nat → Int32} (k : Nat) (hk : k < 15) : g_X6_copyInto_cel row cel k = row k := by
  unfold g_X6_copyInto_cel
  rw [e_ci0, if_pos hk]
