/-! whether there is such a person, such a secret -/
theorem e_has {q j : Nat} (hq : q ≤ 8) (hj : j < 2 ^ 31) : f_X9_in (nI j) 0 (nI q - 1) = if q ≤ j then 0 else 1 := by
  unfold f_X9_in
  rw [if_neg (nI_pos hj)]
  rcases q with _ | q
  · rw [if_pos (Nat.zero_le _), if_pos (Int32.lt_of_lt_of_le (show nI 0 - 1 < 0 by decide) (nI_pos' hj))]
  · rw [nI_pred]
    rcases Nat.lt_or_ge q j with w | w
    · rw [if_pos (nI_lt w hj), if_pos (by omega)]
    · rw [if_neg (nI_nlt w (by omega)), if_neg (by omega)]
theorem e_hasS {mTo : Nat → Int32} {vS p0 : Int32} {q : Nat} (hq : q ≤ 8) (h : vS = nI q) (h' : mTo 1 = nI q) : (f_X7_hasSecret vS p0 = 0 ∧ f_X9_isSecret mTo p0 = 0) ∨ ∃ k, k < q ∧ p0 = nI k ∧ f_X7_hasSecret vS p0 = 1 ∧ f_X9_isSecret mTo p0 = 1 := by
  subst h
  unfold f_X7_hasSecret f_X9_isSecret
  rw [h']
  by_cases c : p0 < 0
  · left; exact ⟨if_pos c, if_pos c⟩
  · obtain ⟨j, hj, rfl⟩ := nI_of c
    rw [e_has hq hj, if_neg c]
    rcases Nat.lt_or_ge j q with w | w
    · right
      refine ⟨j, w, rfl, ?_, if_neg (by omega)⟩
      rw [if_neg (nI_ge w (by omega)), if_neg (show ¬ (8 : Int32) ≤ nI j from nI_ge (a := j) (b := 8) (by omega) (by decide))]
    · left
      exact ⟨if_pos (nI_le w hj), if_pos w⟩
theorem e_hasP {mTo : Nat → Int32} {vP p0 : Int32} {q : Nat} (hq : q ≤ 6) (h : vP = nI q) (h' : mTo 0 = nI q) : (f_X7_hasPerson vP p0 = 0 ∧ f_X9_isPerson mTo p0 = 0) ∨ ∃ k, k < q ∧ p0 = nI k ∧ f_X7_hasPerson vP p0 = 1 ∧ f_X9_isPerson mTo p0 = 1 := by
  subst h
  unfold f_X7_hasPerson f_X9_isPerson
  rw [h']
  by_cases c : p0 < 0
  · left; exact ⟨if_pos c, if_pos c⟩
  · obtain ⟨j, hj, rfl⟩ := nI_of c
    rw [e_has (by omega) hj, if_neg c]
    rcases Nat.lt_or_ge j q with w | w
    · right
      refine ⟨j, w, rfl, ?_, if_neg (by omega)⟩
      rw [if_neg (nI_ge w (by omega)), if_neg (show ¬ (6 : Int32) ≤ nI j from nI_ge (a := j) (b := 6) (by omega) (by decide))]
    · left
      exact ⟨if_pos (nI_le w hj), if_pos w⟩
