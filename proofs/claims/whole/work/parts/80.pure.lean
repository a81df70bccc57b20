theorem e_in32 (a : Int32) : f_X9_in a 32 126 = if a < 32 then 0 else if a ≤ 126 then 1 else 0 := by
  unfold f_X9_in
  by_cases h1 : a < 32
  · rw [if_pos h1, if_pos h1]
  · rw [if_neg h1, if_neg h1]
    by_cases h2 : a ≤ 126
    · rw [if_pos h2, if_neg (Int32.not_lt.mpr h2)]
    · rw [if_neg h2, if_pos (Int32.not_le.mp h2)]
theorem e_ch1 : ∀ j : Nat, j < 127 → vp_nar .char ((Int32.toUInt32 (nI j) % 65536).toInt32) = nI j ∧ narrow .char (.int (nI j)) = .int (nI j) := by decide +kernel
theorem e_ch {a : Int32} (h1 : ¬ a < 32) (h2 : a ≤ 126) : ∃ ch : Nat, 32 ≤ ch ∧ ch ≤ 126 ∧ a = nI ch := by
  obtain ⟨j, hj, rfl⟩ := nI_of2 (x := a) (M := 126) (n := 126) rfl (fun q => h1 (Int32.lt_trans q (by decide))) h2
  refine ⟨j, ?_, hj, rfl⟩
  rcases Nat.lt_or_ge j 32 with q | q
  · exact absurd (nI_lt q (by decide)) h1
  · exact q
theorem E_write (tN : Int32) (tL : Nat → Int32) (vP : Int32) (vS : Int32) (vD : Int32) (vKi : Nat → Int32) (vMe : Nat → Int32) (vOw : Nat → Int32) (row : Nat → Int32) (uZ : Int32) (uR0 : Nat → Int32) (uR1 : Nat → Int32) (uR2 : Nat → Int32) (uR3 : Nat → Int32) (uR4 : Nat → Int32) (uR5 : Nat → Int32) (uR6 : Nat → Int32) (uR7 : Nat → Int32) (kZ : Int32) (kR0 : Nat → Int32) (kR1 : Nat → Int32) (cZ : Int32) (cPe : Nat → Int32) (cTa : Nat → Int32) (hZ : Int32) (hPe : Nat → Int32) (hLe : Nat → Int32) (hSh : Nat → Int32) (mTy : Nat) (mKn : Nat) (mKe : Nat) (mCa : Nat) (mSe : Nat) (mTx : Nat → Int32) (mTo : Nat → Int32) (mSt : Nat → Int32) (mPa : Nat → Int32) (mIm : Nat → Int32) (mWi : Nat → Int32) (mSn : Nat → Int32) (p0 : Int32) (hI : Inv tN tL vP vS vD vKi vMe vOw row uZ uR0 uR1 uR2 uR3 uR4 uR5 uR6 uR7 kZ kR0 kR1 cZ cPe cTa hZ hPe hLe hSh mTy mKn mKe mCa mSe mTx mTo mSt mPa mIm mWi mSn) : (f_X8_write tN p0) = (f_X9_write mTy p0) ∧ Inv (g_X8_write_tN tN p0) (g_X8_write_tL tN tL p0) vP vS vD vKi vMe vOw row uZ uR0 uR1 uR2 uR3 uR4 uR5 uR6 uR7 kZ kR0 kR1 cZ cPe cTa hZ hPe hLe hSh (g_X9_write_mTy mTy p0) mKn mKe mCa mSe (g_X9_write_mTx mTy mTx p0) mTo mSt mPa mIm mWi mSn := by
  obtain ⟨⟨h1, h2, h3, h4⟩, h⟩ := hI
  subst h1
  by_cases c1 : p0 < 32
  · simp only [f_X8_write, f_X9_write, g_X8_write_tN, g_X8_write_tL, g_X9_write_mTy, g_X9_write_mTx, e_in32, if_pos c1, if_true]
    exact ⟨trivial, ⟨rfl, h2, h3, h4⟩, h⟩
  · by_cases c2 : p0 ≤ 126
    · obtain ⟨ch, a1, a2, rfl⟩ := e_ch c1 c2
      have n1 : ¬ (1 : Int32) = 0 := by decide
      rcases Nat.lt_or_ge mTy 200 with q | q
      · have d1 : ¬ nI mTy < 0 := nI_pos (by omega)
        have d2 : nI mTy < 200 := nI_lt q (by decide)
        have d3 : ¬ nI mTy = 200 := fun w => by rw [w] at d2; exact absurd d2 (by decide)
        simp only [f_X8_write, f_X9_write, g_X8_write_tN, g_X8_write_tL, g_X9_write_mTy, g_X9_write_mTx, e_in32, f_X3_add, g_X3_add_tN, g_X3_add_tL, f_X3_size, if_neg c1, if_pos c2, if_neg n1, if_neg d1, if_pos d2, if_neg d3, nI_1, (e_ch1 ch (by omega)).1, nI_clamp (show mTy < 2 ^ 31 by omega)]
        refine ⟨trivial, ⟨rfl, by omega, fun k => ?_, fun k hk => ?_⟩, h⟩
        · unfold upd; split
          · exact (e_ch1 ch (by omega)).2
          · exact h3 k
        · unfold upd
          by_cases e : k = mTy
          · exact ⟨ch, a1, a2, by rw [if_pos e], by rw [if_pos e]⟩
          · rw [if_neg e, if_neg e]; exact h4 k (by omega)
      · have e : mTy = 200 := by omega
        subst e
        have d1 : ¬ nI 200 < 0 := by decide
        have d2 : ¬ nI 200 < 200 := by decide
        have d3 : nI 200 = 200 := rfl
        simp only [f_X8_write, f_X9_write, g_X8_write_tN, g_X8_write_tL, g_X9_write_mTy, g_X9_write_mTx, e_in32, f_X3_add, g_X3_add_tN, g_X3_add_tL, f_X3_size, if_neg c1, if_pos c2, if_neg n1, if_neg d1, if_neg d2, if_pos d3, if_true]
        exact ⟨trivial, ⟨rfl, h2, h3, h4⟩, h⟩
    · simp only [f_X8_write, f_X9_write, g_X8_write_tN, g_X8_write_tL, g_X9_write_mTy, g_X9_write_mTx, e_in32, if_neg c1, if_neg c2, if_true]
      exact ⟨trivial, ⟨rfl, h2, h3, h4⟩, h⟩
theorem E_wipe (tN : Int32) (tL : Nat → Int32) (vP : Int32) (vS : Int32) (vD : Int32) (vKi : Nat → Int32) (vMe : Nat → Int32) (vOw : Nat → Int32) (row : Nat → Int32) (uZ : Int32) (uR0 : Nat → Int32) (uR1 : Nat → Int32) (uR2 : Nat → Int32) (uR3 : Nat → Int32) (uR4 : Nat → Int32) (uR5 : Nat → Int32) (uR6 : Nat → Int32) (uR7 : Nat → Int32) (kZ : Int32) (kR0 : Nat → Int32) (kR1 : Nat → Int32) (cZ : Int32) (cPe : Nat → Int32) (cTa : Nat → Int32) (hZ : Int32) (hPe : Nat → Int32) (hLe : Nat → Int32) (hSh : Nat → Int32) (mTy : Nat) (mKn : Nat) (mKe : Nat) (mCa : Nat) (mSe : Nat) (mTx : Nat → Int32) (mTo : Nat → Int32) (mSt : Nat → Int32) (mPa : Nat → Int32) (mIm : Nat → Int32) (mWi : Nat → Int32) (mSn : Nat → Int32)  (hI : Inv tN tL vP vS vD vKi vMe vOw row uZ uR0 uR1 uR2 uR3 uR4 uR5 uR6 uR7 kZ kR0 kR1 cZ cPe cTa hZ hPe hLe hSh mTy mKn mKe mCa mSe mTx mTo mSt mPa mIm mWi mSn) : (f_X8_wipe tN) = (f_X9_wipe mTy) ∧ Inv g_X8_wipe_tN tL vP vS vD vKi vMe vOw row uZ uR0 uR1 uR2 uR3 uR4 uR5 uR6 uR7 kZ kR0 kR1 cZ cPe cTa hZ hPe hLe hSh g_X9_wipe_mTy mKn mKe mCa mSe mTx mTo mSt mPa mIm mWi mSn := by
  obtain ⟨⟨h1, h2, h3, h4⟩, h⟩ := hI
  refine ⟨h1, ⟨rfl, Nat.zero_le _, h3, fun k hk => absurd hk (Nat.not_lt_zero k)⟩, h⟩
theorem E_fault (tN : Int32) (tL : Nat → Int32) (rn : Int32) (vP : Int32) (vS : Int32) (vD : Int32) (vKi : Nat → Int32) (vMe : Nat → Int32) (vOw : Nat → Int32) (dAg : Nat → Int32) (dKi : Nat → Int32) (dMe : Nat → Int32) (dOw : Nat → Int32) (dFk : Nat → Int32) (row : Nat → Int32) (uZ : Int32) (uR0 : Nat → Int32) (uR1 : Nat → Int32) (uR2 : Nat → Int32) (uR3 : Nat → Int32) (uR4 : Nat → Int32) (uR5 : Nat → Int32) (uR6 : Nat → Int32) (uR7 : Nat → Int32) (kZ : Int32) (kR0 : Nat → Int32) (kR1 : Nat → Int32) (cZ : Int32) (cPe : Nat → Int32) (cTa : Nat → Int32) (hZ : Int32) (hPe : Nat → Int32) (hLe : Nat → Int32) (hSh : Nat → Int32) (mTy : Nat) (mKn : Nat) (mKe : Nat) (mCa : Nat) (mSe : Nat) (mFi : Int32) (mSc : Int32) (mTx : Nat → Int32) (mTo : Nat → Int32) (mDr : Nat → Int32) (mSt : Nat → Int32) (mPa : Nat → Int32) (mIm : Nat → Int32) (mWi : Nat → Int32) (mSn : Nat → Int32)  (hI : Inv tN tL vP vS vD vKi vMe vOw row uZ uR0 uR1 uR2 uR3 uR4 uR5 uR6 uR7 kZ kR0 kR1 cZ cPe cTa hZ hPe hLe hSh mTy mKn mKe mCa mSe mTx mTo mSt mPa mIm mWi mSn) : (f_X8_fault tN tL rn dAg dKi dMe dOw dFk) = (f_X9_fault mTy mFi mSc mTx mDr) ∧ Inv tN tL vP vS vD vKi vMe vOw row uZ uR0 uR1 uR2 uR3 uR4 uR5 uR6 uR7 kZ kR0 kR1 cZ cPe cTa hZ hPe hLe hSh mTy mKn mKe mCa mSe mTx mTo mSt mPa mIm mWi mSn := sorry
theorem E_lay (tN : Int32) (tL : Nat → Int32) (rn : Int32) (vP : Int32) (vS : Int32) (vD : Int32) (vAg : Nat → Int32) (vKi : Nat → Int32) (vMe : Nat → Int32) (vOw : Nat → Int32) (vFk : Nat → Int32) (dAg : Nat → Int32) (dKi : Nat → Int32) (dMe : Nat → Int32) (dOw : Nat → Int32) (dFk : Nat → Int32) (row : Nat → Int32) (uZ : Int32) (uR0 : Nat → Int32) (uR1 : Nat → Int32) (uR2 : Nat → Int32) (uR3 : Nat → Int32) (uR4 : Nat → Int32) (uR5 : Nat → Int32) (uR6 : Nat → Int32) (uR7 : Nat → Int32) (kZ : Int32) (kR0 : Nat → Int32) (kR1 : Nat → Int32) (cZ : Int32) (cPe : Nat → Int32) (cTa : Nat → Int32) (hZ : Int32) (hPe : Nat → Int32) (hLe : Nat → Int32) (hSh : Nat → Int32) (mTy : Nat) (mKn : Nat) (mKe : Nat) (mCa : Nat) (mSe : Nat) (mFi : Int32) (mSc : Int32) (mTx : Nat → Int32) (mTo : Nat → Int32) (mDr : Nat → Int32) (mSt : Nat → Int32) (mPa : Nat → Int32) (mIm : Nat → Int32) (mWi : Nat → Int32) (mSn : Nat → Int32)  (hI : Inv tN tL vP vS vD vKi vMe vOw row uZ uR0 uR1 uR2 uR3 uR4 uR5 uR6 uR7 kZ kR0 kR1 cZ cPe cTa hZ hPe hLe hSh mTy mKn mKe mCa mSe mTx mTo mSt mPa mIm mWi mSn) : (f_X8_lay tN tL rn vAg vKi vMe vOw vFk dAg dKi dMe dOw dFk) = (f_X9_lay mTy mFi mSc mTx mTo mDr) ∧ Inv tN tL (g_X8_lay_vP tN tL rn vP vAg vKi vMe vOw vFk dAg dKi dMe dOw dFk) (g_X8_lay_vS tN tL rn vS vAg vKi vMe vOw vFk dAg dKi dMe dOw dFk) (g_X8_lay_vD tN tL rn vD vAg vKi vMe vOw vFk dAg dKi dMe dOw dFk) (g_X8_lay_vKi tN tL rn vAg vKi vMe vOw vFk dAg dKi dMe dOw dFk) (g_X8_lay_vMe tN tL rn vAg vKi vMe vOw vFk dAg dKi dMe dOw dFk) (g_X8_lay_vOw tN tL rn vAg vKi vMe vOw vFk dAg dKi dMe dOw dFk) (g_X8_lay_row tN tL rn vAg vKi vMe vOw vFk dAg dKi dMe dOw dFk row) (g_X8_lay_uZ tN tL rn dAg dKi dMe dOw dFk uZ) uR0 uR1 uR2 uR3 uR4 uR5 uR6 uR7 (g_X8_lay_kZ tN tL rn dAg dKi dMe dOw dFk kZ) kR0 kR1 (g_X8_lay_cZ tN tL rn dAg dKi dMe dOw dFk cZ) cPe cTa (g_X8_lay_hZ tN tL rn dAg dKi dMe dOw dFk hZ) hPe hLe hSh mTy (g_X9_lay_mKn mTy mKn mFi mSc mTx mDr) (g_X9_lay_mKe mTy mKe mFi mSc mTx mDr) (g_X9_lay_mCa mTy mCa mFi mSc mTx mDr) (g_X9_lay_mSe mTy mSe mFi mSc mTx mDr) mTx (g_X9_lay_mTo mTy mFi mSc mTx mTo mDr) (g_X9_lay_mSt mTy mFi mSc mTx mTo mDr mSt) mPa mIm mWi mSn := sorry
theorem E_person (tN : Int32) (tL : Nat → Int32) (vP : Int32) (vS : Int32) (vD : Int32) (vKi : Nat → Int32) (vMe : Nat → Int32) (vOw : Nat → Int32) (row : Nat → Int32) (uZ : Int32) (uR0 : Nat → Int32) (uR1 : Nat → Int32) (uR2 : Nat → Int32) (uR3 : Nat → Int32) (uR4 : Nat → Int32) (uR5 : Nat → Int32) (uR6 : Nat → Int32) (uR7 : Nat → Int32) (kZ : Int32) (kR0 : Nat → Int32) (kR1 : Nat → Int32) (cZ : Int32) (cPe : Nat → Int32) (cTa : Nat → Int32) (hZ : Int32) (hPe : Nat → Int32) (hLe : Nat → Int32) (hSh : Nat → Int32) (mTy : Nat) (mKn : Nat) (mKe : Nat) (mCa : Nat) (mSe : Nat) (mTx : Nat → Int32) (mTo : Nat → Int32) (mSt : Nat → Int32) (mPa : Nat → Int32) (mIm : Nat → Int32) (mWi : Nat → Int32) (mSn : Nat → Int32) (p0 : Int32) (p1 : Int32) (hI : Inv tN tL vP vS vD vKi vMe vOw row uZ uR0 uR1 uR2 uR3 uR4 uR5 uR6 uR7 kZ kR0 kR1 cZ cPe cTa hZ hPe hLe hSh mTy mKn mKe mCa mSe mTx mTo mSt mPa mIm mWi mSn) : (f_X8_person vP vS vD vKi vMe vOw row p0 p1) = (f_X9_person mTo mSt p0 p1) ∧ Inv tN tL vP vS vD vKi vMe vOw row uZ uR0 uR1 uR2 uR3 uR4 uR5 uR6 uR7 kZ kR0 kR1 cZ cPe cTa hZ hPe hLe hSh mTy mKn mKe mCa mSe mTx mTo mSt mPa mIm mWi mSn := sorry
theorem e_in01 (a : Int32) : f_X9_in a 0 1 = 0 ↔ (a ≠ 0 ∧ a ≠ 1) := by
  unfold f_X9_in
  by_cases c : a < 0
  · rw [if_pos c]
    exact ⟨fun _ => ⟨fun w => by rw [w] at c; exact absurd c (by decide), fun w => by rw [w] at c; exact absurd c (by decide)⟩, fun _ => rfl⟩
  · obtain ⟨j, hj, rfl⟩ := nI_of c
    rw [if_neg c]
    rcases Nat.lt_or_ge 1 j with w | w
    · rw [if_pos (show (1 : Int32) < nI j from nI_lt (a := 1) w hj)]
      exact ⟨fun _ => ⟨fun e => absurd ((nI_eq hj (b := 0) (by decide)).mp e) (by omega), fun e => absurd ((nI_eq hj (b := 1) (by decide)).mp e) (by omega)⟩, fun _ => rfl⟩
    · rcases (show j = 0 ∨ j = 1 by omega) with rfl | rfl <;> decide
theorem E_secret (tN : Int32) (tL : Nat → Int32) (vP : Int32) (vS : Int32) (vD : Int32) (vKi : Nat → Int32) (vMe : Nat → Int32) (vOw : Nat → Int32) (row : Nat → Int32) (uZ : Int32) (uR0 : Nat → Int32) (uR1 : Nat → Int32) (uR2 : Nat → Int32) (uR3 : Nat → Int32) (uR4 : Nat → Int32) (uR5 : Nat → Int32) (uR6 : Nat → Int32) (uR7 : Nat → Int32) (kZ : Int32) (kR0 : Nat → Int32) (kR1 : Nat → Int32) (cZ : Int32) (cPe : Nat → Int32) (cTa : Nat → Int32) (hZ : Int32) (hPe : Nat → Int32) (hLe : Nat → Int32) (hSh : Nat → Int32) (mTy : Nat) (mKn : Nat) (mKe : Nat) (mCa : Nat) (mSe : Nat) (mTx : Nat → Int32) (mTo : Nat → Int32) (mSt : Nat → Int32) (mPa : Nat → Int32) (mIm : Nat → Int32) (mWi : Nat → Int32) (mSn : Nat → Int32) (p0 : Int32) (p1 : Int32) (hI : Inv tN tL vP vS vD vKi vMe vOw row uZ uR0 uR1 uR2 uR3 uR4 uR5 uR6 uR7 kZ kR0 kR1 cZ cPe cTa hZ hPe hLe hSh mTy mKn mKe mCa mSe mTx mTo mSt mPa mIm mWi mSn) : (f_X8_secret vS vOw row p0 p1) = (f_X9_secret mTo mSt p0 p1) ∧ Inv tN tL vP vS vD vKi vMe vOw row uZ uR0 uR1 uR2 uR3 uR4 uR5 uR6 uR7 kZ kR0 kR1 cZ cPe cTa hZ hPe hLe hSh mTy mKn mKe mCa mSe mTx mTo mSt mPa mIm mWi mSn := by
  obtain ⟨hT, p, q, d, h1, h2, h⟩ := id hI
  refine ⟨?_, hI⟩
  obtain ⟨⟨-, -, hq, -, -⟩, ⟨-, -, hS, hS', -, -⟩, -, -, hO, -⟩ := h1
  unfold f_X8_secret f_X9_secret
  rcases e_hasS (p0 := p0) hq hS hS' with ⟨a, b⟩ | ⟨k, hk, rfl, a, b⟩
  · rw [a, b]; rfl
  · have n1 : ¬ (1 : Int32) = 0 := by decide
    obtain ⟨o, ho, o1, o2⟩ := hO k hk
    simp only [f_X7_ownerOf, f_X6_knowersOf, a, b, if_neg n1, nI_clamp (show k < 2 ^ 31 by omega)]
    rw [show (6 : Int32) + nI k = nI (6 + k) from nI_add 6 k, nI_clamp (show 6 + k < 2 ^ 31 by omega), o1, o2, h2.1 (6 + k) (by omega)]
    by_cases c0 : p1 = 0
    · subst c0; rfl
    · by_cases c1 : p1 = 1
      · subst c1; rfl
      · rw [if_neg c0, if_neg c1, if_pos ((e_in01 p1).mpr ⟨c0, c1⟩)]
theorem E_tell (tN : Int32) (tL : Nat → Int32) (vP : Int32) (vS : Int32) (vD : Int32) (vKi : Nat → Int32) (vMe : Nat → Int32) (vOw : Nat → Int32) (row : Nat → Int32) (uZ : Int32) (uR0 : Nat → Int32) (uR1 : Nat → Int32) (uR2 : Nat → Int32) (uR3 : Nat → Int32) (uR4 : Nat → Int32) (uR5 : Nat → Int32) (uR6 : Nat → Int32) (uR7 : Nat → Int32) (kZ : Int32) (kR0 : Nat → Int32) (kR1 : Nat → Int32) (cZ : Int32) (cPe : Nat → Int32) (cTa : Nat → Int32) (hZ : Int32) (hPe : Nat → Int32) (hLe : Nat → Int32) (hSh : Nat → Int32) (mTy : Nat) (mKn : Nat) (mKe : Nat) (mCa : Nat) (mSe : Nat) (mTx : Nat → Int32) (mTo : Nat → Int32) (mSt : Nat → Int32) (mPa : Nat → Int32) (mIm : Nat → Int32) (mWi : Nat → Int32) (mSn : Nat → Int32) (p0 : Int32) (p1 : Int32) (p2 : Int32) (hI : Inv tN tL vP vS vD vKi vMe vOw row uZ uR0 uR1 uR2 uR3 uR4 uR5 uR6 uR7 kZ kR0 kR1 cZ cPe cTa hZ hPe hLe hSh mTy mKn mKe mCa mSe mTx mTo mSt mPa mIm mWi mSn) : (f_X8_tell vP vS vD vMe row p0 p1 p2) = (f_X9_tell mTo mSt p0 p1 p2) ∧ Inv tN tL vP vS vD vKi vMe vOw (g_X8_tell_row vP vS vD vKi vMe vOw row p0 p1 p2) (g_X8_tell_uZ vP vS vD vMe row uZ p0 p1 p2) (g_X8_tell_uR0 vP vS vD vMe row uZ uR0 uR1 p0 p1 p2) (g_X8_tell_uR1 vP vS vD vMe row uZ uR1 uR2 p0 p1 p2) (g_X8_tell_uR2 vP vS vD vMe row uZ uR2 uR3 p0 p1 p2) (g_X8_tell_uR3 vP vS vD vMe row uZ uR3 uR4 p0 p1 p2) (g_X8_tell_uR4 vP vS vD vMe row uZ uR4 uR5 p0 p1 p2) (g_X8_tell_uR5 vP vS vD vMe row uZ uR5 uR6 p0 p1 p2) (g_X8_tell_uR6 vP vS vD vMe row uZ uR6 uR7 p0 p1 p2) (g_X8_tell_uR7 vP vS vD vMe row uZ uR7 p0 p1 p2) kZ kR0 kR1 cZ cPe cTa hZ hPe hLe hSh mTy (g_X9_tell_mKn mKn mTo mSt p0 p1 p2) mKe mCa mSe mTx mTo (g_X9_tell_mSt mTo mSt p0 p1 p2) (g_X9_tell_mPa mKn mTo mSt mPa p0 p1 p2) mIm mWi mSn := sorry
theorem E_day (tN : Int32) (tL : Nat → Int32) (vP : Int32) (vS : Int32) (vD : Int32) (vKi : Nat → Int32) (vMe : Nat → Int32) (vOw : Nat → Int32) (row : Nat → Int32) (uZ : Int32) (uR0 : Nat → Int32) (uR1 : Nat → Int32) (uR2 : Nat → Int32) (uR3 : Nat → Int32) (uR4 : Nat → Int32) (uR5 : Nat → Int32) (uR6 : Nat → Int32) (uR7 : Nat → Int32) (kZ : Int32) (kR0 : Nat → Int32) (kR1 : Nat → Int32) (cZ : Int32) (cPe : Nat → Int32) (cTa : Nat → Int32) (hZ : Int32) (hPe : Nat → Int32) (hLe : Nat → Int32) (hSh : Nat → Int32) (mTy : Nat) (mKn : Nat) (mKe : Nat) (mCa : Nat) (mSe : Nat) (mTx : Nat → Int32) (mTo : Nat → Int32) (mSt : Nat → Int32) (mPa : Nat → Int32) (mIm : Nat → Int32) (mWi : Nat → Int32) (mSn : Nat → Int32)  (hI : Inv tN tL vP vS vD vKi vMe vOw row uZ uR0 uR1 uR2 uR3 uR4 uR5 uR6 uR7 kZ kR0 kR1 cZ cPe cTa hZ hPe hLe hSh mTy mKn mKe mCa mSe mTx mTo mSt mPa mIm mWi mSn) : (f_X8_day vP vS vD vKi vMe vOw row) = (f_X9_day mTo mSt) ∧ Inv tN tL vP vS vD vKi vMe vOw (g_X8_day_row vP vS vD vKi vMe vOw row) (g_X8_day_uZ uZ) (g_X8_day_uR0 row uZ uR0 uR1) (g_X8_day_uR1 row uZ uR1 uR2) (g_X8_day_uR2 row uZ uR2 uR3) (g_X8_day_uR3 row uZ uR3 uR4) (g_X8_day_uR4 row uZ uR4 uR5) (g_X8_day_uR5 row uZ uR5 uR6) (g_X8_day_uR6 row uZ uR6 uR7) (g_X8_day_uR7 row uZ uR7) kZ kR0 kR1 cZ cPe cTa hZ hPe hLe hSh mTy (g_X9_day_mKn mKn) mKe mCa mSe mTx mTo (g_X9_day_mSt mTo mSt) (g_X9_day_mPa mKn mSt mPa) mIm mWi mSn := sorry
theorem e_pop8 {r : Nat} (hr : r < 8) (f0 f1 f2 f3 f4 f5 f6 f7 row : Nat → Int32) : g_X4_pop8_row (nI (r + 1)) f0 f1 f2 f3 f4 f5 f6 f7 row = g_X6_copyFrom_row row (u8 f0 f1 f2 f3 f4 f5 f6 f7 r) := by
  unfold g_X4_pop8_row
  rw [if_neg (nI_nle (by omega) (by omega)), if_pos (show nI (r + 1) ≤ 8 from nI_le (b := 8) (by omega) (by decide)), nI_pred]
  rcases (show r = 0 ∨ r = 1 ∨ r = 2 ∨ r = 3 ∨ r = 4 ∨ r = 5 ∨ r = 6 ∨ r = 7 by omega) with rfl | rfl | rfl | rfl | rfl | rfl | rfl | rfl <;> rfl
theorem E_undo (tN : Int32) (tL : Nat → Int32) (vP : Int32) (vS : Int32) (vD : Int32) (vKi : Nat → Int32) (vMe : Nat → Int32) (vOw : Nat → Int32) (row : Nat → Int32) (uZ : Int32) (uR0 : Nat → Int32) (uR1 : Nat → Int32) (uR2 : Nat → Int32) (uR3 : Nat → Int32) (uR4 : Nat → Int32) (uR5 : Nat → Int32) (uR6 : Nat → Int32) (uR7 : Nat → Int32) (kZ : Int32) (kR0 : Nat → Int32) (kR1 : Nat → Int32) (cZ : Int32) (cPe : Nat → Int32) (cTa : Nat → Int32) (hZ : Int32) (hPe : Nat → Int32) (hLe : Nat → Int32) (hSh : Nat → Int32) (mTy : Nat) (mKn : Nat) (mKe : Nat) (mCa : Nat) (mSe : Nat) (mTx : Nat → Int32) (mTo : Nat → Int32) (mSt : Nat → Int32) (mPa : Nat → Int32) (mIm : Nat → Int32) (mWi : Nat → Int32) (mSn : Nat → Int32)  (hI : Inv tN tL vP vS vD vKi vMe vOw row uZ uR0 uR1 uR2 uR3 uR4 uR5 uR6 uR7 kZ kR0 kR1 cZ cPe cTa hZ hPe hLe hSh mTy mKn mKe mCa mSe mTx mTo mSt mPa mIm mWi mSn) : (f_X8_undo uZ) = (f_X9_undo mKn) ∧ Inv tN tL vP vS vD vKi vMe vOw (g_X8_undo_row row uZ uR0 uR1 uR2 uR3 uR4 uR5 uR6 uR7) (g_X8_undo_uZ uZ) uR0 uR1 uR2 uR3 uR4 uR5 uR6 uR7 kZ kR0 kR1 cZ cPe cTa hZ hPe hLe hSh mTy (g_X9_undo_mKn mKn) mKe mCa mSe mTx mTo (g_X9_undo_mSt mKn mSt mPa) mPa mIm mWi mSn := by
  obtain ⟨hT, p, q, d, h1, h2, ⟨u1, u2, u3, u4⟩, h4⟩ := hI
  subst u1
  rcases mKn with _ | r
  · exact ⟨rfl, hT, p, q, d, h1, h2, ⟨rfl, u2, u3, u4⟩, h4⟩
  · have n0 : ¬ nI (r + 1) = 0 := nI_ne0 (by omega) (by omega)
    have n1 : ¬ nI (r + 1) ≤ 0 := nI_nle (by omega) (by omega)
    have n2 : nI (r + 1) ≤ 8 := nI_le (b := 8) (by omega) (by decide)
    have n3 : ¬ (1 : Int32) = 0 := by decide
    simp only [f_X8_undo, f_X9_undo, g_X8_undo_uZ, g_X9_undo_mKn, g_X9_undo_mSt, g_X8_undo_row, f_X4_pop8, g_X4_pop8_uZ, f_X4_size8, if_neg n0, if_neg n1, if_pos n2, if_neg n3, nI_pred, Nat.add_sub_cancel, e_pop8 (show r < 8 by omega)]
    have e : ∀ k, k < 15 → F_X9_undo_22 r mPa mSt 15 k = mPa (15 * r + k) := fun k hk => by rw [e_un, if_pos hk]
    refine ⟨trivial, hT, p, q, d, h1, ⟨fun k hk => ?_, e_StOK h1.1.2.2.1 (u4 r (by omega)) e⟩, ⟨rfl, by omega, fun r' h => u3 r' (by omega), fun r' h => u4 r' (by omega)⟩, h4⟩
    rw [e k hk, g_X6_copyFrom_row, e_cf, if_pos hk, u3 r (by omega) k hk]
theorem E_gossip (tN : Int32) (tL : Nat → Int32) (vP : Int32) (vS : Int32) (vD : Int32) (vKi : Nat → Int32) (vMe : Nat → Int32) (vOw : Nat → Int32) (row : Nat → Int32) (orow : Nat → Int32) (uZ : Int32) (uR0 : Nat → Int32) (uR1 : Nat → Int32) (uR2 : Nat → Int32) (uR3 : Nat → Int32) (uR4 : Nat → Int32) (uR5 : Nat → Int32) (uR6 : Nat → Int32) (uR7 : Nat → Int32) (kZ : Int32) (kR0 : Nat → Int32) (kR1 : Nat → Int32) (cZ : Int32) (cPe : Nat → Int32) (cTa : Nat → Int32) (hZ : Int32) (hPe : Nat → Int32) (hLe : Nat → Int32) (hSh : Nat → Int32) (mTy : Nat) (mKn : Nat) (mKe : Nat) (mCa : Nat) (mSe : Nat) (mTx : Nat → Int32) (mTo : Nat → Int32) (mSt : Nat → Int32) (mPa : Nat → Int32) (mIm : Nat → Int32) (mWi : Nat → Int32) (mSn : Nat → Int32) (mHe : Nat → Int32) (p0 : Int32) (p1 : Int32) (p2 : Int32) (hI : Inv tN tL vP vS vD vKi vMe vOw row uZ uR0 uR1 uR2 uR3 uR4 uR5 uR6 uR7 kZ kR0 kR1 cZ cPe cTa hZ hPe hLe hSh mTy mKn mKe mCa mSe mTx mTo mSt mPa mIm mWi mSn) : (f_X8_gossip vP vS vD vKi vMe vOw row orow p0 p1 p2) = (f_X9_gossip mTo mSt p0 p1 p2) ∧ Inv tN tL vP vS vD vKi vMe vOw row uZ uR0 uR1 uR2 uR3 uR4 uR5 uR6 uR7 kZ kR0 kR1 cZ cPe cTa hZ hPe hLe hSh mTy mKn mKe mCa mSe mTx mTo (g_X9_gossip_mSt mTo mSt mHe p0 p1 p2) mPa mIm mWi mSn := sorry
theorem E_first (tN : Int32) (tL : Nat → Int32) (vP : Int32) (vS : Int32) (vD : Int32) (vKi : Nat → Int32) (vMe : Nat → Int32) (vOw : Nat → Int32) (row : Nat → Int32) (orow : Nat → Int32) (uZ : Int32) (uR0 : Nat → Int32) (uR1 : Nat → Int32) (uR2 : Nat → Int32) (uR3 : Nat → Int32) (uR4 : Nat → Int32) (uR5 : Nat → Int32) (uR6 : Nat → Int32) (uR7 : Nat → Int32) (kZ : Int32) (kR0 : Nat → Int32) (kR1 : Nat → Int32) (cZ : Int32) (cPe : Nat → Int32) (cTa : Nat → Int32) (hZ : Int32) (hPe : Nat → Int32) (hLe : Nat → Int32) (hSh : Nat → Int32) (mTy : Nat) (mKn : Nat) (mKe : Nat) (mCa : Nat) (mSe : Nat) (mTx : Nat → Int32) (mTo : Nat → Int32) (mSt : Nat → Int32) (mPa : Nat → Int32) (mIm : Nat → Int32) (mWi : Nat → Int32) (mSn : Nat → Int32) (mHe : Nat → Int32) (p0 : Int32) (hI : Inv tN tL vP vS vD vKi vMe vOw row uZ uR0 uR1 uR2 uR3 uR4 uR5 uR6 uR7 kZ kR0 kR1 cZ cPe cTa hZ hPe hLe hSh mTy mKn mKe mCa mSe mTx mTo mSt mPa mIm mWi mSn) : (f_X8_first vP vS vD vKi vMe vOw row orow p0) = (f_X9_first mTo mSt p0) ∧ Inv tN tL vP vS vD vKi vMe vOw row uZ uR0 uR1 uR2 uR3 uR4 uR5 uR6 uR7 kZ kR0 kR1 cZ cPe cTa hZ hPe hLe hSh mTy mKn mKe mCa mSe mTx mTo (g_X9_first_mSt mTo mSt mHe p0) mPa mIm mWi mSn := sorry
theorem E_reach (tN : Int32) (tL : Nat → Int32) (vP : Int32) (vS : Int32) (vD : Int32) (vKi : Nat → Int32) (vMe : Nat → Int32) (vOw : Nat → Int32) (row : Nat → Int32) (uZ : Int32) (uR0 : Nat → Int32) (uR1 : Nat → Int32) (uR2 : Nat → Int32) (uR3 : Nat → Int32) (uR4 : Nat → Int32) (uR5 : Nat → Int32) (uR6 : Nat → Int32) (uR7 : Nat → Int32) (kZ : Int32) (kR0 : Nat → Int32) (kR1 : Nat → Int32) (nCo : Nat → Int32) (nNx : Nat → Int32) (cZ : Int32) (cPe : Nat → Int32) (cTa : Nat → Int32) (hZ : Int32) (hPe : Nat → Int32) (hLe : Nat → Int32) (hSh : Nat → Int32) (mTy : Nat) (mKn : Nat) (mKe : Nat) (mCa : Nat) (mSe : Nat) (mTx : Nat → Int32) (mTo : Nat → Int32) (mSt : Nat → Int32) (mPa : Nat → Int32) (mIm : Nat → Int32) (mWi : Nat → Int32) (mSn : Nat → Int32) (mFw : Nat → Int32) (p0 : Int32) (p1 : Int32) (hI : Inv tN tL vP vS vD vKi vMe vOw row uZ uR0 uR1 uR2 uR3 uR4 uR5 uR6 uR7 kZ kR0 kR1 cZ cPe cTa hZ hPe hLe hSh mTy mKn mKe mCa mSe mTx mTo mSt mPa mIm mWi mSn) : (f_X8_reach vP vS vD vKi vMe vOw row nCo nNx p0 p1) = (f_X9_reach mTo mSt mFw p0 p1) ∧ Inv tN tL vP vS vD vKi vMe vOw row uZ uR0 uR1 uR2 uR3 uR4 uR5 uR6 uR7 kZ kR0 kR1 cZ cPe cTa hZ hPe hLe hSh mTy mKn mKe mCa mSe mTx mTo mSt mPa mIm mWi mSn := sorry
theorem E_all (tN : Int32) (tL : Nat → Int32) (vP : Int32) (vS : Int32) (vD : Int32) (vKi : Nat → Int32) (vMe : Nat → Int32) (vOw : Nat → Int32) (row : Nat → Int32) (uZ : Int32) (uR0 : Nat → Int32) (uR1 : Nat → Int32) (uR2 : Nat → Int32) (uR3 : Nat → Int32) (uR4 : Nat → Int32) (uR5 : Nat → Int32) (uR6 : Nat → Int32) (uR7 : Nat → Int32) (kZ : Int32) (kR0 : Nat → Int32) (kR1 : Nat → Int32) (nCo : Nat → Int32) (nNx : Nat → Int32) (cZ : Int32) (cPe : Nat → Int32) (cTa : Nat → Int32) (hZ : Int32) (hPe : Nat → Int32) (hLe : Nat → Int32) (hSh : Nat → Int32) (mTy : Nat) (mKn : Nat) (mKe : Nat) (mCa : Nat) (mSe : Nat) (mTx : Nat → Int32) (mTo : Nat → Int32) (mSt : Nat → Int32) (mPa : Nat → Int32) (mIm : Nat → Int32) (mWi : Nat → Int32) (mSn : Nat → Int32) (mFw : Nat → Int32) (p0 : Int32) (p1 : Int32) (hI : Inv tN tL vP vS vD vKi vMe vOw row uZ uR0 uR1 uR2 uR3 uR4 uR5 uR6 uR7 kZ kR0 kR1 cZ cPe cTa hZ hPe hLe hSh mTy mKn mKe mCa mSe mTx mTo mSt mPa mIm mWi mSn) : (f_X8_all vP vS vD vKi vMe vOw row nCo nNx p0 p1) = (f_X9_all mTo mSt mFw p0 p1) ∧ Inv tN tL vP vS vD vKi vMe vOw row uZ uR0 uR1 uR2 uR3 uR4 uR5 uR6 uR7 kZ kR0 kR1 cZ cPe cTa hZ hPe hLe hSh mTy mKn mKe mCa mSe mTx mTo mSt mPa mIm mWi mSn := sorry
theorem E_apart (tN : Int32) (tL : Nat → Int32) (vP : Int32) (vS : Int32) (vD : Int32) (vKi : Nat → Int32) (vMe : Nat → Int32) (vOw : Nat → Int32) (row : Nat → Int32) (uZ : Int32) (uR0 : Nat → Int32) (uR1 : Nat → Int32) (uR2 : Nat → Int32) (uR3 : Nat → Int32) (uR4 : Nat → Int32) (uR5 : Nat → Int32) (uR6 : Nat → Int32) (uR7 : Nat → Int32) (kZ : Int32) (kR0 : Nat → Int32) (kR1 : Nat → Int32) (cZ : Int32) (cPe : Nat → Int32) (cTa : Nat → Int32) (hZ : Int32) (hPe : Nat → Int32) (hLe : Nat → Int32) (hSh : Nat → Int32) (mTy : Nat) (mKn : Nat) (mKe : Nat) (mCa : Nat) (mSe : Nat) (mTx : Nat → Int32) (mTo : Nat → Int32) (mSt : Nat → Int32) (mPa : Nat → Int32) (mIm : Nat → Int32) (mWi : Nat → Int32) (mSn : Nat → Int32) (p0 : Int32) (p1 : Int32) (hI : Inv tN tL vP vS vD vKi vMe vOw row uZ uR0 uR1 uR2 uR3 uR4 uR5 uR6 uR7 kZ kR0 kR1 cZ cPe cTa hZ hPe hLe hSh mTy mKn mKe mCa mSe mTx mTo mSt mPa mIm mWi mSn) : (f_X8_apart vP vS vD vMe row p0 p1) = (f_X9_apart mTo mSt p0 p1) ∧ Inv tN tL vP vS vD vKi vMe vOw row uZ uR0 uR1 uR2 uR3 uR4 uR5 uR6 uR7 kZ kR0 kR1 cZ cPe cTa hZ hPe hLe hSh mTy mKn mKe mCa mSe mTx mTo mSt mPa mIm mWi mSn := sorry
theorem E_worth (tN : Int32) (tL : Nat → Int32) (vP : Int32) (vS : Int32) (vD : Int32) (vKi : Nat → Int32) (vMe : Nat → Int32) (vOw : Nat → Int32) (row : Nat → Int32) (orow : Nat → Int32) (uZ : Int32) (uR0 : Nat → Int32) (uR1 : Nat → Int32) (uR2 : Nat → Int32) (uR3 : Nat → Int32) (uR4 : Nat → Int32) (uR5 : Nat → Int32) (uR6 : Nat → Int32) (uR7 : Nat → Int32) (kZ : Int32) (kR0 : Nat → Int32) (kR1 : Nat → Int32) (cZ : Int32) (cPe : Nat → Int32) (cTa : Nat → Int32) (hZ : Int32) (hPe : Nat → Int32) (hLe : Nat → Int32) (hSh : Nat → Int32) (mTy : Nat) (mKn : Nat) (mKe : Nat) (mCa : Nat) (mSe : Nat) (mTx : Nat → Int32) (mTo : Nat → Int32) (mSt : Nat → Int32) (mPa : Nat → Int32) (mIm : Nat → Int32) (mWi : Nat → Int32) (mSn : Nat → Int32) (p0 : Int32) (p1 : Int32) (hI : Inv tN tL vP vS vD vKi vMe vOw row uZ uR0 uR1 uR2 uR3 uR4 uR5 uR6 uR7 kZ kR0 kR1 cZ cPe cTa hZ hPe hLe hSh mTy mKn mKe mCa mSe mTx mTo mSt mPa mIm mWi mSn) : (f_X8_worth vP vS vD vKi vMe vOw row orow p0 p1) = (f_X9_worth mTo mSt p0 p1) ∧ Inv tN tL vP vS vD vKi vMe vOw row uZ uR0 uR1 uR2 uR3 uR4 uR5 uR6 uR7 kZ kR0 kR1 cZ cPe cTa hZ hPe hLe hSh mTy mKn mKe mCa mSe mTx mTo mSt mPa mIm mWi mSn := sorry
theorem E_witness (tN : Int32) (tL : Nat → Int32) (vP : Int32) (vS : Int32) (vD : Int32) (vKi : Nat → Int32) (vMe : Nat → Int32) (vOw : Nat → Int32) (row : Nat → Int32) (uZ : Int32) (uR0 : Nat → Int32) (uR1 : Nat → Int32) (uR2 : Nat → Int32) (uR3 : Nat → Int32) (uR4 : Nat → Int32) (uR5 : Nat → Int32) (uR6 : Nat → Int32) (uR7 : Nat → Int32) (kZ : Int32) (kR0 : Nat → Int32) (kR1 : Nat → Int32) (cZ : Int32) (cPe : Nat → Int32) (cTa : Nat → Int32) (hZ : Int32) (hPe : Nat → Int32) (hLe : Nat → Int32) (hSh : Nat → Int32) (mTy : Nat) (mKn : Nat) (mKe : Nat) (mCa : Nat) (mSe : Nat) (mTx : Nat → Int32) (mTo : Nat → Int32) (mSt : Nat → Int32) (mPa : Nat → Int32) (mIm : Nat → Int32) (mWi : Nat → Int32) (mSn : Nat → Int32) (p0 : Int32) (p1 : Int32) (hI : Inv tN tL vP vS vD vKi vMe vOw row uZ uR0 uR1 uR2 uR3 uR4 uR5 uR6 uR7 kZ kR0 kR1 cZ cPe cTa hZ hPe hLe hSh mTy mKn mKe mCa mSe mTx mTo mSt mPa mIm mWi mSn) : (f_X8_witness vP vS cZ p0 p1) = (f_X9_witness mCa mTo p0 p1) ∧ Inv tN tL vP vS vD vKi vMe vOw row uZ uR0 uR1 uR2 uR3 uR4 uR5 uR6 uR7 kZ kR0 kR1 (g_X8_witness_cZ vP vS cZ p0 p1) (g_X8_witness_cPe vP vS cZ cPe p0 p1) (g_X8_witness_cTa vP vS cZ cTa p0 p1) hZ hPe hLe hSh mTy mKn mKe (g_X9_witness_mCa mCa mTo p0 p1) mSe mTx mTo mSt mPa mIm (g_X9_witness_mWi mCa mTo mWi p0 p1) mSn := by
  obtain ⟨hT, p, q, d, h1, h2, h3, h4, ⟨c1, c2, c3, c4⟩, h5⟩ := id hI
  subst c1
  obtain ⟨⟨-, hp, hq, -, -⟩, ⟨hP, hP', hS, hS', -, -⟩, -⟩ := id h1
  have n3 : ¬ (1 : Int32) = 0 := by decide
  rcases e_hasP (p0 := p0) hp hP hP' with ⟨a, b⟩ | ⟨i, hi, rfl, a, b⟩
  · simp only [f_X8_witness, f_X9_witness, g_X8_witness_cZ, g_X8_witness_cPe, g_X8_witness_cTa, g_X9_witness_mCa, g_X9_witness_mWi, a, b, if_true]
    exact ⟨trivial, hI⟩
  rcases e_hasS (p0 := p1) hq hS hS' with ⟨e, f⟩ | ⟨s, hs, rfl, e, f⟩
  · simp only [f_X8_witness, f_X9_witness, g_X8_witness_cZ, g_X8_witness_cPe, g_X8_witness_cTa, g_X9_witness_mCa, g_X9_witness_mWi, a, b, if_neg n3, e, f, if_true]
    exact ⟨trivial, hI⟩
  rcases Nat.lt_or_ge mCa 5 with w | w
  · have d0 : ¬ nI mCa < 0 := nI_pos (by omega)
    have d1 : nI mCa < 5 := nI_lt (b := 5) w (by decide)
    have d2 : ¬ nI mCa = 5 := fun x => by rw [x] at d1; exact absurd d1 (by decide)
    have m1 : (8 : Int32) * nI i + nI s = nI (8 * i + s) := by
      rw [show (8 : Int32) * nI i = nI (8 * i) from (Int32.ofNat_mul 8 i).symm, nI_add]
    simp only [f_X8_witness, f_X9_witness, g_X8_witness_cZ, g_X8_witness_cPe, g_X8_witness_cTa, g_X9_witness_mCa, g_X9_witness_mWi, a, b, if_neg n3, e, f, f_X1_add, f_X1_size, g_X1_add_cZ, g_X1_add_cPe, g_X1_add_cTa, if_neg d0, if_pos d1, if_neg d2, nI_1, nI_clamp (show mCa < 2 ^ 31 by omega), m1]
    refine ⟨trivial, hT, p, q, d, h1, h2, h3, h4, ⟨rfl, by omega, fun k hk => ?_, fun k hk => ?_⟩, h5⟩
    · unfold upd
      by_cases x : k = mCa
      · exact ⟨i, s, hi, hs, if_pos x, if_pos x, if_pos x⟩
      · simp only [if_neg x]
        exact c3 k (by omega)
    · unfold upd
      by_cases x : k = mCa
      · rw [if_pos x]; exact vp_in_nI (by omega) (by decide)
      · rw [if_neg x]; exact c4 k hk
  · have x : mCa = 5 := by omega
    subst x
    have d0 : ¬ nI 5 < 0 := by decide
    have d1 : ¬ nI 5 < 5 := by decide
    have d2 : nI 5 = 5 := rfl
    simp only [f_X8_witness, f_X9_witness, g_X8_witness_cZ, g_X8_witness_cPe, g_X8_witness_cTa, g_X9_witness_mCa, g_X9_witness_mWi, a, b, if_neg n3, e, f, f_X1_add, f_X1_size, g_X1_add_cZ, g_X1_add_cPe, g_X1_add_cTa, if_neg d0, if_neg d1, if_pos d2, if_true]
    exact ⟨trivial, hI⟩
theorem E_dismiss (tN : Int32) (tL : Nat → Int32) (vP : Int32) (vS : Int32) (vD : Int32) (vKi : Nat → Int32) (vMe : Nat → Int32) (vOw : Nat → Int32) (row : Nat → Int32) (uZ : Int32) (uR0 : Nat → Int32) (uR1 : Nat → Int32) (uR2 : Nat → Int32) (uR3 : Nat → Int32) (uR4 : Nat → Int32) (uR5 : Nat → Int32) (uR6 : Nat → Int32) (uR7 : Nat → Int32) (kZ : Int32) (kR0 : Nat → Int32) (kR1 : Nat → Int32) (cZ : Int32) (cPe : Nat → Int32) (cTa : Nat → Int32) (hZ : Int32) (hPe : Nat → Int32) (hLe : Nat → Int32) (hSh : Nat → Int32) (mTy : Nat) (mKn : Nat) (mKe : Nat) (mCa : Nat) (mSe : Nat) (mTx : Nat → Int32) (mTo : Nat → Int32) (mSt : Nat → Int32) (mPa : Nat → Int32) (mIm : Nat → Int32) (mWi : Nat → Int32) (mSn : Nat → Int32)  (hI : Inv tN tL vP vS vD vKi vMe vOw row uZ uR0 uR1 uR2 uR3 uR4 uR5 uR6 uR7 kZ kR0 kR1 cZ cPe cTa hZ hPe hLe hSh mTy mKn mKe mCa mSe mTx mTo mSt mPa mIm mWi mSn) : (f_X8_dismiss cZ) = (f_X9_dismiss mCa) ∧ Inv tN tL vP vS vD vKi vMe vOw row uZ uR0 uR1 uR2 uR3 uR4 uR5 uR6 uR7 kZ kR0 kR1 g_X8_dismiss_cZ cPe cTa hZ hPe hLe hSh mTy mKn mKe g_X9_dismiss_mCa mSe mTx mTo mSt mPa mIm mWi mSn := by
  obtain ⟨hT, p, q, d, h1, h2, h3, h4, ⟨c1, c2, c3, c4⟩, h5⟩ := hI
  exact ⟨c1, hT, p, q, d, h1, h2, h3, h4, ⟨rfl, Nat.zero_le _, fun k hk => absurd hk (Nat.not_lt_zero k), c4⟩, h5⟩
theorem E_order (tN : Int32) (tL : Nat → Int32) (vP : Int32) (vS : Int32) (vD : Int32) (vKi : Nat → Int32) (vMe : Nat → Int32) (vOw : Nat → Int32) (row : Nat → Int32) (orow : Nat → Int32) (uZ : Int32) (uR0 : Nat → Int32) (uR1 : Nat → Int32) (uR2 : Nat → Int32) (uR3 : Nat → Int32) (uR4 : Nat → Int32) (uR5 : Nat → Int32) (uR6 : Nat → Int32) (uR7 : Nat → Int32) (kZ : Int32) (kR0 : Nat → Int32) (kR1 : Nat → Int32) (cZ : Int32) (cPe : Nat → Int32) (cTa : Nat → Int32) (cTu : Nat → Int32) (cBe : Nat → Int32) (hZ : Int32) (hPe : Nat → Int32) (hLe : Nat → Int32) (hSh : Nat → Int32) (mTy : Nat) (mKn : Nat) (mKe : Nat) (mCa : Nat) (mSe : Nat) (mTx : Nat → Int32) (mTo : Nat → Int32) (mSt : Nat → Int32) (mPa : Nat → Int32) (mIm : Nat → Int32) (mWi : Nat → Int32) (mSn : Nat → Int32) (mHe : Nat → Int32) (mRo : Nat → Int32) (mBe : Nat → Int32) (p0 : Int32) (hI : Inv tN tL vP vS vD vKi vMe vOw row uZ uR0 uR1 uR2 uR3 uR4 uR5 uR6 uR7 kZ kR0 kR1 cZ cPe cTa hZ hPe hLe hSh mTy mKn mKe mCa mSe mTx mTo mSt mPa mIm mWi mSn) : (f_X8_order vP vS vD vKi vOw row orow cZ cPe cTa cTu cBe p0) = (f_X9_order mCa mTo mSt mWi mHe mRo mBe p0) ∧ Inv tN tL vP vS vD vKi vMe vOw row uZ uR0 uR1 uR2 uR3 uR4 uR5 uR6 uR7 kZ kR0 kR1 cZ cPe cTa hZ hPe hLe hSh mTy mKn mKe mCa mSe mTx mTo (g_X9_order_mSt mCa mTo mSt mWi mHe mRo mBe p0) mPa mIm mWi mSn := sorry
theorem E_confession (tN : Int32) (tL : Nat → Int32) (vP : Int32) (vS : Int32) (vD : Int32) (vKi : Nat → Int32) (vMe : Nat → Int32) (vOw : Nat → Int32) (row : Nat → Int32) (uZ : Int32) (uR0 : Nat → Int32) (uR1 : Nat → Int32) (uR2 : Nat → Int32) (uR3 : Nat → Int32) (uR4 : Nat → Int32) (uR5 : Nat → Int32) (uR6 : Nat → Int32) (uR7 : Nat → Int32) (kZ : Int32) (kR0 : Nat → Int32) (kR1 : Nat → Int32) (cZ : Int32) (cPe : Nat → Int32) (cTa : Nat → Int32) (hZ : Int32) (hPe : Nat → Int32) (hLe : Nat → Int32) (hSh : Nat → Int32) (mTy : Nat) (mKn : Nat) (mKe : Nat) (mCa : Nat) (mSe : Nat) (mTx : Nat → Int32) (mTo : Nat → Int32) (mSt : Nat → Int32) (mPa : Nat → Int32) (mIm : Nat → Int32) (mWi : Nat → Int32) (mSn : Nat → Int32) (p0 : Int32) (p1 : Int32) (p2 : Int32) (p3 : Int32) (p4 : Int32) (hI : Inv tN tL vP vS vD vKi vMe vOw row uZ uR0 uR1 uR2 uR3 uR4 uR5 uR6 uR7 kZ kR0 kR1 cZ cPe cTa hZ hPe hLe hSh mTy mKn mKe mCa mSe mTx mTo mSt mPa mIm mWi mSn) : (f_X8_confession p0 p1 p2 p3 p4) = (f_X9_confession p0 p1 p2 p3 p4) ∧ Inv tN tL vP vS vD vKi vMe vOw row uZ uR0 uR1 uR2 uR3 uR4 uR5 uR6 uR7 kZ kR0 kR1 cZ cPe cTa hZ hPe hLe hSh mTy mKn mKe mCa mSe mTx mTo mSt mPa mIm mWi mSn := sorry
theorem e_in0 {N : Nat} {a M : Int32} (hM : M = nI N) (hN : N < 2 ^ 31) : (f_X9_in a 0 M = 0 ∧ (a < 0 ∨ ¬ a ≤ M)) ∨ ∃ j : Nat, j ≤ N ∧ a = nI j ∧ f_X9_in a 0 M = 1 ∧ ¬ a < 0 ∧ a ≤ M := by
  subst hM
  unfold f_X9_in
  by_cases c : a < 0
  · left; exact ⟨if_pos c, .inl c⟩
  · obtain ⟨j, hj, rfl⟩ := nI_of c
    rcases Nat.lt_or_ge N j with w | w
    · left; rw [if_neg c]; exact ⟨if_pos (nI_lt w hj), .inr (nI_ge w hj)⟩
    · right; exact ⟨j, w, rfl, by rw [if_neg c, if_neg (nI_nlt w hN)], c, nI_le w hN⟩
theorem E_seen (tN : Int32) (tL : Nat → Int32) (vP : Int32) (vS : Int32) (vD : Int32) (vKi : Nat → Int32) (vMe : Nat → Int32) (vOw : Nat → Int32) (row : Nat → Int32) (uZ : Int32) (uR0 : Nat → Int32) (uR1 : Nat → Int32) (uR2 : Nat → Int32) (uR3 : Nat → Int32) (uR4 : Nat → Int32) (uR5 : Nat → Int32) (uR6 : Nat → Int32) (uR7 : Nat → Int32) (kZ : Int32) (kR0 : Nat → Int32) (kR1 : Nat → Int32) (cZ : Int32) (cPe : Nat → Int32) (cTa : Nat → Int32) (hZ : Int32) (hPe : Nat → Int32) (hLe : Nat → Int32) (hSh : Nat → Int32) (mTy : Nat) (mKn : Nat) (mKe : Nat) (mCa : Nat) (mSe : Nat) (mTx : Nat → Int32) (mTo : Nat → Int32) (mSt : Nat → Int32) (mPa : Nat → Int32) (mIm : Nat → Int32) (mWi : Nat → Int32) (mSn : Nat → Int32) (p0 : Int32) (p1 : Int32) (p2 : Int32) (hI : Inv tN tL vP vS vD vKi vMe vOw row uZ uR0 uR1 uR2 uR3 uR4 uR5 uR6 uR7 kZ kR0 kR1 cZ cPe cTa hZ hPe hLe hSh mTy mKn mKe mCa mSe mTx mTo mSt mPa mIm mWi mSn) : (f_X8_seen vP hZ p0 p1 p2) = (f_X9_seen mSe mTo p0 p1 p2) ∧ Inv tN tL vP vS vD vKi vMe vOw row uZ uR0 uR1 uR2 uR3 uR4 uR5 uR6 uR7 kZ kR0 kR1 cZ cPe cTa (g_X8_seen_hZ vP hZ p0 p1 p2) (g_X8_seen_hPe vP hZ hPe p0 p1 p2) (g_X8_seen_hLe vP hZ hLe p0 p1 p2) (g_X8_seen_hSh vP hZ hSh p0 p1 p2) mTy mKn mKe mCa (g_X9_seen_mSe mSe mTo p0 p1 p2) mTx mTo mSt mPa mIm mWi (g_X9_seen_mSn mSe mTo mSn p0 p1 p2) := by
  obtain ⟨hT, p, q, d, h1, h2, h3, h4, h5, ⟨c1, c2, c3⟩⟩ := id hI
  subst c1
  obtain ⟨⟨-, hp, hq, -, -⟩, ⟨hP, hP', hS, hS', -, -⟩, -⟩ := id h1
  have n3 : ¬ (1 : Int32) = 0 := by decide
  rcases e_hasP (p0 := p0) hp hP hP' with ⟨a, b⟩ | ⟨i, hi, rfl, a, b⟩
  · simp only [f_X8_seen, f_X9_seen, g_X8_seen_hZ, g_X8_seen_hPe, g_X8_seen_hLe, g_X8_seen_hSh, g_X9_seen_mSe, g_X9_seen_mSn, a, b, if_true]
    exact ⟨trivial, hI⟩
  rcases e_in0 (a := p1) (M := 9) (N := 9) rfl (by decide) with ⟨e, e'⟩ | ⟨n, hn, rfl, e, e1, e2⟩
  · rcases e' with e' | e'
    · simp only [f_X8_seen, f_X9_seen, g_X8_seen_hZ, g_X8_seen_hPe, g_X8_seen_hLe, g_X8_seen_hSh, g_X9_seen_mSe, g_X9_seen_mSn, a, b, if_neg n3, e, if_pos e', if_true]
      exact ⟨trivial, hI⟩
    · simp only [f_X8_seen, f_X9_seen, g_X8_seen_hZ, g_X8_seen_hPe, g_X8_seen_hLe, g_X8_seen_hSh, g_X9_seen_mSe, g_X9_seen_mSn, a, b, if_neg n3, e, if_pos (Int32.not_le.mp e'), if_true, ite_self]
      exact ⟨trivial, hI⟩
  have e2' : ¬ 9 < nI n := Int32.not_lt.mpr e2
  rcases e_in0 (a := p2) (M := 20) (N := 20) rfl (by decide) with ⟨f, f'⟩ | ⟨h, hh, rfl, f, f1, f2⟩
  · rcases f' with f' | f'
    · simp only [f_X8_seen, f_X9_seen, g_X8_seen_hZ, g_X8_seen_hPe, g_X8_seen_hLe, g_X8_seen_hSh, g_X9_seen_mSe, g_X9_seen_mSn, a, b, if_neg n3, e, if_neg e1, if_neg e2', f, if_pos f', if_true]
      exact ⟨trivial, hI⟩
    · simp only [f_X8_seen, f_X9_seen, g_X8_seen_hZ, g_X8_seen_hPe, g_X8_seen_hLe, g_X8_seen_hSh, g_X9_seen_mSe, g_X9_seen_mSn, a, b, if_neg n3, e, if_neg e1, if_neg e2', f, if_neg f', if_true, ite_self]
      exact ⟨trivial, hI⟩
  rcases Nat.lt_or_ge mSe 6 with w | w
  · have d0 : ¬ nI mSe < 0 := nI_pos (by omega)
    have d1 : nI mSe < 6 := nI_lt (b := 6) w (by decide)
    have d2 : ¬ nI mSe = 6 := fun x => by rw [x] at d1; exact absurd d1 (by decide)
    simp only [f_X8_seen, f_X9_seen, g_X8_seen_hZ, g_X8_seen_hPe, g_X8_seen_hLe, g_X8_seen_hSh, g_X9_seen_mSe, g_X9_seen_mSn, a, b, if_neg n3, e, if_neg e1, if_neg e2', f, if_neg f1, if_pos f2, f_X5_add, f_X5_size, g_X5_add_hZ, g_X5_add_hPe, g_X5_add_hLe, g_X5_add_hSh, if_neg d0, if_pos d1, if_neg d2, nI_1, nI_clamp (show mSe < 2 ^ 31 by omega)]
    refine ⟨trivial, hT, p, q, d, h1, h2, h3, h4, h5, rfl, by omega, fun k hk => ?_⟩
    unfold upd
    by_cases x : k = mSe
    · refine ⟨i, n, h, hi, hn, hh, if_pos x, if_pos x, if_pos x, ?_⟩
      rw [if_pos x]
      rw [show (1000 : Int32) * nI i = nI (1000 * i) from (Int32.ofNat_mul 1000 i).symm, show (100 : Int32) * nI n = nI (100 * n) from (Int32.ofNat_mul 100 n).symm, nI_add, nI_add]
    · simp only [if_neg x]
      exact c3 k (by omega)
  · have x : mSe = 6 := by omega
    subst x
    have d0 : ¬ nI 6 < 0 := by decide
    have d1 : ¬ nI 6 < 6 := by decide
    have d2 : nI 6 = 6 := rfl
    simp only [f_X8_seen, f_X9_seen, g_X8_seen_hZ, g_X8_seen_hPe, g_X8_seen_hLe, g_X8_seen_hSh, g_X9_seen_mSe, g_X9_seen_mSn, a, b, if_neg n3, e, if_neg e1, if_neg e2', f, if_neg f1, if_pos f2, f_X5_add, f_X5_size, g_X5_add_hZ, g_X5_add_hPe, g_X5_add_hLe, g_X5_add_hSh, if_neg d0, if_neg d1, if_pos d2, if_true]
    exact ⟨trivial, hI⟩
theorem E_forget (tN : Int32) (tL : Nat → Int32) (vP : Int32) (vS : Int32) (vD : Int32) (vKi : Nat → Int32) (vMe : Nat → Int32) (vOw : Nat → Int32) (row : Nat → Int32) (uZ : Int32) (uR0 : Nat → Int32) (uR1 : Nat → Int32) (uR2 : Nat → Int32) (uR3 : Nat → Int32) (uR4 : Nat → Int32) (uR5 : Nat → Int32) (uR6 : Nat → Int32) (uR7 : Nat → Int32) (kZ : Int32) (kR0 : Nat → Int32) (kR1 : Nat → Int32) (cZ : Int32) (cPe : Nat → Int32) (cTa : Nat → Int32) (hZ : Int32) (hPe : Nat → Int32) (hLe : Nat → Int32) (hSh : Nat → Int32) (mTy : Nat) (mKn : Nat) (mKe : Nat) (mCa : Nat) (mSe : Nat) (mTx : Nat → Int32) (mTo : Nat → Int32) (mSt : Nat → Int32) (mPa : Nat → Int32) (mIm : Nat → Int32) (mWi : Nat → Int32) (mSn : Nat → Int32)  (hI : Inv tN tL vP vS vD vKi vMe vOw row uZ uR0 uR1 uR2 uR3 uR4 uR5 uR6 uR7 kZ kR0 kR1 cZ cPe cTa hZ hPe hLe hSh mTy mKn mKe mCa mSe mTx mTo mSt mPa mIm mWi mSn) : (f_X8_forget hZ) = (f_X9_forget mSe) ∧ Inv tN tL vP vS vD vKi vMe vOw row uZ uR0 uR1 uR2 uR3 uR4 uR5 uR6 uR7 kZ kR0 kR1 cZ cPe cTa g_X8_forget_hZ hPe hLe hSh mTy mKn mKe mCa g_X9_forget_mSe mTx mTo mSt mPa mIm mWi mSn := by
  obtain ⟨hT, p, q, d, h1, h2, h3, h4, h5, h6, h7, h8⟩ := hI
  exact ⟨h6, hT, p, q, d, h1, h2, h3, h4, h5, rfl, Nat.zero_le _, fun k hk => absurd hk (Nat.not_lt_zero k)⟩
theorem E_kinds (tN : Int32) (tL : Nat → Int32) (vP : Int32) (vS : Int32) (vD : Int32) (vKi : Nat → Int32) (vMe : Nat → Int32) (vOw : Nat → Int32) (row : Nat → Int32) (uZ : Int32) (uR0 : Nat → Int32) (uR1 : Nat → Int32) (uR2 : Nat → Int32) (uR3 : Nat → Int32) (uR4 : Nat → Int32) (uR5 : Nat → Int32) (uR6 : Nat → Int32) (uR7 : Nat → Int32) (kZ : Int32) (kR0 : Nat → Int32) (kR1 : Nat → Int32) (cZ : Int32) (cPe : Nat → Int32) (cTa : Nat → Int32) (hZ : Int32) (hPe : Nat → Int32) (hLe : Nat → Int32) (hSh : Nat → Int32) (mTy : Nat) (mKn : Nat) (mKe : Nat) (mCa : Nat) (mSe : Nat) (mTx : Nat → Int32) (mTo : Nat → Int32) (mSt : Nat → Int32) (mPa : Nat → Int32) (mIm : Nat → Int32) (mWi : Nat → Int32) (mSn : Nat → Int32) (p0 : Int32) (hI : Inv tN tL vP vS vD vKi vMe vOw row uZ uR0 uR1 uR2 uR3 uR4 uR5 uR6 uR7 kZ kR0 kR1 cZ cPe cTa hZ hPe hLe hSh mTy mKn mKe mCa mSe mTx mTo mSt mPa mIm mWi mSn) : (f_X8_kinds vP hZ hPe hLe hSh p0) = (f_X9_kinds mSe mTo mSn p0) ∧ Inv tN tL vP vS vD vKi vMe vOw row uZ uR0 uR1 uR2 uR3 uR4 uR5 uR6 uR7 kZ kR0 kR1 cZ cPe cTa hZ hPe hLe hSh mTy mKn mKe mCa mSe mTx mTo mSt mPa mIm mWi mSn := sorry
theorem E_out (tN : Int32) (tL : Nat → Int32) (vP : Int32) (vS : Int32) (vD : Int32) (vKi : Nat → Int32) (vMe : Nat → Int32) (vOw : Nat → Int32) (row : Nat → Int32) (uZ : Int32) (uR0 : Nat → Int32) (uR1 : Nat → Int32) (uR2 : Nat → Int32) (uR3 : Nat → Int32) (uR4 : Nat → Int32) (uR5 : Nat → Int32) (uR6 : Nat → Int32) (uR7 : Nat → Int32) (kZ : Int32) (kR0 : Nat → Int32) (kR1 : Nat → Int32) (cZ : Int32) (cPe : Nat → Int32) (cTa : Nat → Int32) (hZ : Int32) (hPe : Nat → Int32) (hLe : Nat → Int32) (hSh : Nat → Int32) (mTy : Nat) (mKn : Nat) (mKe : Nat) (mCa : Nat) (mSe : Nat) (mTx : Nat → Int32) (mTo : Nat → Int32) (mSt : Nat → Int32) (mPa : Nat → Int32) (mIm : Nat → Int32) (mWi : Nat → Int32) (mSn : Nat → Int32) (p0 : Int32) (p1 : Int32) (p2 : Int32) (hI : Inv tN tL vP vS vD vKi vMe vOw row uZ uR0 uR1 uR2 uR3 uR4 uR5 uR6 uR7 kZ kR0 kR1 cZ cPe cTa hZ hPe hLe hSh mTy mKn mKe mCa mSe mTx mTo mSt mPa mIm mWi mSn) : (f_X8_out vP vS vD vKi vOw row p0 p1 p2) = (f_X9_out mTo mSt p0 p1 p2) ∧ Inv tN tL vP vS vD vKi vMe vOw row uZ uR0 uR1 uR2 uR3 uR4 uR5 uR6 uR7 kZ kR0 kR1 cZ cPe cTa hZ hPe hLe hSh mTy mKn mKe mCa mSe mTx mTo mSt mPa mIm mWi mSn := sorry
theorem E_year (tN : Int32) (tL : Nat → Int32) (vP : Int32) (vS : Int32) (vD : Int32) (vKi : Nat → Int32) (vMe : Nat → Int32) (vOw : Nat → Int32) (row : Nat → Int32) (orow : Nat → Int32) (uZ : Int32) (uR0 : Nat → Int32) (uR1 : Nat → Int32) (uR2 : Nat → Int32) (uR3 : Nat → Int32) (uR4 : Nat → Int32) (uR5 : Nat → Int32) (uR6 : Nat → Int32) (uR7 : Nat → Int32) (kZ : Int32) (kR0 : Nat → Int32) (kR1 : Nat → Int32) (cZ : Int32) (cPe : Nat → Int32) (cTa : Nat → Int32) (hZ : Int32) (hPe : Nat → Int32) (hLe : Nat → Int32) (hSh : Nat → Int32) (mTy : Nat) (mKn : Nat) (mKe : Nat) (mCa : Nat) (mSe : Nat) (mTx : Nat → Int32) (mTo : Nat → Int32) (mSt : Nat → Int32) (mPa : Nat → Int32) (mIm : Nat → Int32) (mWi : Nat → Int32) (mSn : Nat → Int32) (mHe : Nat → Int32) (p0 : Int32) (p1 : Int32) (p2 : Int32) (hI : Inv tN tL vP vS vD vKi vMe vOw row uZ uR0 uR1 uR2 uR3 uR4 uR5 uR6 uR7 kZ kR0 kR1 cZ cPe cTa hZ hPe hLe hSh mTy mKn mKe mCa mSe mTx mTo mSt mPa mIm mWi mSn) : (f_X8_year vP vS vD vKi vMe vOw row orow p0 p1 p2) = (f_X9_year mTo mSt p0 p1 p2) ∧ Inv tN tL vP vS vD vKi vMe vOw row uZ uR0 uR1 uR2 uR3 uR4 uR5 uR6 uR7 kZ kR0 kR1 cZ cPe cTa hZ hPe hLe hSh mTy mKn mKe mCa mSe mTx mTo (g_X9_year_mSt mTo mSt mHe p0 p1 p2) mPa mIm mWi mSn := sorry
theorem E_keep (tN : Int32) (tL : Nat → Int32) (vP : Int32) (vS : Int32) (vD : Int32) (vKi : Nat → Int32) (vMe : Nat → Int32) (vOw : Nat → Int32) (row : Nat → Int32) (uZ : Int32) (uR0 : Nat → Int32) (uR1 : Nat → Int32) (uR2 : Nat → Int32) (uR3 : Nat → Int32) (uR4 : Nat → Int32) (uR5 : Nat → Int32) (uR6 : Nat → Int32) (uR7 : Nat → Int32) (kZ : Int32) (kR0 : Nat → Int32) (kR1 : Nat → Int32) (cZ : Int32) (cPe : Nat → Int32) (cTa : Nat → Int32) (hZ : Int32) (hPe : Nat → Int32) (hLe : Nat → Int32) (hSh : Nat → Int32) (mTy : Nat) (mKn : Nat) (mKe : Nat) (mCa : Nat) (mSe : Nat) (mTx : Nat → Int32) (mTo : Nat → Int32) (mSt : Nat → Int32) (mPa : Nat → Int32) (mIm : Nat → Int32) (mWi : Nat → Int32) (mSn : Nat → Int32)  (hI : Inv tN tL vP vS vD vKi vMe vOw row uZ uR0 uR1 uR2 uR3 uR4 uR5 uR6 uR7 kZ kR0 kR1 cZ cPe cTa hZ hPe hLe hSh mTy mKn mKe mCa mSe mTx mTo mSt mPa mIm mWi mSn) : (f_X8_keep kZ) = (f_X9_keep mKe) ∧ Inv tN tL vP vS vD vKi vMe vOw row uZ uR0 uR1 uR2 uR3 uR4 uR5 uR6 uR7 (g_X8_keep_kZ kZ) (g_X8_keep_kR0 row kZ kR0) (g_X8_keep_kR1 row kZ kR1) cZ cPe cTa hZ hPe hLe hSh mTy mKn (g_X9_keep_mKe mKe) mCa mSe mTx mTo mSt mPa (g_X9_keep_mIm mKe mSt mIm) mWi mSn := by
  obtain ⟨hT, p, q, d, h1, h2, h3, ⟨u1, b2, u3, u4⟩, h4⟩ := hI
  subst u1
  have hq := h1.1.2.2.1
  rcases Nat.lt_or_ge mKe 2 with w | w
  · have n0 : ¬ nI mKe < 0 := nI_pos (by omega)
    have n1 : nI mKe < 2 := nI_lt (b := 2) w (by decide)
    have n2 : ¬ nI mKe = 2 := fun e => by rw [e] at n1; exact absurd n1 (by decide)
    have n3 : ¬ (1 : Int32) = 0 := by decide
    simp only [f_X8_keep, f_X9_keep, g_X8_keep_kZ, g_X9_keep_mKe, g_X9_keep_mIm, f_X4_push2, g_X4_push2_uZ, f_X4_size2, if_neg n0, if_pos n1, if_neg n2, if_neg n3, nI_1]
    have e : ∀ r k, k < 15 → r < mKe → F_X9_keep_13 mKe mSt mIm 15 (15 * r + k) = mIm (15 * r + k) := fun r k hk hr => by rw [e_ke, if_neg (by omega)]
    have e' : ∀ k, k < 15 → F_X9_keep_13 mKe mSt mIm 15 (15 * mKe + k) = mSt k := fun k hk => by rw [e_ke, if_pos (by omega), Nat.add_sub_cancel_left]
    refine ⟨trivial, hT, p, q, d, h1, h2, h3, ⟨rfl, by omega, fun r hr k hk => ?_, fun r hr => ?_⟩, h4⟩
    · by_cases c : r = mKe
      · subst c
        rw [e' k hk, ← h2.1 k hk]
        rcases (show r = 0 ∨ r = 1 by omega) with rfl | rfl
        · show g_X6_copyInto_cel row kR0 k = row k
          rw [e_ci k hk]
        · show g_X6_copyInto_cel row kR1 k = row k
          rw [e_ci k hk]
      · rw [e r k hk (by omega), ← u3 r (by omega) k hk]
        rcases (show r = 0 ∧ mKe = 1 by omega) with ⟨rfl, rfl⟩
        rfl
    · by_cases c : r = mKe
      · subst c; exact e_StOK hq h2.2 e'
      · exact e_StOK hq (u4 r (by omega)) (fun k hk => e r k hk (by omega))
  · have c : mKe = 2 := by omega
    subst c
    exact ⟨rfl, hT, p, q, d, h1, h2, h3, ⟨rfl, b2, u3, u4⟩, h4⟩
theorem E_back (tN : Int32) (tL : Nat → Int32) (vP : Int32) (vS : Int32) (vD : Int32) (vKi : Nat → Int32) (vMe : Nat → Int32) (vOw : Nat → Int32) (row : Nat → Int32) (uZ : Int32) (uR0 : Nat → Int32) (uR1 : Nat → Int32) (uR2 : Nat → Int32) (uR3 : Nat → Int32) (uR4 : Nat → Int32) (uR5 : Nat → Int32) (uR6 : Nat → Int32) (uR7 : Nat → Int32) (kZ : Int32) (kR0 : Nat → Int32) (kR1 : Nat → Int32) (cZ : Int32) (cPe : Nat → Int32) (cTa : Nat → Int32) (hZ : Int32) (hPe : Nat → Int32) (hLe : Nat → Int32) (hSh : Nat → Int32) (mTy : Nat) (mKn : Nat) (mKe : Nat) (mCa : Nat) (mSe : Nat) (mTx : Nat → Int32) (mTo : Nat → Int32) (mSt : Nat → Int32) (mPa : Nat → Int32) (mIm : Nat → Int32) (mWi : Nat → Int32) (mSn : Nat → Int32)  (hI : Inv tN tL vP vS vD vKi vMe vOw row uZ uR0 uR1 uR2 uR3 uR4 uR5 uR6 uR7 kZ kR0 kR1 cZ cPe cTa hZ hPe hLe hSh mTy mKn mKe mCa mSe mTx mTo mSt mPa mIm mWi mSn) : (f_X8_back kZ) = (f_X9_back mKe) ∧ Inv tN tL vP vS vD vKi vMe vOw (g_X8_back_row row kZ kR0 kR1) (g_X8_back_uZ uZ kZ) uR0 uR1 uR2 uR3 uR4 uR5 uR6 uR7 (g_X8_back_kZ kZ) kR0 kR1 cZ cPe cTa hZ hPe hLe hSh mTy (g_X9_back_mKn mKn mKe) (g_X9_back_mKe mKe) mCa mSe mTx mTo (g_X9_back_mSt mKe mSt mIm) mPa mIm mWi mSn := by
  obtain ⟨hT, p, q, d, h1, h2, ⟨v1, v2, v3, v4⟩, ⟨u1, b2, u3, u4⟩, h4⟩ := hI
  subst u1
  rcases mKe with _ | r
  · exact ⟨rfl, hT, p, q, d, h1, h2, ⟨v1, v2, v3, v4⟩, ⟨rfl, b2, u3, u4⟩, h4⟩
  · have n0 : ¬ nI (r + 1) = 0 := nI_ne0 (by omega) (by omega)
    have n1 : ¬ nI (r + 1) ≤ 0 := nI_nle (by omega) (by omega)
    have n2 : nI (r + 1) ≤ 2 := nI_le (b := 2) (by omega) (by decide)
    have n3 : ¬ (1 : Int32) = 0 := by decide
    have e : ∀ k, k < 15 → F_X9_back_22 r mIm mSt 15 k = mIm (15 * r + k) := fun k hk => by rw [e_ba, if_pos hk]
    simp only [f_X8_back, f_X9_back, g_X8_back_kZ, g_X8_back_uZ, g_X9_back_mKe, g_X9_back_mKn, g_X9_back_mSt, f_X4_pop2, g_X4_pop2_uZ, f_X4_size2, if_neg n0, if_neg n1, if_pos n2, if_neg n3, nI_pred, Nat.add_sub_cancel]
    refine ⟨trivial, hT, p, q, d, h1, ⟨fun k hk => ?_, e_StOK h1.1.2.2.1 (u4 r (by omega)) e⟩, ⟨rfl, Nat.zero_le _, fun k hk => absurd hk (Nat.not_lt_zero k), fun k hk => absurd hk (Nat.not_lt_zero k)⟩, ⟨rfl, by omega, fun r' h => u3 r' (by omega), fun r' h => u4 r' (by omega)⟩, h4⟩
    rw [e k hk, ← u3 r (by omega) k hk]
    rcases (show r = 0 ∨ r = 1 by omega) with rfl | rfl
    · show g_X6_copyFrom_row row kR0 k = kR0 k
      rw [g_X6_copyFrom_row, e_cf, if_pos hk]
    · show g_X6_copyFrom_row row kR1 k = kR1 k
      rw [g_X6_copyFrom_row, e_cf, if_pos hk]
theorem E_count (tN : Int32) (tL : Nat → Int32) (vP : Int32) (vS : Int32) (vD : Int32) (vKi : Nat → Int32) (vMe : Nat → Int32) (vOw : Nat → Int32) (row : Nat → Int32) (uZ : Int32) (uR0 : Nat → Int32) (uR1 : Nat → Int32) (uR2 : Nat → Int32) (uR3 : Nat → Int32) (uR4 : Nat → Int32) (uR5 : Nat → Int32) (uR6 : Nat → Int32) (uR7 : Nat → Int32) (kZ : Int32) (kR0 : Nat → Int32) (kR1 : Nat → Int32) (cZ : Int32) (cPe : Nat → Int32) (cTa : Nat → Int32) (hZ : Int32) (hPe : Nat → Int32) (hLe : Nat → Int32) (hSh : Nat → Int32) (mTy : Nat) (mKn : Nat) (mKe : Nat) (mCa : Nat) (mSe : Nat) (mTx : Nat → Int32) (mTo : Nat → Int32) (mSt : Nat → Int32) (mPa : Nat → Int32) (mIm : Nat → Int32) (mWi : Nat → Int32) (mSn : Nat → Int32) (p0 : Int32) (hI : Inv tN tL vP vS vD vKi vMe vOw row uZ uR0 uR1 uR2 uR3 uR4 uR5 uR6 uR7 kZ kR0 kR1 cZ cPe cTa hZ hPe hLe hSh mTy mKn mKe mCa mSe mTx mTo mSt mPa mIm mWi mSn) : (f_X8_count tN vP vS vD row uZ kZ cZ hZ p0) = (f_X9_count mTy mKn mKe mCa mSe mTo mSt p0) ∧ Inv tN tL vP vS vD vKi vMe vOw row uZ uR0 uR1 uR2 uR3 uR4 uR5 uR6 uR7 kZ kR0 kR1 cZ cPe cTa hZ hPe hLe hSh mTy mKn mKe mCa mSe mTx mTo mSt mPa mIm mWi mSn := sorry
