theorem e_in32 (a : Int32) : f_X9_in a 32 126 = if a < 32 then 0 else if a ≤ 126 then 1 else 0 := by
  unfold f_X9_in
  by_cases h1 : a < 32
  · rw [if_pos h1, if_pos h1]
  · rw [if_neg h1, if_neg h1]
    by_cases h2 : a ≤ 126
    · rw [if_pos h2, if_neg (Int32.not_lt.mpr h2)]
    · rw [if_neg h2, if_pos (Int32.not_le.mp h2)]
theorem e_ch1 : ∀ j : Nat, j < 127 → vp_nar .char ((Int32.toUInt32 (nI j) % 65536).toInt32) = nI j ∧ narrow .char (.int (nI j)) = .int (nI j) := by decide +kernel
theorem e_ch {a : Int32} (h1 : ¬ a < 32) (h2 : a ≤ 126) : ∃ ch : Nat, 32 ≤ ch ∧ ch ≤ 126 ∧ a = nI ch := by
  obtain ⟨j, hj, rfl⟩ := nI_of2 (x := a) (M := 126) (n := 126) rfl (fun q => h1 (Int32.lt_trans q (by decide))) h2
  refine ⟨j, ?_, hj, rfl⟩
  rcases Nat.lt_or_ge j 32 with q | q
  · exact absurd (nI_lt q (by decide)) h1
  · exact q
theorem E_write (tN : Int32) (tL : Nat → Int32) (vP : Int32) (vS : Int32) (vD : Int32) (vKi : Nat → Int32) (vMe : Nat → Int32) (vOw : Nat → Int32) (row : Nat → Int32) (uZ : Int32) (uR0 : Nat → Int32) (uR1 : Nat → Int32) (uR2 : Nat → Int32) (uR3 : Nat → Int32) (uR4 : Nat → Int32) (uR5 : Nat → Int32) (uR6 : Nat → Int32) (uR7 : Nat → Int32) (kZ : Int32) (kR0 : Nat → Int32) (kR1 : Nat → Int32) (cZ : Int32) (cPe : Nat → Int32) (cTa : Nat → Int32) (hZ : Int32) (hPe : Nat → Int32) (hLe : Nat → Int32) (hSh : Nat → Int32) (mTy : Nat) (mKn : Nat) (mKe : Nat) (mCa : Nat) (mSe : Nat) (mTx : Nat → Int32) (mTo : Nat → Int32) (mSt : Nat → Int32) (mPa : Nat → Int32) (mIm : Nat → Int32) (mWi : Nat → Int32) (mSn : Nat → Int32) (p0 : Int32) (hI : Inv tN tL vP vS vD vKi vMe vOw row uZ uR0 uR1 uR2 uR3 uR4 uR5 uR6 uR7 kZ kR0 kR1 cZ cPe cTa hZ hPe hLe hSh mTy mKn mKe mCa mSe mTx mTo mSt mPa mIm mWi mSn) : (f_X8_write tN p0) = (f_X9_write mTy p0) ∧ Inv (g_X8_write_tN tN p0) (g_X8_write_tL tN tL p0) vP vS vD vKi vMe vOw row uZ uR0 uR1 uR2 uR3 uR4 uR5 uR6 uR7 kZ kR0 kR1 cZ cPe cTa hZ hPe hLe hSh (g_X9_write_mTy mTy p0) mKn mKe mCa mSe (g_X9_write_mTx mTy mTx p0) mTo mSt mPa mIm mWi mSn := by
  obtain ⟨⟨h1, h2, h3, h4⟩, h⟩ := hI
  subst h1
  by_cases c1 : p0 < 32
  · simp only [f_X8_write, f_X9_write, g_X8_write_tN, g_X8_write_tL, g_X9_write_mTy, g_X9_write_mTx, e_in32, if_pos c1, if_true]
    exact ⟨trivial, ⟨rfl, h2, h3, h4⟩, h⟩
  · by_cases c2 : p0 ≤ 126
    · obtain ⟨ch, a1, a2, rfl⟩ := e_ch c1 c2
      have n1 : ¬ (1 : Int32) = 0 := by decide
      rcases Nat.lt_or_ge mTy 200 with q | q
      · have d1 : ¬ nI mTy < 0 := nI_pos (by omega)
        have d2 : nI mTy < 200 := nI_lt q (by decide)
        have d3 : ¬ nI mTy = 200 := fun w => by rw [w] at d2; exact absurd d2 (by decide)
        simp only [f_X8_write, f_X9_write, g_X8_write_tN, g_X8_write_tL, g_X9_write_mTy, g_X9_write_mTx, e_in32, f_X3_add, g_X3_add_tN, g_X3_add_tL, f_X3_size, if_neg c1, if_pos c2, if_neg n1, if_neg d1, if_pos d2, if_neg d3, nI_1, (e_ch1 ch (by omega)).1, nI_clamp (show mTy < 2 ^ 31 by omega)]
        refine ⟨trivial, ⟨rfl, by omega, fun k => ?_, fun k hk => ?_⟩, h⟩
        · unfold upd; split
          · exact (e_ch1 ch (by omega)).2
          · exact h3 k
        · unfold upd
          by_cases e : k = mTy
          · exact ⟨ch, a1, a2, by rw [if_pos e], by rw [if_pos e]⟩
          · rw [if_neg e, if_neg e]; exact h4 k (by omega)
      · have e : mTy = 200 := by omega
        subst e
        have d1 : ¬ nI 200 < 0 := by decide
        have d2 : ¬ nI 200 < 200 := by decide
        have d3 : nI 200 = 200 := rfl
        simp only [f_X8_write, f_X9_write, g_X8_write_tN, g_X8_write_tL, g_X9_write_mTy, g_X9_write_mTx, e_in32, f_X3_add, g_X3_add_tN, g_X3_add_tL, f_X3_size, if_neg c1, if_pos c2, if_neg n1, if_neg d1, if_neg d2, if_pos d3, if_true]
        exact ⟨trivial, ⟨rfl, h2, h3, h4⟩, h⟩
    · simp only [f_X8_write, f_X9_write, g_X8_write_tN, g_X8_write_tL, g_X9_write_mTy, g_X9_write_mTx, e_in32, if_neg c1, if_neg c2, if_true]
      exact ⟨trivial, ⟨rfl, h2, h3, h4⟩, h⟩
theorem E_wipe (tN : Int32) (tL : Nat → Int32) (vP : Int32) (vS : Int32) (vD : Int32) (vKi : Nat → Int32) (vMe : Nat → Int32) (vOw : Nat → Int32) (row : Nat → Int32) (uZ : Int32) (uR0 : Nat → Int32) (uR1 : Nat → Int32) (uR2 : Nat → Int32) (uR3 : Nat → Int32) (uR4 : Nat → Int32) (uR5 : Nat → Int32) (uR6 : Nat → Int32) (uR7 : Nat → Int32) (kZ : Int32) (kR0 : Nat → Int32) (kR1 : Nat → Int32) (cZ : Int32) (cPe : Nat → Int32) (cTa : Nat → Int32) (hZ : Int32) (hPe : Nat → Int32) (hLe : Nat → Int32) (hSh : Nat → Int32) (mTy : Nat) (mKn : Nat) (mKe : Nat) (mCa : Nat) (mSe : Nat) (mTx : Nat → Int32) (mTo : Nat → Int32) (mSt : Nat → Int32) (mPa : Nat → Int32) (mIm : Nat → Int32) (mWi : Nat → Int32) (mSn : Nat → Int32)  (hI : Inv tN tL vP vS vD vKi vMe vOw row uZ uR0 uR1 uR2 uR3 uR4 uR5 uR6 uR7 kZ kR0 kR1 cZ cPe cTa hZ hPe hLe hSh mTy mKn mKe mCa mSe mTx mTo mSt mPa mIm mWi mSn) : (f_X8_wipe tN) = (f_X9_wipe mTy) ∧ Inv g_X8_wipe_tN tL vP vS vD vKi vMe vOw row uZ uR0 uR1 uR2 uR3 uR4 uR5 uR6 uR7 kZ kR0 kR1 cZ cPe cTa hZ hPe hLe hSh g_X9_wipe_mTy mKn mKe mCa mSe mTx mTo mSt mPa mIm mWi mSn := by
  obtain ⟨⟨h1, h2, h3, h4⟩, h⟩ := hI
  refine ⟨h1, ⟨rfl, Nat.zero_le _, h3, fun k hk => absurd hk (Nat.not_lt_zero k)⟩, h⟩
theorem E_fault (tN : Int32) (tL : Nat → Int32) (rn : Int32) (vP : Int32) (vS : Int32) (vD : Int32) (vKi : Nat → Int32) (vMe : Nat → Int32) (vOw : Nat → Int32) (dAg : Nat → Int32) (dKi : Nat → Int32) (dMe : Nat → Int32) (dOw : Nat → Int32) (dFk : Nat → Int32) (row : Nat → Int32) (uZ : Int32) (uR0 : Nat → Int32) (uR1 : Nat → Int32) (uR2 : Nat → Int32) (uR3 : Nat → Int32) (uR4 : Nat → Int32) (uR5 : Nat → Int32) (uR6 : Nat → Int32) (uR7 : Nat → Int32) (kZ : Int32) (kR0 : Nat → Int32) (kR1 : Nat → Int32) (cZ : Int32) (cPe : Nat → Int32) (cTa : Nat → Int32) (hZ : Int32) (hPe : Nat → Int32) (hLe : Nat → Int32) (hSh : Nat → Int32) (mTy : Nat) (mKn : Nat) (mKe : Nat) (mCa : Nat) (mSe : Nat) (mFi : Int32) (mSc : Int32) (mTx : Nat → Int32) (mTo : Nat → Int32) (mDr : Nat → Int32) (mSt : Nat → Int32) (mPa : Nat → Int32) (mIm : Nat → Int32) (mWi : Nat → Int32) (mSn : Nat → Int32)  (hI : Inv tN tL vP vS vD vKi vMe vOw row uZ uR0 uR1 uR2 uR3 uR4 uR5 uR6 uR7 kZ kR0 kR1 cZ cPe cTa hZ hPe hLe hSh mTy mKn mKe mCa mSe mTx mTo mSt mPa mIm mWi mSn) : (f_X8_fault tN tL rn dAg dKi dMe dOw dFk) = (f_X9_fault mTy mFi mSc mTx mDr) ∧ Inv tN tL vP vS vD vKi vMe vOw row uZ uR0 uR1 uR2 uR3 uR4 uR5 uR6 uR7 kZ kR0 kR1 cZ cPe cTa hZ hPe hLe hSh mTy mKn mKe mCa mSe mTx mTo mSt mPa mIm mWi mSn := by
  refine ⟨?_, hI⟩
  obtain ⟨hT, -⟩ := hI
  unfold f_X8_fault f_X9_fault
  rcases rd (tx_of hT) rn mFi mSc dAg dKi dMe dOw dFk mDr with ⟨b, -, e1, e2⟩ | ⟨e1, e2, -⟩
  · rw [e1, e2]
  · rw [e1, e2]
theorem E_lay (tN : Int32) (tL : Nat → Int32) (rn : Int32) (vP : Int32) (vS : Int32) (vD : Int32) (vAg : Nat → Int32) (vKi : Nat → Int32) (vMe : Nat → Int32) (vOw : Nat → Int32) (vFk : Nat → Int32) (dAg : Nat → Int32) (dKi : Nat → Int32) (dMe : Nat → Int32) (dOw : Nat → Int32) (dFk : Nat → Int32) (row : Nat → Int32) (uZ : Int32) (uR0 : Nat → Int32) (uR1 : Nat → Int32) (uR2 : Nat → Int32) (uR3 : Nat → Int32) (uR4 : Nat → Int32) (uR5 : Nat → Int32) (uR6 : Nat → Int32) (uR7 : Nat → Int32) (kZ : Int32) (kR0 : Nat → Int32) (kR1 : Nat → Int32) (cZ : Int32) (cPe : Nat → Int32) (cTa : Nat → Int32) (hZ : Int32) (hPe : Nat → Int32) (hLe : Nat → Int32) (hSh : Nat → Int32) (mTy : Nat) (mKn : Nat) (mKe : Nat) (mCa : Nat) (mSe : Nat) (mFi : Int32) (mSc : Int32) (mTx : Nat → Int32) (mTo : Nat → Int32) (mDr : Nat → Int32) (mSt : Nat → Int32) (mPa : Nat → Int32) (mIm : Nat → Int32) (mWi : Nat → Int32) (mSn : Nat → Int32)  (hI : Inv tN tL vP vS vD vKi vMe vOw row uZ uR0 uR1 uR2 uR3 uR4 uR5 uR6 uR7 kZ kR0 kR1 cZ cPe cTa hZ hPe hLe hSh mTy mKn mKe mCa mSe mTx mTo mSt mPa mIm mWi mSn) : (f_X8_lay tN tL rn vAg vKi vMe vOw vFk dAg dKi dMe dOw dFk) = (f_X9_lay mTy mFi mSc mTx mTo mDr) ∧ Inv tN tL (g_X8_lay_vP tN tL rn vP vAg vKi vMe vOw vFk dAg dKi dMe dOw dFk) (g_X8_lay_vS tN tL rn vS vAg vKi vMe vOw vFk dAg dKi dMe dOw dFk) (g_X8_lay_vD tN tL rn vD vAg vKi vMe vOw vFk dAg dKi dMe dOw dFk) (g_X8_lay_vKi tN tL rn vAg vKi vMe vOw vFk dAg dKi dMe dOw dFk) (g_X8_lay_vMe tN tL rn vAg vKi vMe vOw vFk dAg dKi dMe dOw dFk) (g_X8_lay_vOw tN tL rn vAg vKi vMe vOw vFk dAg dKi dMe dOw dFk) (g_X8_lay_row tN tL rn vAg vKi vMe vOw vFk dAg dKi dMe dOw dFk row) (g_X8_lay_uZ tN tL rn dAg dKi dMe dOw dFk uZ) uR0 uR1 uR2 uR3 uR4 uR5 uR6 uR7 (g_X8_lay_kZ tN tL rn dAg dKi dMe dOw dFk kZ) kR0 kR1 (g_X8_lay_cZ tN tL rn dAg dKi dMe dOw dFk cZ) cPe cTa (g_X8_lay_hZ tN tL rn dAg dKi dMe dOw dFk hZ) hPe hLe hSh mTy (g_X9_lay_mKn mTy mKn mFi mSc mTx mDr) (g_X9_lay_mKe mTy mKe mFi mSc mTx mDr) (g_X9_lay_mCa mTy mCa mFi mSc mTx mDr) (g_X9_lay_mSe mTy mSe mFi mSc mTx mDr) mTx (g_X9_lay_mTo mTy mFi mSc mTx mTo mDr) (g_X9_lay_mSt mTy mFi mSc mTx mTo mDr mSt) mPa mIm mWi mSn := by
  obtain ⟨hT, p, q, d, h1, h2, h3, h4, h5, h6⟩ := id hI
  have hT' := tx_of hT
  have hn := hT.2.1
  rcases rd hT' rn mFi mSc dAg dKi dMe dOw dFk mDr with ⟨b, hb, e1, e2⟩ | ⟨e1, e2, p1, q1, hD⟩
  · have n4 : ¬ nI b = -4 := fun w => by
      have := congrArg Int32.toInt w
      rw [nI_toInt (by omega)] at this
      have h4 : (-4 : Int32).toInt = -4 := by decide
      omega
    simp only [f_X8_lay, f_X9_lay, g_X8_lay_vP, g_X8_lay_vS, g_X8_lay_vD, g_X8_lay_vKi, g_X8_lay_vMe, g_X8_lay_vOw, g_X8_lay_row, g_X8_lay_uZ, g_X8_lay_kZ, g_X8_lay_cZ, g_X8_lay_hZ, g_X9_lay_mKn, g_X9_lay_mKe, g_X9_lay_mCa, g_X9_lay_mSe, g_X9_lay_mTo, g_X9_lay_mSt, e1, e2, if_neg n4, cl_0, if_true]
    exact ⟨trivial, hI⟩
  · have c6 := cl_6 hD 6 0 (by omega)
    have c9 := cl_9 (g_X9_reads_mDr mTy mFi mSc mTx mDr) p1 0
    have hp1 := hD.1.1
    have h0 : g_X9_reads_mDr mTy mFi mSc mTx mDr 0 = nI p1 := hD.1.2.2.2.1
    rw [Nat.zero_add] at c6 c9
    have t0 : Int32.toNatClampNeg (nI p1) = p1 := nI_clamp (by omega)
    have n4 : (-4 : Int32) = -4 := rfl
    by_cases z : p1 = 0
    · have z6 : f_X7_canLive (g_X2_readAll_vP rn tN tL dAg dKi dMe dOw dFk) (g_X2_readAll_vD rn tN tL dAg dKi dMe dOw dFk) (g_X2_readAll_vAg rn tN tL dAg dKi dMe dOw dFk) = 0 := c6.mpr (.inl z)
      have z9 : nI p1 ≤ 0 := by rw [z]; decide
      simp only [f_X8_lay, f_X9_lay, g_X8_lay_vP, g_X8_lay_vS, g_X8_lay_vD, g_X8_lay_vKi, g_X8_lay_vMe, g_X8_lay_vOw, g_X8_lay_row, g_X8_lay_uZ, g_X8_lay_kZ, g_X8_lay_cZ, g_X8_lay_hZ, g_X9_lay_mKn, g_X9_lay_mKe, g_X9_lay_mCa, g_X9_lay_mSe, g_X9_lay_mTo, g_X9_lay_mSt, e1, e2, if_pos n4, z6, h0, if_pos z9, cl_0, if_true]
      exact ⟨trivial, hI⟩
    · have z9 : ¬ nI p1 ≤ 0 := nI_nle (by omega) (by omega)
      by_cases y : ∃ i, 0 ≤ i ∧ i < p1 ∧ g_X9_reads_mDr mTy mFi mSc mTx mDr 2 ≤ g_X9_reads_mDr mTy mFi mSc mTx mDr (3 + i)
      · have z6 : f_X7_canLive (g_X2_readAll_vP rn tN tL dAg dKi dMe dOw dFk) (g_X2_readAll_vD rn tN tL dAg dKi dMe dOw dFk) (g_X2_readAll_vAg rn tN tL dAg dKi dMe dOw dFk) = 0 := c6.mpr (by
          obtain ⟨i, a1, a2, a3⟩ := y
          exact .inr ⟨i, a1, by omega, a2, a3⟩)
        have y9 := c9.mpr y
        simp only [f_X8_lay, f_X9_lay, g_X8_lay_vP, g_X8_lay_vS, g_X8_lay_vD, g_X8_lay_vKi, g_X8_lay_vMe, g_X8_lay_vOw, g_X8_lay_row, g_X8_lay_uZ, g_X8_lay_kZ, g_X8_lay_cZ, g_X8_lay_hZ, g_X9_lay_mKn, g_X9_lay_mKe, g_X9_lay_mCa, g_X9_lay_mSe, g_X9_lay_mTo, g_X9_lay_mSt, e1, e2, if_pos n4, z6, h0, if_neg z9, t0, y9, if_true]
        exact ⟨trivial, hI⟩
      · have z6 : ¬ f_X7_canLive (g_X2_readAll_vP rn tN tL dAg dKi dMe dOw dFk) (g_X2_readAll_vD rn tN tL dAg dKi dMe dOw dFk) (g_X2_readAll_vAg rn tN tL dAg dKi dMe dOw dFk) = 0 := fun w => by
          rcases c6.mp w with w | ⟨i, a1, a2, a3, a4⟩
          · exact z w
          · exact y ⟨i, a1, a3, a4⟩
        have y9 : ¬ L_X9_lay_26 (g_X9_reads_mDr mTy mFi mSc mTx mDr) p1 0 1 = 0 := fun w => y (c9.mp w)
        simp only [f_X8_lay, f_X9_lay, g_X8_lay_vP, g_X8_lay_vS, g_X8_lay_vD, g_X8_lay_vKi, g_X8_lay_vMe, g_X8_lay_vOw, g_X8_lay_row, g_X8_lay_uZ, g_X8_lay_kZ, g_X8_lay_cZ, g_X8_lay_hZ, g_X9_lay_mKn, g_X9_lay_mKe, g_X9_lay_mCa, g_X9_lay_mSe, g_X9_lay_mTo, g_X9_lay_mSt, e1, e2, if_pos n4, if_neg z6, h0, if_neg z9, t0, if_neg y9, if_true]
        rcases rd hT' (g_X2_readAll_rn rn tN tL dAg dKi dMe dOw dFk) mFi mSc vAg vKi vMe vOw vFk mDr with ⟨b, hb, f1, f2⟩ | ⟨f1, f2, p2, q2, hD2⟩
        · rw [e2] at f2
          have := congrArg Int32.toInt f2
          rw [nI_toInt (by omega)] at this
          have h4 : (-4 : Int32).toInt = -4 := by decide
          omega
        · have hm : ∀ k, k < 37 → g_X9_lays_mTo mTo (g_X9_reads_mDr mTy mFi mSc mTx mDr) k = g_X9_reads_mDr mTy mFi mSc mTx mDr k := fun k hk => by
            unfold g_X9_lays_mTo; rw [b_la, if_pos hk]
          have hp2 : p2 = p1 := by
            have a := hD2.1.2.2.2.1
            rw [h0] at a
            have := hD2.1.1
            exact ((nI_eq (by omega) (by omega)).mp a).symm
          obtain ⟨d2, hv⟩ := dr_V hD2 (by omega) hm
          refine ⟨?_, hT, p2, q2, d2, hv, dr_S hD2 hm row mSt, ⟨rfl, by decide, fun r hr => absurd hr (Nat.not_lt_zero _), fun r hr => absurd hr (Nat.not_lt_zero _)⟩, ⟨rfl, by decide, fun r hr => absurd hr (Nat.not_lt_zero _), fun r hr => absurd hr (Nat.not_lt_zero _)⟩, ⟨rfl, by decide, fun r hr => absurd hr (Nat.not_lt_zero _), h5.2.2.2⟩, ⟨rfl, by decide, fun r hr => absurd hr (Nat.not_lt_zero _)⟩⟩
          rw [hm 0 (by decide), h0, ← hp2]
          exact hD2.1.2.2.1
theorem E_person (tN : Int32) (tL : Nat → Int32) (vP : Int32) (vS : Int32) (vD : Int32) (vKi : Nat → Int32) (vMe : Nat → Int32) (vOw : Nat → Int32) (row : Nat → Int32) (uZ : Int32) (uR0 : Nat → Int32) (uR1 : Nat → Int32) (uR2 : Nat → Int32) (uR3 : Nat → Int32) (uR4 : Nat → Int32) (uR5 : Nat → Int32) (uR6 : Nat → Int32) (uR7 : Nat → Int32) (kZ : Int32) (kR0 : Nat → Int32) (kR1 : Nat → Int32) (cZ : Int32) (cPe : Nat → Int32) (cTa : Nat → Int32) (hZ : Int32) (hPe : Nat → Int32) (hLe : Nat → Int32) (hSh : Nat → Int32) (mTy : Nat) (mKn : Nat) (mKe : Nat) (mCa : Nat) (mSe : Nat) (mTx : Nat → Int32) (mTo : Nat → Int32) (mSt : Nat → Int32) (mPa : Nat → Int32) (mIm : Nat → Int32) (mWi : Nat → Int32) (mSn : Nat → Int32) (p0 : Int32) (p1 : Int32) (hI : Inv tN tL vP vS vD vKi vMe vOw row uZ uR0 uR1 uR2 uR3 uR4 uR5 uR6 uR7 kZ kR0 kR1 cZ cPe cTa hZ hPe hLe hSh mTy mKn mKe mCa mSe mTx mTo mSt mPa mIm mWi mSn) : (f_X8_person vP vS vD vKi vMe vOw row p0 p1) = (f_X9_person mTo mSt p0 p1) ∧ Inv tN tL vP vS vD vKi vMe vOw row uZ uR0 uR1 uR2 uR3 uR4 uR5 uR6 uR7 kZ kR0 kR1 cZ cPe cTa hZ hPe hLe hSh mTy mKn mKe mCa mSe mTx mTo mSt mPa mIm mWi mSn := by
  obtain ⟨hT, p, q, d, h1, h2, h⟩ := id hI
  refine ⟨?_, hI⟩
  have hp := h1.1.2.1
  have hq := h1.1.2.2.1
  unfold f_X8_person f_X9_person
  rcases e_hasP (p0 := p0) hp h1.2.1.1 h1.2.1.2.1 with ⟨a, b⟩ | ⟨k, hk, rfl, a, b⟩
  · rw [a, b]; rfl
  · rw [a, b, if_neg i1, if_neg i1, s_meet6 h1 h2.1 (by omega), s_meet9 h1 hk, v_kt h1 h2.1 h2.2 hk, (v_so h1 hk).1, (v_so h1 hk).2, s_al6 h1 h2.1 (by omega), s_al9 h1 hk, f_X6_ageOf, a, if_neg i1, nI_clamp (by omega), h2.1 k (by omega), s_kind6 h1 hk]
theorem e_in01 (a : Int32) : f_X9_in a 0 1 = 0 ↔ (a ≠ 0 ∧ a ≠ 1) := by
  unfold f_X9_in
  by_cases c : a < 0
  · rw [if_pos c]
    exact ⟨fun _ => ⟨fun w => by rw [w] at c; exact absurd c (by decide), fun w => by rw [w] at c; exact absurd c (by decide)⟩, fun _ => rfl⟩
  · obtain ⟨j, hj, rfl⟩ := nI_of c
    rw [if_neg c]
    rcases Nat.lt_or_ge 1 j with w | w
    · rw [if_pos (show (1 : Int32) < nI j from nI_lt (a := 1) w hj)]
      exact ⟨fun _ => ⟨fun e => absurd ((nI_eq hj (b := 0) (by decide)).mp e) (by omega), fun e => absurd ((nI_eq hj (b := 1) (by decide)).mp e) (by omega)⟩, fun _ => rfl⟩
    · rcases (show j = 0 ∨ j = 1 by omega) with rfl | rfl <;> decide
theorem E_secret (tN : Int32) (tL : Nat → Int32) (vP : Int32) (vS : Int32) (vD : Int32) (vKi : Nat → Int32) (vMe : Nat → Int32) (vOw : Nat → Int32) (row : Nat → Int32) (uZ : Int32) (uR0 : Nat → Int32) (uR1 : Nat → Int32) (uR2 : Nat → Int32) (uR3 : Nat → Int32) (uR4 : Nat → Int32) (uR5 : Nat → Int32) (uR6 : Nat → Int32) (uR7 : Nat → Int32) (kZ : Int32) (kR0 : Nat → Int32) (kR1 : Nat → Int32) (cZ : Int32) (cPe : Nat → Int32) (cTa : Nat → Int32) (hZ : Int32) (hPe : Nat → Int32) (hLe : Nat → Int32) (hSh : Nat → Int32) (mTy : Nat) (mKn : Nat) (mKe : Nat) (mCa : Nat) (mSe : Nat) (mTx : Nat → Int32) (mTo : Nat → Int32) (mSt : Nat → Int32) (mPa : Nat → Int32) (mIm : Nat → Int32) (mWi : Nat → Int32) (mSn : Nat → Int32) (p0 : Int32) (p1 : Int32) (hI : Inv tN tL vP vS vD vKi vMe vOw row uZ uR0 uR1 uR2 uR3 uR4 uR5 uR6 uR7 kZ kR0 kR1 cZ cPe cTa hZ hPe hLe hSh mTy mKn mKe mCa mSe mTx mTo mSt mPa mIm mWi mSn) : (f_X8_secret vS vOw row p0 p1) = (f_X9_secret mTo mSt p0 p1) ∧ Inv tN tL vP vS vD vKi vMe vOw row uZ uR0 uR1 uR2 uR3 uR4 uR5 uR6 uR7 kZ kR0 kR1 cZ cPe cTa hZ hPe hLe hSh mTy mKn mKe mCa mSe mTx mTo mSt mPa mIm mWi mSn := by
  obtain ⟨hT, p, q, d, h1, h2, h⟩ := id hI
  refine ⟨?_, hI⟩
  obtain ⟨⟨-, -, hq, -, -⟩, ⟨-, -, hS, hS', -, -⟩, -, -, hO, -⟩ := h1
  unfold f_X8_secret f_X9_secret
  rcases e_hasS (p0 := p0) hq hS hS' with ⟨a, b⟩ | ⟨k, hk, rfl, a, b⟩
  · rw [a, b]; rfl
  · have n1 : ¬ (1 : Int32) = 0 := by decide
    obtain ⟨o, ho, o1, o2⟩ := hO k hk
    simp only [f_X7_ownerOf, f_X6_knowersOf, a, b, if_neg n1, nI_clamp (show k < 2 ^ 31 by omega)]
    rw [show (6 : Int32) + nI k = nI (6 + k) from nI_add 6 k, nI_clamp (show 6 + k < 2 ^ 31 by omega), o1, o2, h2.1 (6 + k) (by omega)]
    by_cases c0 : p1 = 0
    · subst c0; rfl
    · by_cases c1 : p1 = 1
      · subst c1; rfl
      · rw [if_neg c0, if_neg c1, if_pos ((e_in01 p1).mpr ⟨c0, c1⟩)]
theorem v_nat (x : Int32) : x = nI x.toBitVec.toNat := by
  apply Int32.toBitVec_inj.mp
  show x.toBitVec = BitVec.ofNat 32 x.toBitVec.toNat
  rw [BitVec.ofNat_toNat, BitVec.setWidth_eq]
theorem v_nz {z : Nat} (hz : z < 2 ^ 32) (h : nI z = 0) : z = 0 := by
  have e := congrArg (fun x => x.toBitVec.toNat) h
  have e' : (BitVec.ofNat 32 z).toNat = 0 := e
  rw [BitVec.toNat_ofNat, Nat.mod_eq_of_lt hz] at e'
  exact e'
theorem v_sub {x : Int32} {M : Nat} (h : x &&& (nI M ^^^ (-1)) = 0) : ∃ T, x = nI T ∧ ∀ j, T.testBit j = true → M.testBit j = true := by
  have hx : x.toBitVec.toNat < 2 ^ 32 := x.toBitVec.isLt
  refine ⟨x.toBitVec.toNat, v_nat x, fun j hj => ?_⟩
  rw [v_nat x, zb_not] at h
  have z := v_nz (Nat.lt_of_le_of_lt (zb_an_le _ _) hx) h
  have w := zb_an_bit M hx j
  rw [z, Nat.zero_testBit, hj] at w
  simpa using w.symm
theorem v_lt {T M n : Nat} (hM : M < 2 ^ n) (h : ∀ j, T.testBit j = true → M.testBit j = true) : T < 2 ^ n := by
  have e : T &&& M = T := Nat.eq_of_testBit_eq (fun j => by
    rw [Nat.testBit_and]
    cases w : T.testBit j
    · rfl
    · rw [h j w]; rfl)
  rw [← e]; exact Nat.and_lt_two_pow _ hM
theorem v_163 : ∀ T, T < 64 → 0 < T → f_X9_in (nI T) 1 63 = 1 := by decide +kernel
theorem E_tell (tN : Int32) (tL : Nat → Int32) (vP : Int32) (vS : Int32) (vD : Int32) (vKi : Nat → Int32) (vMe : Nat → Int32) (vOw : Nat → Int32) (row : Nat → Int32) (uZ : Int32) (uR0 : Nat → Int32) (uR1 : Nat → Int32) (uR2 : Nat → Int32) (uR3 : Nat → Int32) (uR4 : Nat → Int32) (uR5 : Nat → Int32) (uR6 : Nat → Int32) (uR7 : Nat → Int32) (kZ : Int32) (kR0 : Nat → Int32) (kR1 : Nat → Int32) (cZ : Int32) (cPe : Nat → Int32) (cTa : Nat → Int32) (hZ : Int32) (hPe : Nat → Int32) (hLe : Nat → Int32) (hSh : Nat → Int32) (mTy : Nat) (mKn : Nat) (mKe : Nat) (mCa : Nat) (mSe : Nat) (mTx : Nat → Int32) (mTo : Nat → Int32) (mSt : Nat → Int32) (mPa : Nat → Int32) (mIm : Nat → Int32) (mWi : Nat → Int32) (mSn : Nat → Int32) (p0 : Int32) (p1 : Int32) (p2 : Int32) (hI : Inv tN tL vP vS vD vKi vMe vOw row uZ uR0 uR1 uR2 uR3 uR4 uR5 uR6 uR7 kZ kR0 kR1 cZ cPe cTa hZ hPe hLe hSh mTy mKn mKe mCa mSe mTx mTo mSt mPa mIm mWi mSn) : (f_X8_tell vP vS vD vMe row p0 p1 p2) = (f_X9_tell mTo mSt p0 p1 p2) ∧ Inv tN tL vP vS vD vKi vMe vOw (g_X8_tell_row vP vS vD vKi vMe vOw row p0 p1 p2) (g_X8_tell_uZ vP vS vD vMe row uZ p0 p1 p2) (g_X8_tell_uR0 vP vS vD vMe row uZ uR0 uR1 p0 p1 p2) (g_X8_tell_uR1 vP vS vD vMe row uZ uR1 uR2 p0 p1 p2) (g_X8_tell_uR2 vP vS vD vMe row uZ uR2 uR3 p0 p1 p2) (g_X8_tell_uR3 vP vS vD vMe row uZ uR3 uR4 p0 p1 p2) (g_X8_tell_uR4 vP vS vD vMe row uZ uR4 uR5 p0 p1 p2) (g_X8_tell_uR5 vP vS vD vMe row uZ uR5 uR6 p0 p1 p2) (g_X8_tell_uR6 vP vS vD vMe row uZ uR6 uR7 p0 p1 p2) (g_X8_tell_uR7 vP vS vD vMe row uZ uR7 p0 p1 p2) kZ kR0 kR1 cZ cPe cTa hZ hPe hLe hSh mTy (g_X9_tell_mKn mKn mTo mSt p0 p1 p2) mKe mCa mSe mTx mTo (g_X9_tell_mSt mTo mSt p0 p1 p2) (g_X9_tell_mPa mKn mTo mSt mPa p0 p1 p2) mIm mWi mSn := by
  obtain ⟨hT, p, q, d, h1, h2, h3, h⟩ := id hI
  have hp := h1.1.2.1
  have hq := h1.1.2.2.1
  have h64 := p64 hp
  rcases e_hasP (p0 := p0) hp h1.2.1.1 h1.2.1.2.1 with ⟨a, b⟩ | ⟨i, hi, rfl, a, b⟩
  · simp only [f_X8_tell, f_X9_tell, g_X8_tell_row, g_X8_tell_uZ, g_X8_tell_uR0, g_X8_tell_uR1, g_X8_tell_uR2, g_X8_tell_uR3, g_X8_tell_uR4, g_X8_tell_uR5, g_X8_tell_uR6, g_X8_tell_uR7, g_X9_tell_mKn, g_X9_tell_mSt, g_X9_tell_mPa, a, b, if_true]
    exact ⟨trivial, hI⟩
  rcases e_hasS (p0 := p1) hq h1.2.1.2.2.1 h1.2.1.2.2.2.1 with ⟨e, f⟩ | ⟨k, hk, rfl, e, f⟩
  · simp only [f_X8_tell, f_X9_tell, g_X8_tell_row, g_X8_tell_uZ, g_X8_tell_uR0, g_X8_tell_uR1, g_X8_tell_uR2, g_X8_tell_uR3, g_X8_tell_uR4, g_X8_tell_uR5, g_X8_tell_uR6, g_X8_tell_uR7, g_X9_tell_mKn, g_X9_tell_mSt, g_X9_tell_mPa, a, b, if_neg i1, e, f, if_true]
    exact ⟨trivial, hI⟩
  have m6 := s_meet6 h1 h2.1 (i := i) (by omega)
  have m9 := s_meet9 (st := mSt) h1 hi
  by_cases z : p2 = 0
  · have z9 : f_X9_in p2 1 63 = 0 := by subst z; decide
    simp only [f_X8_tell, f_X9_tell, g_X8_tell_row, g_X8_tell_uZ, g_X8_tell_uR0, g_X8_tell_uR1, g_X8_tell_uR2, g_X8_tell_uR3, g_X8_tell_uR4, g_X8_tell_uR5, g_X8_tell_uR6, g_X8_tell_uR7, g_X9_tell_mKn, g_X9_tell_mSt, g_X9_tell_mPa, a, b, if_neg i1, e, f, if_pos z, z9, if_true]
    exact ⟨trivial, hI⟩
  by_cases y : p2 &&& (nI (zM mTo (zA (mTo 2) mSt p) i) ^^^ (-1)) = 0
  · obtain ⟨T, rfl, hTM⟩ := v_sub y
    have hM := zM_lt mTo (zA_lt (mTo 2) mSt p) i
    have hT2 := v_lt hM hTM
    have z9 : f_X9_in (nI T) 1 63 = 1 := v_163 T (by omega) (Nat.pos_of_ne_zero (fun w => z (by rw [w]; rfl)))
    have k6 := s_knows6 h1 h2.1 h2.2 (i := i) (by omega) hk
    have k9 := s_knows9 hq hp h2.2 (i := i) (by omega) hk
    by_cases kn : (zK mSt k).testBit i = true
    · rw [if_pos kn] at k6 k9
      obtain ⟨t1, t2, t3, -, -⟩ := t_tells h1 h2.1 h2.2 hi hk (fun j w => (zM_bit mTo (hTM j w)).2)
      simp only [f_X8_tell, f_X9_tell, g_X8_tell_row, g_X8_tell_uZ, g_X8_tell_uR0, g_X8_tell_uR1, g_X8_tell_uR2, g_X8_tell_uR3, g_X8_tell_uR4, g_X8_tell_uR5, g_X8_tell_uR6, g_X8_tell_uR7, g_X9_tell_mKn, g_X9_tell_mSt, g_X9_tell_mPa, a, b, if_neg i1, e, f, if_neg z, z9, m6, m9, if_pos y, k6, k9]
      exact ⟨t3, hT, p, q, d, h1, ⟨t1, t2⟩, v_keep hq h3 h2, h⟩
    · rw [if_neg kn] at k6 k9
      simp only [f_X8_tell, f_X9_tell, g_X8_tell_row, g_X8_tell_uZ, g_X8_tell_uR0, g_X8_tell_uR1, g_X8_tell_uR2, g_X8_tell_uR3, g_X8_tell_uR4, g_X8_tell_uR5, g_X8_tell_uR6, g_X8_tell_uR7, g_X9_tell_mKn, g_X9_tell_mSt, g_X9_tell_mPa, a, b, if_neg i1, e, f, if_neg z, z9, m6, m9, if_pos y, k6, k9, if_true]
      exact ⟨trivial, hI⟩
  · simp only [f_X8_tell, f_X9_tell, g_X8_tell_row, g_X8_tell_uZ, g_X8_tell_uR0, g_X8_tell_uR1, g_X8_tell_uR2, g_X8_tell_uR3, g_X8_tell_uR4, g_X8_tell_uR5, g_X8_tell_uR6, g_X8_tell_uR7, g_X9_tell_mKn, g_X9_tell_mSt, g_X9_tell_mPa, a, b, if_neg i1, e, f, if_neg z, m6, m9, if_neg y, ite_self]
    exact ⟨trivial, hI⟩
theorem E_day (tN : Int32) (tL : Nat → Int32) (vP : Int32) (vS : Int32) (vD : Int32) (vKi : Nat → Int32) (vMe : Nat → Int32) (vOw : Nat → Int32) (row : Nat → Int32) (uZ : Int32) (uR0 : Nat → Int32) (uR1 : Nat → Int32) (uR2 : Nat → Int32) (uR3 : Nat → Int32) (uR4 : Nat → Int32) (uR5 : Nat → Int32) (uR6 : Nat → Int32) (uR7 : Nat → Int32) (kZ : Int32) (kR0 : Nat → Int32) (kR1 : Nat → Int32) (cZ : Int32) (cPe : Nat → Int32) (cTa : Nat → Int32) (hZ : Int32) (hPe : Nat → Int32) (hLe : Nat → Int32) (hSh : Nat → Int32) (mTy : Nat) (mKn : Nat) (mKe : Nat) (mCa : Nat) (mSe : Nat) (mTx : Nat → Int32) (mTo : Nat → Int32) (mSt : Nat → Int32) (mPa : Nat → Int32) (mIm : Nat → Int32) (mWi : Nat → Int32) (mSn : Nat → Int32)  (hI : Inv tN tL vP vS vD vKi vMe vOw row uZ uR0 uR1 uR2 uR3 uR4 uR5 uR6 uR7 kZ kR0 kR1 cZ cPe cTa hZ hPe hLe hSh mTy mKn mKe mCa mSe mTx mTo mSt mPa mIm mWi mSn) : (f_X8_day vP vS vD vKi vMe vOw row) = (f_X9_day mTo mSt) ∧ Inv tN tL vP vS vD vKi vMe vOw (g_X8_day_row vP vS vD vKi vMe vOw row) (g_X8_day_uZ uZ) (g_X8_day_uR0 row uZ uR0 uR1) (g_X8_day_uR1 row uZ uR1 uR2) (g_X8_day_uR2 row uZ uR2 uR3) (g_X8_day_uR3 row uZ uR3 uR4) (g_X8_day_uR4 row uZ uR4 uR5) (g_X8_day_uR5 row uZ uR5 uR6) (g_X8_day_uR6 row uZ uR6 uR7) (g_X8_day_uR7 row uZ uR7) kZ kR0 kR1 cZ cPe cTa hZ hPe hLe hSh mTy (g_X9_day_mKn mKn) mKe mCa mSe mTx mTo (g_X9_day_mSt mTo mSt) (g_X9_day_mPa mKn mSt mPa) mIm mWi mSn := by
  obtain ⟨hT, p, q, d, h1, h2, h3, h⟩ := hI
  obtain ⟨a, b, c, -⟩ := u_day h1 h2.1 h2.2
  exact ⟨a, hT, p, q, d, h1, ⟨b, c⟩, v_keep h1.1.2.2.1 h3 h2, h⟩
theorem e_pop8 {r : Nat} (hr : r < 8) (f0 f1 f2 f3 f4 f5 f6 f7 row : Nat → Int32) : g_X4_pop8_row (nI (r + 1)) f0 f1 f2 f3 f4 f5 f6 f7 row = g_X6_copyFrom_row row (u8 f0 f1 f2 f3 f4 f5 f6 f7 r) := by
  unfold g_X4_pop8_row
  rw [if_neg (nI_nle (by omega) (by omega)), if_pos (show nI (r + 1) ≤ 8 from nI_le (b := 8) (by omega) (by decide)), nI_pred]
  rcases (show r = 0 ∨ r = 1 ∨ r = 2 ∨ r = 3 ∨ r = 4 ∨ r = 5 ∨ r = 6 ∨ r = 7 by omega) with rfl | rfl | rfl | rfl | rfl | rfl | rfl | rfl <;> rfl
theorem E_undo (tN : Int32) (tL : Nat → Int32) (vP : Int32) (vS : Int32) (vD : Int32) (vKi : Nat → Int32) (vMe : Nat → Int32) (vOw : Nat → Int32) (row : Nat → Int32) (uZ : Int32) (uR0 : Nat → Int32) (uR1 : Nat → Int32) (uR2 : Nat → Int32) (uR3 : Nat → Int32) (uR4 : Nat → Int32) (uR5 : Nat → Int32) (uR6 : Nat → Int32) (uR7 : Nat → Int32) (kZ : Int32) (kR0 : Nat → Int32) (kR1 : Nat → Int32) (cZ : Int32) (cPe : Nat → Int32) (cTa : Nat → Int32) (hZ : Int32) (hPe : Nat → Int32) (hLe : Nat → Int32) (hSh : Nat → Int32) (mTy : Nat) (mKn : Nat) (mKe : Nat) (mCa : Nat) (mSe : Nat) (mTx : Nat → Int32) (mTo : Nat → Int32) (mSt : Nat → Int32) (mPa : Nat → Int32) (mIm : Nat → Int32) (mWi : Nat → Int32) (mSn : Nat → Int32)  (hI : Inv tN tL vP vS vD vKi vMe vOw row uZ uR0 uR1 uR2 uR3 uR4 uR5 uR6 uR7 kZ kR0 kR1 cZ cPe cTa hZ hPe hLe hSh mTy mKn mKe mCa mSe mTx mTo mSt mPa mIm mWi mSn) : (f_X8_undo uZ) = (f_X9_undo mKn) ∧ Inv tN tL vP vS vD vKi vMe vOw (g_X8_undo_row row uZ uR0 uR1 uR2 uR3 uR4 uR5 uR6 uR7) (g_X8_undo_uZ uZ) uR0 uR1 uR2 uR3 uR4 uR5 uR6 uR7 kZ kR0 kR1 cZ cPe cTa hZ hPe hLe hSh mTy (g_X9_undo_mKn mKn) mKe mCa mSe mTx mTo (g_X9_undo_mSt mKn mSt mPa) mPa mIm mWi mSn := by
  obtain ⟨hT, p, q, d, h1, h2, ⟨u1, u2, u3, u4⟩, h4⟩ := hI
  subst u1
  rcases mKn with _ | r
  · exact ⟨rfl, hT, p, q, d, h1, h2, ⟨rfl, u2, u3, u4⟩, h4⟩
  · have n0 : ¬ nI (r + 1) = 0 := nI_ne0 (by omega) (by omega)
    have n1 : ¬ nI (r + 1) ≤ 0 := nI_nle (by omega) (by omega)
    have n2 : nI (r + 1) ≤ 8 := nI_le (b := 8) (by omega) (by decide)
    have n3 : ¬ (1 : Int32) = 0 := by decide
    simp only [f_X8_undo, f_X9_undo, g_X8_undo_uZ, g_X9_undo_mKn, g_X9_undo_mSt, g_X8_undo_row, f_X4_pop8, g_X4_pop8_uZ, f_X4_size8, if_neg n0, if_neg n1, if_pos n2, if_neg n3, nI_pred, Nat.add_sub_cancel, e_pop8 (show r < 8 by omega)]
    have e : ∀ k, k < 15 → F_X9_undo_22 r mPa mSt 15 k = mPa (15 * r + k) := fun k hk => by rw [e_un, if_pos hk]
    refine ⟨trivial, hT, p, q, d, h1, ⟨fun k hk => ?_, e_StOK h1.1.2.2.1 (u4 r (by omega)) e⟩, ⟨rfl, by omega, fun r' h => u3 r' (by omega), fun r' h => u4 r' (by omega)⟩, h4⟩
    rw [e k hk, g_X6_copyFrom_row, e_cf, if_pos hk, u3 r (by omega) k hk]
theorem v_go {p q d : Nat} {vP vS vD : Int32} {vKi vMe vOw mTo row st : Nat → Int32} (hV : IvV p q d vP vS vD vKi vMe vOw mTo) (hr : ∀ k, k < 15 → row k = st k) (hS : StOK p q mTo st) (n : Nat) : (∀ k, k < 15 → F_X8_gossip_46 vP vS vD vKi vMe vOw row n k = F_X9_gossip_36 mTo st n k) ∧ StOK p q mTo (F_X9_gossip_36 mTo st n) := by
  induction n with
  | zero => exact ⟨hr, hS⟩
  | succ n ih =>
    obtain ⟨-, b, c, -⟩ := u_day hV ih.1 ih.2
    exact ⟨b, c⟩
theorem E_gossip (tN : Int32) (tL : Nat → Int32) (vP : Int32) (vS : Int32) (vD : Int32) (vKi : Nat → Int32) (vMe : Nat → Int32) (vOw : Nat → Int32) (row : Nat → Int32) (orow : Nat → Int32) (uZ : Int32) (uR0 : Nat → Int32) (uR1 : Nat → Int32) (uR2 : Nat → Int32) (uR3 : Nat → Int32) (uR4 : Nat → Int32) (uR5 : Nat → Int32) (uR6 : Nat → Int32) (uR7 : Nat → Int32) (kZ : Int32) (kR0 : Nat → Int32) (kR1 : Nat → Int32) (cZ : Int32) (cPe : Nat → Int32) (cTa : Nat → Int32) (hZ : Int32) (hPe : Nat → Int32) (hLe : Nat → Int32) (hSh : Nat → Int32) (mTy : Nat) (mKn : Nat) (mKe : Nat) (mCa : Nat) (mSe : Nat) (mTx : Nat → Int32) (mTo : Nat → Int32) (mSt : Nat → Int32) (mPa : Nat → Int32) (mIm : Nat → Int32) (mWi : Nat → Int32) (mSn : Nat → Int32) (mHe : Nat → Int32) (p0 : Int32) (p1 : Int32) (p2 : Int32) (hI : Inv tN tL vP vS vD vKi vMe vOw row uZ uR0 uR1 uR2 uR3 uR4 uR5 uR6 uR7 kZ kR0 kR1 cZ cPe cTa hZ hPe hLe hSh mTy mKn mKe mCa mSe mTx mTo mSt mPa mIm mWi mSn) : (f_X8_gossip vP vS vD vKi vMe vOw row orow p0 p1 p2) = (f_X9_gossip mTo mSt p0 p1 p2) ∧ Inv tN tL vP vS vD vKi vMe vOw row uZ uR0 uR1 uR2 uR3 uR4 uR5 uR6 uR7 kZ kR0 kR1 cZ cPe cTa hZ hPe hLe hSh mTy mKn mKe mCa mSe mTx mTo (g_X9_gossip_mSt mTo mSt mHe p0 p1 p2) mPa mIm mWi mSn := by
  obtain ⟨hT, p, q, d, h1, h2, h⟩ := id hI
  have hp := h1.1.2.1
  have hq := h1.1.2.2.1
  refine ⟨?_, hT, p, q, d, h1, v_IvS hq h2 (fun k hk => ?_), h⟩
  · unfold f_X8_gossip f_X9_gossip
    rcases v_in (a := p0) (M := 60) (N := 60) rfl (by decide) with ⟨e, w⟩ | ⟨n, hn, rfl, e, e1, e2, -⟩
    · rw [if_pos e]
      rcases w with w | w
      · rw [if_pos w]
      · rw [if_neg w.1, if_pos w.2]
    rw [if_neg e1, if_neg e2, e, if_neg i1, nI_clamp (by omega)]
    rcases e_hasP (p0 := p1) hp h1.2.1.1 h1.2.1.2.1 with ⟨a, b⟩ | ⟨i, hi, rfl, a, b⟩
    · rw [a, b, if_pos rfl, if_pos rfl]
    rw [a, b, if_neg i1, if_neg i1]
    rcases v_in (a := p2) (M := 1) (N := 1) rfl (by decide) with ⟨f, w⟩ | ⟨m, hm, rfl, f, f1, f2, f3⟩
    · rw [if_pos f]
      rcases w with w | w
      · rw [if_pos w]
      · rw [if_neg w.1, if_neg (Int32.not_le.mpr w.2)]
    obtain ⟨g1, g2⟩ := v_go h1 (v_copy (orow := orow) h2.1) h2.2 n
    rw [if_neg f1, if_pos f3, f, if_neg i1, f_X6_ageOf, a, if_neg i1, nI_clamp (by omega), g1 i (by omega), v_kt h1 g1 g2 hi]
  · unfold g_X9_gossip_mSt
    split
    · rfl
    split
    · rfl
    split
    · rfl
    exact v_lets hk
theorem w_64n {S : Nat} (hS : S < 256) (x1 : Int32) (y n : Nat) (a : Int32) (hn : n ≤ 8) (h : ∀ j, j < n → S.testBit j = false) : L_X9_first_64 x1 (nI S) y n a = a := by
  induction n generalizing a with
  | zero => rfl
  | succ n ih =>
    rw [L_X9_first_64, if_neg (fun w => by have := (zb_t1 hS (by omega)).mp w; rw [h n (by omega)] at this; cases this)]
    exact ih a (by omega) (fun j hj => h j (by omega))
theorem w_64 {S : Nat} (hS : S < 256) (x1 : Int32) (y n : Nat) (a : Int32) {j : Nat} (hn : n ≤ 8) (hj : j < n) (b : S.testBit j = true) (h : ∀ j', j' < j → S.testBit j' = false) : L_X9_first_64 x1 (nI S) y n a = if x1 = 0 then nI j else nI y := by
  induction n generalizing a with
  | zero => omega
  | succ n ih =>
    rw [L_X9_first_64]
    by_cases e : j = n
    · subst e
      rw [if_pos ((zb_t1 hS (by omega)).mpr b), w_64n hS _ _ _ _ (by omega) h, w_64n hS _ _ _ _ (by omega) h]
    · split
      · split
        · rename_i c; rw [ih _ (by omega) (by omega), if_pos c]
        · rename_i c; rw [ih _ (by omega) (by omega), if_neg c]
      · exact ih _ (by omega) (by omega)
theorem w_n4 : ∀ j, j < 256 → ¬ nI j = -4 := by decide +kernel
theorem w_st {x1 : Int32} {mTo : Nat → Int32} (n j : Nat) {a : Int32} (s : Nat → Int32) (h : ¬ a = -4) : (L_X9_first_20 x1 mTo n j a s).1 = a := by
  cases n with
  | zero => rfl
  | succ n => rw [L_X9_first_20, if_neg h]
theorem w_fi {p q d : Nat} {vP vS vD : Int32} {vKi vMe vOw mTo : Nat → Int32} (hV : IvV p q d vP vS vD vKi vMe vOw mTo) (x1 : Int32) (A : Nat) (n j : Nat) (hn : j + n < 256) (row st : Nat → Int32) (hr : ∀ k, k < 15 → row k = st k) (hS : StOK p q mTo st) (hA : zA (mTo 2) st p = A) : (L_X8_first_32 x1 (nI A) vP vS vD vKi vMe vOw n j row).1 = (L_X9_first_20 x1 mTo n j (-4) st).1 := by
  have hp := hV.1.2.1
  have h64 := p64 hp
  induction n generalizing j row st with
  | zero => rfl
  | succ n ih =>
    obtain ⟨-, b, c, e⟩ := u_day hV hr hS
    have hAl : A < 2 ^ p := by rw [← hA]; exact zA_lt _ _ _
    have hSl := Nat.lt_of_le_of_lt (zb_an_le A (zA (mTo 2) (g_X9_goes_mSt mTo st) p)) hAl
    rw [L_X8_first_32, L_X9_first_20, if_pos rfl, s_liv hV b, s_liv9 hV, s_liv9 hV, hA, zb_not, s_to0 hV]
    rcases low_or hSl with z | ⟨j0, a1, b1, c1⟩
    · rw [z, if_pos (show nI 0 = 0 from rfl), w_64n (by decide) _ _ _ _ (by omega) (fun j _ => Nat.zero_testBit j)]
      refine ih (j + 1) (by omega) _ _ b c (Nat.eq_of_testBit_eq (fun i => ?_))
      have w := zb_an_bit (zA (mTo 2) (g_X9_goes_mSt mTo st) p) (show A < 2 ^ 32 by omega) i
      rw [z, Nat.zero_testBit] at w
      cases h : (zA (mTo 2) (g_X9_goes_mSt mTo st) p).testBit i
      · rw [h] at w; simpa using w.symm
      · rw [← hA, t_dead e i h]
    · have hz : ¬ nI (zb_an A (zA (mTo 2) (g_X9_goes_mSt mTo st) p)) = 0 := fun w => by
        have := (nI_eq (b := 0) (show zb_an A (zA (mTo 2) (g_X9_goes_mSt mTo st) p) < 2 ^ 31 by omega) (by decide)).mp w
        rw [this, Nat.zero_testBit] at b1; cases b1
      rw [if_neg hz, w_64 (by omega) x1 j p (-4) (by omega) a1 b1 c1, show f_X8_lowestOf (nI (zb_an A (zA (mTo 2) (g_X9_goes_mSt mTo st) p))) = nI j0 from u_low (by omega) 6 (by omega) (Nat.zero_le _) (by omega) b1 c1]
      by_cases x : x1 = 0
      · rw [if_pos x, if_pos x, w_st _ _ _ (w_n4 j0 (by omega))]
      · rw [if_neg x, if_neg x, w_st _ _ _ (w_n4 j (by omega))]
theorem E_first (tN : Int32) (tL : Nat → Int32) (vP : Int32) (vS : Int32) (vD : Int32) (vKi : Nat → Int32) (vMe : Nat → Int32) (vOw : Nat → Int32) (row : Nat → Int32) (orow : Nat → Int32) (uZ : Int32) (uR0 : Nat → Int32) (uR1 : Nat → Int32) (uR2 : Nat → Int32) (uR3 : Nat → Int32) (uR4 : Nat → Int32) (uR5 : Nat → Int32) (uR6 : Nat → Int32) (uR7 : Nat → Int32) (kZ : Int32) (kR0 : Nat → Int32) (kR1 : Nat → Int32) (cZ : Int32) (cPe : Nat → Int32) (cTa : Nat → Int32) (hZ : Int32) (hPe : Nat → Int32) (hLe : Nat → Int32) (hSh : Nat → Int32) (mTy : Nat) (mKn : Nat) (mKe : Nat) (mCa : Nat) (mSe : Nat) (mTx : Nat → Int32) (mTo : Nat → Int32) (mSt : Nat → Int32) (mPa : Nat → Int32) (mIm : Nat → Int32) (mWi : Nat → Int32) (mSn : Nat → Int32) (mHe : Nat → Int32) (p0 : Int32) (hI : Inv tN tL vP vS vD vKi vMe vOw row uZ uR0 uR1 uR2 uR3 uR4 uR5 uR6 uR7 kZ kR0 kR1 cZ cPe cTa hZ hPe hLe hSh mTy mKn mKe mCa mSe mTx mTo mSt mPa mIm mWi mSn) : (f_X8_first vP vS vD vKi vMe vOw row orow p0) = (f_X9_first mTo mSt p0) ∧ Inv tN tL vP vS vD vKi vMe vOw row uZ uR0 uR1 uR2 uR3 uR4 uR5 uR6 uR7 kZ kR0 kR1 cZ cPe cTa hZ hPe hLe hSh mTy mKn mKe mCa mSe mTx mTo (g_X9_first_mSt mTo mSt mHe p0) mPa mIm mWi mSn := by
  obtain ⟨hT, p, q, d, h1, h2, h⟩ := id hI
  have hp := h1.1.2.1
  have hq := h1.1.2.2.1
  refine ⟨?_, hT, p, q, d, h1, v_IvS hq h2 (fun k hk => ?_), h⟩
  · unfold f_X8_first f_X9_first
    rcases v_in (a := p0) (M := 1) (N := 1) rfl (by decide) with ⟨f, w⟩ | ⟨m, hm, rfl, f, f1, f2, f3⟩
    · rw [if_pos f]
      rcases w with w | w
      · rw [if_pos w]
      · rw [if_neg w.1, if_neg (Int32.not_le.mpr w.2)]
    rw [if_neg f1, if_pos f3, f, if_neg i1, s_liv h1 (v_copy (orow := orow) h2.1)]
    exact w_fi h1 _ _ 60 1 (by omega) _ _ (v_copy h2.1) h2.2 rfl
  · unfold g_X9_first_mSt
    split
    · rfl
    exact v_lets hk
theorem E_reach (tN : Int32) (tL : Nat → Int32) (vP : Int32) (vS : Int32) (vD : Int32) (vKi : Nat → Int32) (vMe : Nat → Int32) (vOw : Nat → Int32) (row : Nat → Int32) (uZ : Int32) (uR0 : Nat → Int32) (uR1 : Nat → Int32) (uR2 : Nat → Int32) (uR3 : Nat → Int32) (uR4 : Nat → Int32) (uR5 : Nat → Int32) (uR6 : Nat → Int32) (uR7 : Nat → Int32) (kZ : Int32) (kR0 : Nat → Int32) (kR1 : Nat → Int32) (nCo : Nat → Int32) (nNx : Nat → Int32) (cZ : Int32) (cPe : Nat → Int32) (cTa : Nat → Int32) (hZ : Int32) (hPe : Nat → Int32) (hLe : Nat → Int32) (hSh : Nat → Int32) (mTy : Nat) (mKn : Nat) (mKe : Nat) (mCa : Nat) (mSe : Nat) (mTx : Nat → Int32) (mTo : Nat → Int32) (mSt : Nat → Int32) (mPa : Nat → Int32) (mIm : Nat → Int32) (mWi : Nat → Int32) (mSn : Nat → Int32) (mFw : Nat → Int32) (p0 : Int32) (p1 : Int32) (hI : Inv tN tL vP vS vD vKi vMe vOw row uZ uR0 uR1 uR2 uR3 uR4 uR5 uR6 uR7 kZ kR0 kR1 cZ cPe cTa hZ hPe hLe hSh mTy mKn mKe mCa mSe mTx mTo mSt mPa mIm mWi mSn) : (f_X8_reach vP vS vD vKi vMe vOw row nCo nNx p0 p1) = (f_X9_reach mTo mSt mFw p0 p1) ∧ Inv tN tL vP vS vD vKi vMe vOw row uZ uR0 uR1 uR2 uR3 uR4 uR5 uR6 uR7 kZ kR0 kR1 cZ cPe cTa hZ hPe hLe hSh mTy mKn mKe mCa mSe mTx mTo mSt mPa mIm mWi mSn := by
  obtain ⟨hT, p, q, d, h1, h2, h⟩ := id hI
  refine ⟨?_, hI⟩
  have hp := h1.1.2.1
  have hq := h1.1.2.2.1
  unfold f_X8_reach f_X9_reach
  rcases e_hasS (p0 := p0) hq h1.2.1.2.2.1 h1.2.1.2.2.2.1 with ⟨e, f⟩ | ⟨k, hk, rfl, e, f⟩
  · rw [e, f]; rfl
  rcases e_hasP (p0 := p1) hp h1.2.1.1 h1.2.1.2.1 with ⟨a, b⟩ | ⟨i, hi, rfl, a, b⟩
  · rw [a, b, e, f]; rfl
  rw [a, b, e, f, if_neg i1, if_neg i1, if_neg i1, if_neg i1, s_al6 h1 h2.1 (by omega), s_al9 h1 hi]
  by_cases c1 : (zA (mTo 2) mSt p).testBit i = true
  · rw [if_pos c1, if_neg i1, if_neg i1]
    exact (q_eq h1 h2.1 h2.2 hk hi c1 nCo nNx mFw).1
  · rw [if_neg c1]; rfl
theorem al_st {x1 x2 i0 : Int32} {mTo st fw : Nat → Int32} {m : Nat} (h : (F_X9_all_44 x1 x2 mTo st i0 fw m).1 = -4) (n : Nat) : (F_X9_all_44 x1 x2 mTo st i0 fw (m + n)).1 = -4 := by
  induction n with
  | zero => exact h
  | succ n ih =>
    rw [← Nat.add_assoc, F_X9_all_44, ih]
    split
    · split
      · rfl
      · rfl
    · rfl
theorem al_q : ∀ q, q ≤ 8 → (1 : Int32) <<< (nI q &&& 31) = nI (2 ^ q) ∧ (1 : Int32) <<< (nI q &&& 31) - 1 = nI (2 ^ q - 1) := by decide +kernel
theorem al_L {p q d i set : Nat} {vP vS vD : Int32} {vKi vMe vOw mTo row st fw : Nat → Int32} (hV : IvV p q d vP vS vD vKi vMe vOw mTo) (hr : ∀ k, k < 15 → row k = st k) (hS : StOK p q mTo st) (hi : i < p) (hAi : (zA (mTo 2) st p).testBit i = true) (hs : set < 2 ^ q) (n : Nat) : ∀ (j c : Nat) (a0 : Int32) (co nx : Nat → Int32), j + n ≤ 8 → c ≤ 18 * j → a0 = nI c → (F_X9_all_44 (nI set) (nI i) mTo st 0 fw (min j q)).1 = a0 → (L_X8_all_49 (nI set) (nI i) vP vS vD vKi vMe vOw row n j a0 co nx).1 = (F_X9_all_44 (nI set) (nI i) mTo st 0 fw (min (j + n) q)).1 := by
  have hq := hV.1.2.2.1
  have h256 := p256 hq
  induction n with
  | zero => intro j c a0 co nx _ _ _ h; exact h.symm
  | succ n ih =>
    intro j c a0 co nx hj hc ha h
    have n4 : ¬ a0 = -4 := by rw [ha]; exact q_m4 c (by omega)
    rw [L_X8_all_49, zb_has (by omega) (by omega), show j + (n + 1) = j + 1 + n by omega]
    by_cases b : set.testBit j = true
    · have hjq : j < q := Nat.lt_of_not_le (fun w => by rw [zb_hi hs w] at b; cases b)
      obtain ⟨e1, e2⟩ := q_eq hV hr hS hjq hi hAi co nx (F_X9_all_44 (nI set) (nI i) mTo st 0 fw j).2
      rw [show min j q = j by omega] at h
      have hb1 := (zb_t1 (show set < 256 by omega) (show j < 8 by omega)).mpr b
      rw [if_pos b, if_neg i1, e1]
      rcases e2 with e2 | ⟨v, hv, e2⟩
      · rw [if_pos e2]
        have s1 : (F_X9_all_44 (nI set) (nI i) mTo st 0 fw (j + 1)).1 = -4 := by rw [F_X9_all_44, if_pos hb1, if_pos e2]
        have := al_st s1 (min (j + 1 + n) q - (j + 1))
        rw [show j + 1 + (min (j + 1 + n) q - (j + 1)) = min (j + 1 + n) q by omega] at this
        exact this.symm
      · have nv : ¬ nI v = -4 := q_m4 v (by omega)
        have s1 : (F_X9_all_44 (nI set) (nI i) mTo st 0 fw (j + 1)).1 = a0 + nI v := by rw [F_X9_all_44, if_pos hb1, e2, if_neg nv, h, if_neg n4]
        rw [e2, if_neg nv]
        exact ih (j + 1) (c + v) _ _ _ (by omega) (by omega) (by rw [ha, nI_add]) (by rw [show min (j + 1) q = j + 1 by omega, s1])
    · rw [if_neg b, if_pos rfl]
      refine ih (j + 1) c a0 _ _ (by omega) (by omega) ha ?_
      rcases Nat.lt_or_ge j q with w | w
      · rw [show min j q = j by omega] at h
        rw [show min (j + 1) q = j + 1 by omega, F_X9_all_44, if_neg (fun w => b ((zb_t1 (by omega) (by omega)).mp w)), h, if_neg n4, Int32.add_zero]
      · rw [show min (j + 1) q = min j q by omega]; exact h
theorem E_all (tN : Int32) (tL : Nat → Int32) (vP : Int32) (vS : Int32) (vD : Int32) (vKi : Nat → Int32) (vMe : Nat → Int32) (vOw : Nat → Int32) (row : Nat → Int32) (uZ : Int32) (uR0 : Nat → Int32) (uR1 : Nat → Int32) (uR2 : Nat → Int32) (uR3 : Nat → Int32) (uR4 : Nat → Int32) (uR5 : Nat → Int32) (uR6 : Nat → Int32) (uR7 : Nat → Int32) (kZ : Int32) (kR0 : Nat → Int32) (kR1 : Nat → Int32) (nCo : Nat → Int32) (nNx : Nat → Int32) (cZ : Int32) (cPe : Nat → Int32) (cTa : Nat → Int32) (hZ : Int32) (hPe : Nat → Int32) (hLe : Nat → Int32) (hSh : Nat → Int32) (mTy : Nat) (mKn : Nat) (mKe : Nat) (mCa : Nat) (mSe : Nat) (mTx : Nat → Int32) (mTo : Nat → Int32) (mSt : Nat → Int32) (mPa : Nat → Int32) (mIm : Nat → Int32) (mWi : Nat → Int32) (mSn : Nat → Int32) (mFw : Nat → Int32) (p0 : Int32) (p1 : Int32) (hI : Inv tN tL vP vS vD vKi vMe vOw row uZ uR0 uR1 uR2 uR3 uR4 uR5 uR6 uR7 kZ kR0 kR1 cZ cPe cTa hZ hPe hLe hSh mTy mKn mKe mCa mSe mTx mTo mSt mPa mIm mWi mSn) : (f_X8_all vP vS vD vKi vMe vOw row nCo nNx p0 p1) = (f_X9_all mTo mSt mFw p0 p1) ∧ Inv tN tL vP vS vD vKi vMe vOw row uZ uR0 uR1 uR2 uR3 uR4 uR5 uR6 uR7 kZ kR0 kR1 cZ cPe cTa hZ hPe hLe hSh mTy mKn mKe mCa mSe mTx mTo mSt mPa mIm mWi mSn := by
  obtain ⟨hT, p, q, d, h1, h2, h⟩ := id hI
  refine ⟨?_, hI⟩
  have hp := h1.1.2.1
  have hq := h1.1.2.2.1
  have h256 := p256 hq
  have h1q : 1 ≤ 2 ^ q := Nat.pow_pos (by decide)
  have hvs := h1.2.1.2.2.1
  subst hvs
  unfold f_X8_all f_X9_all
  rw [f_X7_secrets, h1.2.1.2.2.2.1, (al_q q hq).2, (al_q q hq).1]
  rcases v_in (a := p0) (M := nI (2 ^ q - 1)) (N := 2 ^ q - 1) rfl (by omega) with ⟨e, w⟩ | ⟨s, hs, rfl, e, e1, e2, -⟩
  · rw [if_pos e]
    rcases w with w | w
    · rw [if_pos w]
    · obtain ⟨j, hj, rfl⟩ := nI_of w.1
      have := (nI_ltI (by omega) hj).mp w.2
      rw [if_neg w.1, if_pos (nI_le (by omega) hj)]
  rw [if_neg e1, if_neg (nI_ge (show s < 2 ^ q by omega) (by omega)), e, if_neg i1]
  rcases e_hasP (p0 := p1) hp h1.2.1.1 h1.2.1.2.1 with ⟨a, b⟩ | ⟨i, hi, rfl, a, b⟩
  · rw [a, b]; rfl
  rw [a, b, if_neg i1, if_neg i1, s_al6 h1 h2.1 (by omega), s_al9 h1 hi]
  by_cases c1 : (zA (mTo 2) mSt p).testBit i = true
  · rw [if_pos c1, if_neg i1, if_neg i1, nI_clamp (by omega)]
    have w := al_L (fw := mFw) h1 h2.1 h2.2 hi c1 (show s < 2 ^ q by omega) 8 0 0 0 nCo nNx (by omega) (by omega) rfl (by rw [Nat.zero_min]; rfl)
    rw [show min (0 + 8) q = q by omega] at w
    exact w
  · rw [if_neg c1]; rfl
theorem z_an0 {a b : Nat} (ha : a < 2 ^ 32) (h : ∀ i, a.testBit i = true → b.testBit i = true) : zb_an a b = 0 := Nat.eq_of_testBit_eq (fun i => by
  rw [zb_an_bit _ ha, Nat.zero_testBit]
  cases w : a.testBit i
  · rfl
  · rw [h i w]; rfl)
theorem z_an0' {a b : Nat} (ha : a < 2 ^ 31) (h : nI a &&& (nI b ^^^ (-1)) = 0) (i : Nat) (w : a.testBit i = true) : b.testBit i = true := by
  rw [zb_not] at h
  have z : zb_an a b = 0 := (nI_eq (b := 0) (by have := zb_an_le a b; omega) (by decide)).mp h
  have e := zb_an_bit b (show a < 2 ^ 32 by omega) i
  rw [z, Nat.zero_testBit, w] at e
  simpa using e.symm
theorem z_bit : ∀ j, j < 64 → ∀ i, i < 6 → ((nI j &&& nI (2 ^ i) = 0) ↔ ((nI j >>> (nI i &&& 31)) &&& 1) = 0) := by decide +kernel
section AP
variable {p q d : Nat} {vP vS vD : Int32} {vKi vMe vOw mTo row st : Nat → Int32}
theorem z_113 (hV : IvV p q d vP vS vD vKi vMe vOw mTo) {j : Nat} (hj : j < 2 ^ p) (n : Nat) (hn : n ≤ p) : ∃ c, c ≤ 6 * n ∧ F_X9_apart_113 j mTo st 0 n = nI c := by
  have hp := hV.1.2.1
  have h64 := p64 hp
  induction n with
  | zero => exact ⟨0, by omega, rfl⟩
  | succ n ih =>
    obtain ⟨c, hc, e⟩ := ih (by omega)
    rw [F_X9_apart_113, e]
    split
    · have hl : zb_an (zM mTo (zA (mTo 2) st p) n) j < 64 := Nat.lt_of_le_of_lt (zb_an_le _ _) (by have := zM_lt mTo (zA_lt (mTo 2) st p) n; omega)
      refine ⟨c + cb (zb_an (zM mTo (zA (mTo 2) st p) n) j) 6, by have := cb_le (zb_an (zM mTo (zA (mTo 2) st p) n) j) 6; omega, ?_⟩
      rw [s_meet9 hV (by omega), zb_not, ← zb_ones _ (by omega), cb_bc _ hl, nI_add]
    · exact ⟨c, by omega, by rw [Int32.add_zero]⟩
theorem z_ma (hV : IvV p q d vP vS vD vKi vMe vOw mTo) (hr : ∀ k, k < 15 → row k = st k) {j : Nat} (hj : j < 2 ^ p) (n : Nat) (hn : n ≤ 6) : F_X8_meetingsAcross_5 (nI j) (nI (zb_an (zA (mTo 2) st p) j)) vP vD vMe row 0 n = F_X9_apart_113 j mTo st 0 (min n p) := by
  have hp := hV.1.2.1
  have h64 := p64 hp
  induction n with
  | zero => rw [Nat.zero_min]; rfl
  | succ n ih =>
    have ih := ih (by omega)
    rw [F_X8_meetingsAcross_5, zb_has (by omega) (by omega)]
    by_cases c : n < p
    · rw [show min (n + 1) p = min n p + 1 by omega, F_X9_apart_113, show min n p = n by omega]
      rw [show min n p = n by omega] at ih
      by_cases b : j.testBit n = true
      · have hA := zA_lt (mTo 2) st p
        have hM := zM_lt mTo hA n
        have e : zM mTo (zA (mTo 2) st p) n &&& zb_an (zA (mTo 2) st p) j = zb_an (zM mTo (zA (mTo 2) st p) n) j := Nat.eq_of_testBit_eq (fun i => by
          rw [Nat.testBit_and, zb_an_bit _ (by omega), zb_an_bit _ (by omega)]
          cases w : (zM mTo (zA (mTo 2) st p) n).testBit i
          · rfl
          · rw [(zM_bit mTo w).2]; rfl)
        rw [if_pos b, if_neg i1, if_pos ((zb_t1 (by omega) (by omega)).mpr b), ih, s_meet6 hV hr (by omega), s_meet9 hV c, zb_and, zb_not, e, zb_ones _ (Nat.lt_of_le_of_lt (zb_an_le _ _) (by omega))]
      · rw [if_neg b, if_pos rfl, if_neg (fun w => b ((zb_t1 (by omega) (by omega)).mp w)), ih, Int32.add_zero]
    · rw [zb_hi hj (by omega), show min (n + 1) p = min n p by omega, ← ih]; rfl
theorem z_fc (hV : IvV p q d vP vS vD vKi vMe vOw mTo) (hr : ∀ k, k < 15 → row k = st k) {i K : Nat} (hi : i < p) (n : Nat) (hn : n ≤ 2 ^ p) :
    ((∀ j, j < n → ¬ (nI j &&& (nI (zA (mTo 2) st p) ^^^ (-1)) = 0 ∧ nI j &&& nI (2 ^ i) = 0 ∧ nI K &&& (nI j ^^^ (-1)) = 0)) ∧ F_X8_fewestCut_7 (nI (zA (mTo 2) st p)) (nI K) (nI (2 ^ i)) vP vD vMe row 1000000 n = 1000000 ∧ F_X9_apart_66 (nI i) (nI (zA (mTo 2) st p)) (nI K) mTo st (-4) n = -4) ∨
    ∃ c, c ≤ 36 ∧ F_X8_fewestCut_7 (nI (zA (mTo 2) st p)) (nI K) (nI (2 ^ i)) vP vD vMe row 1000000 n = nI c ∧ F_X9_apart_66 (nI i) (nI (zA (mTo 2) st p)) (nI K) mTo st (-4) n = nI c := by
  have hp := hV.1.2.1
  have h64 := p64 hp
  induction n with
  | zero => left; exact ⟨fun j hj => absurd hj (Nat.not_lt_zero _), rfl, rfl⟩
  | succ n ih =>
    have hn' : n < 2 ^ p := by omega
    have ih := ih (by omega)
    rw [F_X8_fewestCut_7, F_X9_apart_66, s_to0 hV]
    have zb := z_bit n (by omega) i (by omega)
    by_cases c1 : nI n &&& (nI (zA (mTo 2) st p) ^^^ (-1)) = 0
    · by_cases c2 : nI n &&& nI (2 ^ i) = 0
      · by_cases c3 : nI K &&& (nI n ^^^ (-1)) = 0
        · rw [if_pos c1, if_pos c1, if_pos c2, if_pos c3, if_pos c3, if_pos (zb.mp c2)]
          obtain ⟨v, hv, ev⟩ := z_113 (st := st) hV hn' p (Nat.le_refl _)
          have ev6 : f_X8_meetingsAcross vP vD vMe row (nI n) (nI (zA (mTo 2) st p) &&& (nI n ^^^ (-1))) = nI v := by
            unfold f_X8_meetingsAcross
            rw [zb_not, z_ma hV hr hn' 6 (Nat.le_refl _), show min 6 p = p by omega, ev]
          rw [ev6, ev]
          right
          rcases ih with ⟨-, e1, e2⟩ | ⟨c, hc, e1, e2⟩
          · rw [e1, e2, if_pos rfl, if_pos (show nI v < 1000000 from nI_lt (b := 1000000) (by omega) (by decide))]
            exact ⟨v, by omega, rfl, rfl⟩
          · have n4 : ¬ nI c = -4 := fun w => by
              have := congrArg Int32.toInt w
              rw [nI_toInt (by omega)] at this
              have h4 : (-4 : Int32).toInt = -4 := by decide
              omega
            rw [e1, e2, if_neg n4]
            rcases Nat.lt_or_ge v c with w | w
            · rw [if_pos (nI_lt w (by omega)), if_neg (nI_ge w (by omega))]
              exact ⟨v, by omega, rfl, rfl⟩
            · rw [if_neg (nI_nlt w (by omega)), if_pos (nI_le w (by omega))]
              exact ⟨c, hc, rfl, rfl⟩
        · rw [if_pos c1, if_pos c1, if_pos c2, if_neg c3, if_neg c3]
          rcases ih with ⟨a, e1, e2⟩ | r
          · left; refine ⟨fun j hj w => ?_, e1, e2⟩
            by_cases e : j = n
            · subst e; exact c3 w.2.2
            · exact a j (by omega) w
          · right; exact r
      · rw [if_pos c1, if_pos c1, if_neg c2, if_neg (fun w => c2 (zb.mpr w)), ite_self]
        rcases ih with ⟨a, e1, e2⟩ | r
        · left; refine ⟨fun j hj w => ?_, e1, e2⟩
          by_cases e : j = n
          · subst e; exact c2 w.2.1
          · exact a j (by omega) w
        · right; exact r
    · rw [if_neg c1, if_neg c1]
      rcases ih with ⟨a, e1, e2⟩ | r
      · left; refine ⟨fun j hj w => ?_, e1, e2⟩
        by_cases e : j = n
        · subst e; exact c1 w.1
        · exact a j (by omega) w
      · right; exact r
theorem z_top (hV : IvV p q d vP vS vD vKi vMe vOw mTo) {x y : Int32} (m : Nat) (hm : 2 ^ p + m ≤ 64) : F_X8_fewestCut_7 (nI (zA (mTo 2) st p)) x y vP vD vMe row 1000000 (2 ^ p + m) = F_X8_fewestCut_7 (nI (zA (mTo 2) st p)) x y vP vD vMe row 1000000 (2 ^ p) := by
  induction m with
  | zero => rfl
  | succ m ih =>
    rw [← Nat.add_assoc, F_X8_fewestCut_7, if_neg (fun w => ?_), ih (by omega)]
    have := v_lt (zA_lt (mTo 2) st p) (z_an0' (by omega) w)
    omega
end AP
theorem E_apart (tN : Int32) (tL : Nat → Int32) (vP : Int32) (vS : Int32) (vD : Int32) (vKi : Nat → Int32) (vMe : Nat → Int32) (vOw : Nat → Int32) (row : Nat → Int32) (uZ : Int32) (uR0 : Nat → Int32) (uR1 : Nat → Int32) (uR2 : Nat → Int32) (uR3 : Nat → Int32) (uR4 : Nat → Int32) (uR5 : Nat → Int32) (uR6 : Nat → Int32) (uR7 : Nat → Int32) (kZ : Int32) (kR0 : Nat → Int32) (kR1 : Nat → Int32) (cZ : Int32) (cPe : Nat → Int32) (cTa : Nat → Int32) (hZ : Int32) (hPe : Nat → Int32) (hLe : Nat → Int32) (hSh : Nat → Int32) (mTy : Nat) (mKn : Nat) (mKe : Nat) (mCa : Nat) (mSe : Nat) (mTx : Nat → Int32) (mTo : Nat → Int32) (mSt : Nat → Int32) (mPa : Nat → Int32) (mIm : Nat → Int32) (mWi : Nat → Int32) (mSn : Nat → Int32) (p0 : Int32) (p1 : Int32) (hI : Inv tN tL vP vS vD vKi vMe vOw row uZ uR0 uR1 uR2 uR3 uR4 uR5 uR6 uR7 kZ kR0 kR1 cZ cPe cTa hZ hPe hLe hSh mTy mKn mKe mCa mSe mTx mTo mSt mPa mIm mWi mSn) : (f_X8_apart vP vS vD vMe row p0 p1) = (f_X9_apart mTo mSt p0 p1) ∧ Inv tN tL vP vS vD vKi vMe vOw row uZ uR0 uR1 uR2 uR3 uR4 uR5 uR6 uR7 kZ kR0 kR1 cZ cPe cTa hZ hPe hLe hSh mTy mKn mKe mCa mSe mTx mTo mSt mPa mIm mWi mSn := by
  obtain ⟨hT, p, q, d, h1, h2, h⟩ := id hI
  refine ⟨?_, hI⟩
  have hp := h1.1.2.1
  have hq := h1.1.2.2.1
  have h64 := p64 hp
  unfold f_X8_apart f_X9_apart
  rcases e_hasS (p0 := p0) hq h1.2.1.2.2.1 h1.2.1.2.2.2.1 with ⟨e, f⟩ | ⟨k, hk, rfl, e, f⟩
  · rw [e, f]; rfl
  rcases e_hasP (p0 := p1) hp h1.2.1.1 h1.2.1.2.1 with ⟨a, b⟩ | ⟨i, hi, rfl, a, b⟩
  · rw [a, b, e, f]; rfl
  rw [a, b, e, f, if_neg i1, if_neg i1, if_neg i1, if_neg i1, s_al6 h1 h2.1 (by omega), s_al9 h1 hi, s_knows6 h1 h2.1 h2.2 (by omega) hk, s_knows9 hq hp h2.2 (by omega) hk]
  by_cases c1 : (zA (mTo 2) mSt p).testBit i = true
  · by_cases c2 : (zK mSt k).testBit i = true
    · rw [if_pos c1, if_pos c2]; rfl
    · obtain ⟨e1, a1, -⟩ := s_kn hq hp h2.2 hk
      have hA := zA_lt (mTo 2) mSt p
      have hKA : zK mSt k &&& zA (mTo 2) mSt p < 2 ^ p := Nat.and_lt_two_pow _ hA
      have e0 := z_top (vMe := vMe) (row := row) (st := mSt) (x := nI (zK mSt k &&& zA (mTo 2) mSt p)) (y := nI (2 ^ i)) h1 (64 - 2 ^ p) (by omega)
      rw [show 2 ^ p + (64 - 2 ^ p) = 64 by omega] at e0
      rw [if_pos c1, if_neg c2, if_neg i1, if_neg i1, if_pos rfl, if_pos rfl, s_liv h1 h2.1, s_liv9 h1, s_knw6 h1 h2.1 h2.2 hk, nI_clamp (by omega), e1, zb_and, zb_and, Nat.and_comm (zA (mTo 2) mSt p), zb_sh i (by omega), h1.2.1.2.1, zb_sh p (by omega), nI_clamp (by omega)]
      unfold f_X8_fewestCut
      rw [e0]
      rcases z_fc (K := zK mSt k &&& zA (mTo 2) mSt p) h1 h2.1 hi (2 ^ p) (Nat.le_refl _) with ⟨w, -⟩ | ⟨c, -, w1, w2⟩
      · refine absurd ?_ (w _ hKA)
        refine ⟨?_, ?_, ?_⟩
        · rw [zb_not, z_an0 (by omega) (fun j hj => by rw [Nat.testBit_and] at hj; simp at hj; exact hj.2)]; rfl
        · rw [zb_and, show (zK mSt k &&& zA (mTo 2) mSt p) &&& 2 ^ i = 0 from Nat.eq_of_testBit_eq (fun j => by
            rw [Nat.testBit_and, Nat.testBit_and, Nat.testBit_two_pow, Nat.zero_testBit]
            by_cases y : i = j
            · subst y; simp [c2]
            · simp [y])]; rfl
        · rw [zb_not, z_an0 (by omega) (fun j hj => hj)]; rfl
      · rw [w1, w2]
  · rw [if_neg c1]; rfl
theorem E_worth (tN : Int32) (tL : Nat → Int32) (vP : Int32) (vS : Int32) (vD : Int32) (vKi : Nat → Int32) (vMe : Nat → Int32) (vOw : Nat → Int32) (row : Nat → Int32) (orow : Nat → Int32) (uZ : Int32) (uR0 : Nat → Int32) (uR1 : Nat → Int32) (uR2 : Nat → Int32) (uR3 : Nat → Int32) (uR4 : Nat → Int32) (uR5 : Nat → Int32) (uR6 : Nat → Int32) (uR7 : Nat → Int32) (kZ : Int32) (kR0 : Nat → Int32) (kR1 : Nat → Int32) (cZ : Int32) (cPe : Nat → Int32) (cTa : Nat → Int32) (hZ : Int32) (hPe : Nat → Int32) (hLe : Nat → Int32) (hSh : Nat → Int32) (mTy : Nat) (mKn : Nat) (mKe : Nat) (mCa : Nat) (mSe : Nat) (mTx : Nat → Int32) (mTo : Nat → Int32) (mSt : Nat → Int32) (mPa : Nat → Int32) (mIm : Nat → Int32) (mWi : Nat → Int32) (mSn : Nat → Int32) (p0 : Int32) (p1 : Int32) (hI : Inv tN tL vP vS vD vKi vMe vOw row uZ uR0 uR1 uR2 uR3 uR4 uR5 uR6 uR7 kZ kR0 kR1 cZ cPe cTa hZ hPe hLe hSh mTy mKn mKe mCa mSe mTx mTo mSt mPa mIm mWi mSn) : (f_X8_worth vP vS vD vKi vMe vOw row orow p0 p1) = (f_X9_worth mTo mSt p0 p1) ∧ Inv tN tL vP vS vD vKi vMe vOw row uZ uR0 uR1 uR2 uR3 uR4 uR5 uR6 uR7 kZ kR0 kR1 cZ cPe cTa hZ hPe hLe hSh mTy mKn mKe mCa mSe mTx mTo mSt mPa mIm mWi mSn := by
  obtain ⟨hT, p, q, d, h1, h2, h⟩ := id hI
  refine ⟨?_, hI⟩
  have hp := h1.1.2.1
  have hq := h1.1.2.2.1
  have h64 := p64 hp
  unfold f_X8_worth f_X9_worth
  rcases e_hasP (p0 := p0) hp h1.2.1.1 h1.2.1.2.1 with ⟨a, b⟩ | ⟨i, hi, rfl, a, b⟩
  · rw [a, b]; rfl
  rcases e_hasS (p0 := p1) hq h1.2.1.2.2.1 h1.2.1.2.2.2.1 with ⟨e, f⟩ | ⟨k, hk, rfl, e, f⟩
  · rw [a, b, e, f]; rfl
  rw [a, b, e, f, if_neg i1, if_neg i1, if_neg i1, if_neg i1, s_al6 h1 h2.1 (by omega), s_al9 h1 hi, s_knows6 h1 h2.1 h2.2 (by omega) hk, s_knows9 hq hp h2.2 (by omega) hk]
  by_cases c1 : (zA (mTo 2) mSt p).testBit i = true
  · by_cases c2 : (zK mSt k).testBit i = true
    · obtain ⟨e1, a1, e2, b1, f1⟩ := s_kn hq hp h2.2 hk
      have hc := v_copy (orow := orow) h2.1
      have hM := zM_lt mTo (zA_lt (mTo 2) mSt p) i
      obtain ⟨t1, -, -, t4, -⟩ := t_tells h1 hc h2.2 hi hk (fun j w => (zM_bit mTo w).2)
      have hz : zR mTo mSt p k (zb_an (zM mTo (zA (mTo 2) mSt p) i) (zK mSt k)) (zX mTo mSt p i k (zb_an (zM mTo (zA (mTo 2) mSt p) i) (zK mSt k))) (zO mTo k) = mSt (zO mTo k) + zX mTo mSt p i k (zb_an (zM mTo (zA (mTo 2) mSt p) i) (zK mSt k)) := by
        unfold zR
        rw [if_neg (by omega), if_neg (fun w => by have := w.2.1; rw [zb_an_bit _ (by omega), f1] at this; simp at this), if_pos rfl]
      rw [if_pos c1, if_pos c2, if_neg i1, if_neg i1, if_neg i1, if_neg i1, s_meet6 h1 hc (by omega), s_meet9 h1 hi, s_own6 h1 hk, f_X6_ageOf, f_X6_ageOf, s_has6 h1 (by omega), if_pos b1, if_neg i1, if_neg i1, nI_clamp (by omega), t1 _ (by omega), t4 _ (by omega), hz, h2.1 _ (by omega), Int32.add_comm, Int32.add_sub_cancel, nI_clamp (by omega), e2, t_sh h1 h2.2 hk hM]
      unfold zX
      by_cases c3 : (zA (mTo 2) mSt p).testBit (zO mTo k) = true
      · rw [if_pos c3, if_pos c3]
        by_cases c4 : i = zO mTo k
        · rw [if_pos c4, if_pos (congrArg nI c4.symm)]
        · rw [if_neg c4, if_neg (fun w => c4 ((nI_eq (by omega) (by omega)).mp w).symm)]
      · rw [if_neg c3, if_neg c3]
        split <;> rfl
    · rw [if_pos c1, if_neg c2]; rfl
  · rw [if_neg c1]; rfl
theorem E_witness (tN : Int32) (tL : Nat → Int32) (vP : Int32) (vS : Int32) (vD : Int32) (vKi : Nat → Int32) (vMe : Nat → Int32) (vOw : Nat → Int32) (row : Nat → Int32) (uZ : Int32) (uR0 : Nat → Int32) (uR1 : Nat → Int32) (uR2 : Nat → Int32) (uR3 : Nat → Int32) (uR4 : Nat → Int32) (uR5 : Nat → Int32) (uR6 : Nat → Int32) (uR7 : Nat → Int32) (kZ : Int32) (kR0 : Nat → Int32) (kR1 : Nat → Int32) (cZ : Int32) (cPe : Nat → Int32) (cTa : Nat → Int32) (hZ : Int32) (hPe : Nat → Int32) (hLe : Nat → Int32) (hSh : Nat → Int32) (mTy : Nat) (mKn : Nat) (mKe : Nat) (mCa : Nat) (mSe : Nat) (mTx : Nat → Int32) (mTo : Nat → Int32) (mSt : Nat → Int32) (mPa : Nat → Int32) (mIm : Nat → Int32) (mWi : Nat → Int32) (mSn : Nat → Int32) (p0 : Int32) (p1 : Int32) (hI : Inv tN tL vP vS vD vKi vMe vOw row uZ uR0 uR1 uR2 uR3 uR4 uR5 uR6 uR7 kZ kR0 kR1 cZ cPe cTa hZ hPe hLe hSh mTy mKn mKe mCa mSe mTx mTo mSt mPa mIm mWi mSn) : (f_X8_witness vP vS cZ p0 p1) = (f_X9_witness mCa mTo p0 p1) ∧ Inv tN tL vP vS vD vKi vMe vOw row uZ uR0 uR1 uR2 uR3 uR4 uR5 uR6 uR7 kZ kR0 kR1 (g_X8_witness_cZ vP vS cZ p0 p1) (g_X8_witness_cPe vP vS cZ cPe p0 p1) (g_X8_witness_cTa vP vS cZ cTa p0 p1) hZ hPe hLe hSh mTy mKn mKe (g_X9_witness_mCa mCa mTo p0 p1) mSe mTx mTo mSt mPa mIm (g_X9_witness_mWi mCa mTo mWi p0 p1) mSn := by
  obtain ⟨hT, p, q, d, h1, h2, h3, h4, ⟨c1, c2, c3, c4⟩, h5⟩ := id hI
  subst c1
  obtain ⟨⟨-, hp, hq, -, -⟩, ⟨hP, hP', hS, hS', -, -⟩, -⟩ := id h1
  have n3 : ¬ (1 : Int32) = 0 := by decide
  rcases e_hasP (p0 := p0) hp hP hP' with ⟨a, b⟩ | ⟨i, hi, rfl, a, b⟩
  · simp only [f_X8_witness, f_X9_witness, g_X8_witness_cZ, g_X8_witness_cPe, g_X8_witness_cTa, g_X9_witness_mCa, g_X9_witness_mWi, a, b, if_true]
    exact ⟨trivial, hI⟩
  rcases e_hasS (p0 := p1) hq hS hS' with ⟨e, f⟩ | ⟨s, hs, rfl, e, f⟩
  · simp only [f_X8_witness, f_X9_witness, g_X8_witness_cZ, g_X8_witness_cPe, g_X8_witness_cTa, g_X9_witness_mCa, g_X9_witness_mWi, a, b, if_neg n3, e, f, if_true]
    exact ⟨trivial, hI⟩
  rcases Nat.lt_or_ge mCa 5 with w | w
  · have d0 : ¬ nI mCa < 0 := nI_pos (by omega)
    have d1 : nI mCa < 5 := nI_lt (b := 5) w (by decide)
    have d2 : ¬ nI mCa = 5 := fun x => by rw [x] at d1; exact absurd d1 (by decide)
    have m1 : (8 : Int32) * nI i + nI s = nI (8 * i + s) := by
      rw [show (8 : Int32) * nI i = nI (8 * i) from (Int32.ofNat_mul 8 i).symm, nI_add]
    simp only [f_X8_witness, f_X9_witness, g_X8_witness_cZ, g_X8_witness_cPe, g_X8_witness_cTa, g_X9_witness_mCa, g_X9_witness_mWi, a, b, if_neg n3, e, f, f_X1_add, f_X1_size, g_X1_add_cZ, g_X1_add_cPe, g_X1_add_cTa, if_neg d0, if_pos d1, if_neg d2, nI_1, nI_clamp (show mCa < 2 ^ 31 by omega), m1]
    refine ⟨trivial, hT, p, q, d, h1, h2, h3, h4, ⟨rfl, by omega, fun k hk => ?_, fun k hk => ?_⟩, h5⟩
    · unfold upd
      by_cases x : k = mCa
      · exact ⟨i, s, hi, hs, if_pos x, if_pos x, if_pos x⟩
      · simp only [if_neg x]
        exact c3 k (by omega)
    · unfold upd
      by_cases x : k = mCa
      · rw [if_pos x]; exact vp_in_nI (by omega) (by decide)
      · rw [if_neg x]; exact c4 k hk
  · have x : mCa = 5 := by omega
    subst x
    have d0 : ¬ nI 5 < 0 := by decide
    have d1 : ¬ nI 5 < 5 := by decide
    have d2 : nI 5 = 5 := rfl
    simp only [f_X8_witness, f_X9_witness, g_X8_witness_cZ, g_X8_witness_cPe, g_X8_witness_cTa, g_X9_witness_mCa, g_X9_witness_mWi, a, b, if_neg n3, e, f, f_X1_add, f_X1_size, g_X1_add_cZ, g_X1_add_cPe, g_X1_add_cTa, if_neg d0, if_neg d1, if_pos d2, if_true]
    exact ⟨trivial, hI⟩
theorem E_dismiss (tN : Int32) (tL : Nat → Int32) (vP : Int32) (vS : Int32) (vD : Int32) (vKi : Nat → Int32) (vMe : Nat → Int32) (vOw : Nat → Int32) (row : Nat → Int32) (uZ : Int32) (uR0 : Nat → Int32) (uR1 : Nat → Int32) (uR2 : Nat → Int32) (uR3 : Nat → Int32) (uR4 : Nat → Int32) (uR5 : Nat → Int32) (uR6 : Nat → Int32) (uR7 : Nat → Int32) (kZ : Int32) (kR0 : Nat → Int32) (kR1 : Nat → Int32) (cZ : Int32) (cPe : Nat → Int32) (cTa : Nat → Int32) (hZ : Int32) (hPe : Nat → Int32) (hLe : Nat → Int32) (hSh : Nat → Int32) (mTy : Nat) (mKn : Nat) (mKe : Nat) (mCa : Nat) (mSe : Nat) (mTx : Nat → Int32) (mTo : Nat → Int32) (mSt : Nat → Int32) (mPa : Nat → Int32) (mIm : Nat → Int32) (mWi : Nat → Int32) (mSn : Nat → Int32)  (hI : Inv tN tL vP vS vD vKi vMe vOw row uZ uR0 uR1 uR2 uR3 uR4 uR5 uR6 uR7 kZ kR0 kR1 cZ cPe cTa hZ hPe hLe hSh mTy mKn mKe mCa mSe mTx mTo mSt mPa mIm mWi mSn) : (f_X8_dismiss cZ) = (f_X9_dismiss mCa) ∧ Inv tN tL vP vS vD vKi vMe vOw row uZ uR0 uR1 uR2 uR3 uR4 uR5 uR6 uR7 kZ kR0 kR1 g_X8_dismiss_cZ cPe cTa hZ hPe hLe hSh mTy mKn mKe g_X9_dismiss_mCa mSe mTx mTo mSt mPa mIm mWi mSn := by
  obtain ⟨hT, p, q, d, h1, h2, h3, h4, ⟨c1, c2, c3, c4⟩, h5⟩ := hI
  exact ⟨c1, hT, p, q, d, h1, h2, h3, h4, ⟨rfl, Nat.zero_le _, fun k hk => absurd hk (Nat.not_lt_zero k), c4⟩, h5⟩
theorem od_ms (m : Nat) : ∀ (c t : Nat), t < m → (ms m c).testBit (c / 5 ^ t % 5) = true := by
  induction m with
  | zero => intro c t h; omega
  | succ m ih =>
    intro c t h
    rw [ms, Nat.testBit_or]
    cases t with
    | zero => rw [Nat.pow_zero, Nat.div_one, Nat.testBit_two_pow_self]; rfl
    | succ t =>
      have := ih (c / 5) t (by omega)
      rw [Nat.div_div_eq_div_mul, Nat.mul_comm, ← Nat.pow_succ] at this
      rw [this, Bool.or_true]
theorem od_vd {n c k : Nat} (h : vd n c = true) (hk : k < n) : dg n c k < n := by
  have w := od_ms n c (n - 1 - k) (by omega)
  unfold vd at h
  rw [of_decide_eq_true h, Nat.testBit_two_pow_sub_one] at w
  exact of_decide_eq_true w
/-- the growth by an order -/
def gw (n : Nat) (mTo mSt mWi mHe : Nat → Int32) (c : Nat) : Int32 := f_X9_growsBy n mTo mSt mWi mHe (fun k => nI (dg n c k))
theorem od_in {n : Nat} {x : Int32} (hn : n ≤ 5) : (f_X9_in x (-1) (nI n - 1) = 0 ∧ (x < -1 ∨ (¬ x < -1 ∧ ¬ x < nI n))) ∨ (f_X9_in x (-1) (nI n - 1) = 1 ∧ ¬ x < -1 ∧ x < nI n ∧ (x = -1 ∨ ∃ k, k < n ∧ x = nI k)) := by
  have m1 : (-1 : Int32).toInt = -1 := by decide
  have o1 : (1 : Int32).toInt = 1 := by decide
  have o0 : (0 : Int32).toInt = 0 := by decide
  have en := nI_toInt (show n < 2 ^ 31 by omega)
  have e : (nI n - 1 < x) ↔ ¬ x < nI n := by
    rw [Int32.lt_iff_toInt_lt, Int32.lt_iff_toInt_lt, i32_sub (by rw [en]; omega) (by rw [en]; omega) (by decide) (by decide), en, o1]; omega
  unfold f_X9_in
  by_cases c1 : x < -1
  · left; exact ⟨if_pos c1, .inl c1⟩
  · by_cases c2 : x < nI n
    · right
      rw [if_neg c1, if_neg (fun w => (e.mp w) c2)]
      refine ⟨rfl, c1, c2, ?_⟩
      by_cases c3 : x < 0
      · left
        apply Int32.toInt_inj.mp
        rw [Int32.lt_iff_toInt_lt] at c1 c3
        omega
      · right
        obtain ⟨k, hk, rfl⟩ := nI_of c3
        exact ⟨k, (nI_ltI hk (by omega)).mp c2, rfl⟩
    · left
      rw [if_neg c1, if_pos (e.mpr c2)]
      exact ⟨rfl, .inr ⟨c1, c2⟩⟩
theorem od_89 (ro i0 : Nat → Int32) (n k : Nat) : F_X9_order_89 ro i0 n k = if k < n then ro k else i0 k := by
  induction n with
  | zero => rfl
  | succ n ih =>
    rw [F_X9_order_89]; unfold upd
    by_cases e : k = n
    · subst e; rw [if_pos rfl, if_pos (by omega)]
    · rw [if_neg e, ih]
      by_cases w : k < n
      · rw [if_pos w, if_pos (by omega)]
      · rw [if_neg w, if_neg (by omega)]
theorem od_20 : ∀ n, n ≤ 5 → Int32.toNatClampNeg (F_X9_order_20 1 n) = 5 ^ n := by decide +kernel
theorem od_rc {n : Nat} (hn : n ≤ 5) : ∃ c l, rc n = c :: l ∧ ch n (c :: l) = true ∧ (c :: l).length ≤ 120 ∧ ∀ k, k < 5 → fs n c k = nI k := by
  rcases (show n = 0 ∨ n = 1 ∨ n = 2 ∨ n = 3 ∨ n = 4 ∨ n = 5 by omega) with rfl | rfl | rfl | rfl | rfl | rfl
  · exact ⟨_, _, rc_0, rh_0, by decide, by decide⟩
  · exact ⟨_, _, rc_1, rh_1, by decide, by decide⟩
  · exact ⟨_, _, rc_2, rh_2, by decide, by decide⟩
  · exact ⟨_, _, rc_3, rh_3, by decide, by decide⟩
  · exact ⟨_, _, rc_4, rh_4, by decide, by decide⟩
  · exact ⟨_, _, rc_5, rh_5, by decide, by decide⟩
theorem od_f2 (i0 : Nat → Int32) (n k : Nat) : F_X1_findBest_2 i0 n k = if k < n then nI k else i0 k := by
  induction n with
  | zero => rfl
  | succ n ih =>
    rw [F_X1_findBest_2]; unfold upd
    by_cases e : k = n
    · subst e; rw [if_pos rfl, if_pos (by omega)]
    · rw [if_neg e, ih]
      by_cases w : k < n
      · rw [if_pos w, if_pos (by omega)]
      · rw [if_neg w, if_neg (by omega)]
section OD
variable {p q d n : Nat} {vP vS vD : Int32} {vKi vMe vOw mTo row mSt cPe cTa mWi mHe : Nat → Int32} {wi ws : Nat → Nat}
def Wt (p q n : Nat) (cPe cTa mWi : Nat → Int32) (wi ws : Nat → Nat) : Prop := n ≤ 5 ∧ ∀ k, k < n → wi k < p ∧ ws k < q ∧ cPe k = nI (wi k) ∧ cTa k = nI (ws k) ∧ mWi k = nI (8 * wi k + ws k)
theorem od_g (hV : IvV p q d vP vS vD vKi vMe vOw mTo) (hr : ∀ k, k < 15 → row k = mSt k) (hS : StOK p q mTo mSt) (h : Wt p q n cPe cTa mWi wi ws) {c : Nat} (hc : vd n c = true) : (∃ D, D ≤ 400 ∧ gw n mTo mSt mWi mHe c = nI D) ∧ (∀ f tr, (∀ k, k < n → f k = nI (dg n c k)) → f_X6_agesTogether (g_X1_hear_row (nI n) cPe cTa f (g_X6_copy_row tr row) vP vS vD vKi vOw) vP - f_X6_agesTogether row vP = gw n mTo mSt mWi mHe c) ∧ ∀ g he st', (∀ k, k < 15 → st' k = mSt k) → (∀ k, k < n → g k = nI (dg n c k)) → f_X9_growsBy n mTo st' mWi he g = gw n mTo mSt mWi mHe c := by
  have w : ∀ f g, (∀ k, k < n → f k = nI (dg n c k)) → (∀ k, k < n → g k = nI (dg n c k)) → Wn p q n cPe cTa mWi f g wi ws (dg n c) := fun f g hf hg => ⟨h.1, h.2, fun k hk => ⟨od_vd hc hk, hf k hk, hg k hk⟩⟩
  have hq := hV.1.2.2.1
  refine ⟨?_, fun f tr hf => ?_, fun g he st' hs hg => ?_⟩
  · obtain ⟨D, a, -, b⟩ := h_gr hV hr hS (w _ _ (fun _ _ => rfl) (fun _ _ => rfl)) mHe mHe
    exact ⟨D, a, b⟩
  · obtain ⟨D, a, b, e⟩ := h_gr hV hr hS (w f _ hf (fun _ _ => rfl)) tr mHe
    rw [b]; exact e.symm
  · obtain ⟨D, a, b, e⟩ := h_gr hV hr hS (w (fun k => nI (dg n c k)) (fun k => nI (dg n c k)) (fun _ _ => rfl) (fun _ _ => rfl)) mHe mHe
    obtain ⟨D', a', b', e'⟩ := h_gr (row := row) hV (st := st') (fun k hk => by rw [hr k hk, hs k hk]) (e_StOK hq hS hs) (w (fun k => nI (dg n c k)) g (fun _ _ => rfl) hg) mHe he
    rw [e', ← b', b]; exact e.symm
theorem od_r (hV : IvV p q d vP vS vD vKi vMe vOw mTo) (hr : ∀ k, k < 15 → row k = mSt k) (hS : StOK p q mTo mSt) (h : Wt p q n cPe cTa mWi wi ws) (mRo mBe : Nat → Int32) (c : Nat) (hc : c ≤ 5 ^ n) : (∀ k, k < 15 → (F_X9_order_43 n mTo mWi (-1) mSt mHe mRo mBe c).2.1 k = mSt k) ∧
    ((List.foldl (sp (gw n mTo mSt mWi mHe)) none ((List.range c).filter (vd n)) = none ∧ (F_X9_order_43 n mTo mWi (-1) mSt mHe mRo mBe c).1 = -1) ∨ ∃ b, List.foldl (sp (gw n mTo mSt mWi mHe)) none ((List.range c).filter (vd n)) = some b ∧ vd n b = true ∧ (F_X9_order_43 n mTo mWi (-1) mSt mHe mRo mBe c).1 = gw n mTo mSt mWi mHe b ∧ ∀ k, k < n → (F_X9_order_43 n mTo mWi (-1) mSt mHe mRo mBe c).2.2.2.2 k = nI (dg n b k)) := by
  have hn := h.1
  have h5 : 5 ^ n ≤ 5 ^ 5 := Nat.pow_le_pow_right (by decide) hn
  induction c with
  | zero => exact ⟨fun _ _ => rfl, .inl ⟨rfl, rfl⟩⟩
  | succ c ih =>
    obtain ⟨i1', i2⟩ := ih (by omega)
    have hc' : c < 2 ^ 31 := by omega
    rw [List.range_succ, List.filter_append, List.foldl_append, F_X9_order_43, (o_rows hn hc' _).1]
    cases hv : vd n c
    · have e : [c].filter (vd n) = [] := by simp [hv]
      rw [e]
      exact ⟨i1', i2⟩
    · have e : [c].filter (vd n) = [c] := by simp [hv]
      obtain ⟨⟨D, D1, D2⟩, -, g3⟩ := od_g (mHe := mHe) hV hr hS h hv
      rw [e, if_pos rfl, if_neg i1, g3 _ _ _ i1' (o_rows hn hc' _).2, if_neg (by rw [D2]; exact nI_pos (by omega))]
      have hst : ∀ k, k < 15 → g_X9_growsBy_mSt n mTo (F_X9_order_43 n mTo mWi (-1) mSt mHe mRo mBe c).2.1 mWi (F_X9_order_43 n mTo mWi (-1) mSt mHe mRo mBe c).2.2.1 (g_X9_rows_mRo n (F_X9_order_43 n mTo mWi (-1) mSt mHe mRo mBe c).2.2.2.1 (nI c)) k = mSt k := fun k hk => by
        unfold g_X9_growsBy_mSt; rw [v_lets hk, i1' k hk]
      have hbe : ∀ k, k < n → F_X9_order_89 (g_X9_rows_mRo n (F_X9_order_43 n mTo mWi (-1) mSt mHe mRo mBe c).2.2.2.1 (nI c)) (F_X9_order_43 n mTo mWi (-1) mSt mHe mRo mBe c).2.2.2.2 n k = nI (dg n c k) := fun k hk => by
        rw [od_89, if_pos hk, (o_rows hn hc' _).2 k hk]
      rcases i2 with ⟨o, l⟩ | ⟨b, o, vb, l, be⟩
      · rw [o, l, if_pos (by decide)]
        exact ⟨hst, .inr ⟨c, rfl, hv, rfl, hbe⟩⟩
      · obtain ⟨⟨D', D1', D2'⟩, -, -⟩ := od_g (mHe := mHe) hV hr hS h vb
        rw [o, l, if_neg (by rw [D2']; exact nI_pos (by omega))]
        by_cases x : gw n mTo mSt mWi mHe b ≤ gw n mTo mSt mWi mHe c
        · rw [if_pos x]
          exact ⟨hst, .inr ⟨b, by rw [List.foldl_cons, List.foldl_nil]; exact if_pos x, vb, rfl, be⟩⟩
        · rw [if_neg x]
          exact ⟨hst, .inr ⟨c, by rw [List.foldl_cons, List.foldl_nil]; exact if_neg x, hv, rfl, hbe⟩⟩
theorem od_st (m j : Nat) (a0 : Int32) (f a3 a4 : Nat → Int32) (cZ : Int32) : L_X1_findBest_29 cZ cPe cTa row vP vS vD vKi vOw m j a0 0 f a3 a4 = (a0, 0, f, a3, a4) := by
  cases m with
  | zero => rfl
  | succ m => rw [L_X1_findBest_29, if_pos rfl]
theorem od_c (hV : IvV p q d vP vS vD vKi vMe vOw mTo) (hr : ∀ k, k < 15 → row k = mSt k) (hS : StOK p q mTo mSt) (h : Wt p q n cPe cTa mWi wi ws) (l : List Nat) : ∀ (c m j : Nat) (a0 : Int32) (f a3 a4 : Nat → Int32) (o : Option Nat), ch n (c :: l) = true → (∀ x, x ∈ c :: l → vd n x = true) → (c :: l).length ≤ m → E5 f (fs n c) → ((o = none ∧ a0 = 1000000) ∨ ∃ b, o = some b ∧ vd n b = true ∧ a0 = gw n mTo mSt mWi mHe b ∧ ∀ k, k < n → a3 k = nI (dg n b k)) →
    ∃ b, List.foldl (sp (gw n mTo mSt mWi mHe)) o (c :: l) = some b ∧ (L_X1_findBest_29 (nI n) cPe cTa row vP vS vD vKi vOw m j a0 1 f a3 a4).1 = gw n mTo mSt mWi mHe b ∧ ∀ k, k < n → (L_X1_findBest_29 (nI n) cPe cTa row vP vS vD vKi vOw m j a0 1 f a3 a4).2.2.2.1 k = nI (dg n b k) := by
  have hn := h.1
  induction l with
  | nil =>
    intro c m j a0 f a3 a4 o h1 h2 h3 h4 h5
    have hv := h2 c (List.mem_cons_self ..)
    obtain ⟨m, rfl⟩ : ∃ k, m = k + 1 := ⟨m - 1, by simp at h3; omega⟩
    obtain ⟨⟨D, D1, D2⟩, g2, -⟩ := od_g (mHe := mHe) hV hr hS h hv
    have hf : ∀ k, k < n → f k = nI (dg n c k) := fun k hk => by rw [h4 k (by omega)]; unfold fs; rw [if_pos hk]
    have nt : f_X1_nextTurn (nI n) f = 0 := by
      rw [(o_nt h4).1]
      simp [ch] at h1
      exact h1
    have cp : ∀ k, k < n → va_cpy f a3 0 0 5 k = nI (dg n c k) := fun k hk => by
      unfold va_cpy; rw [if_pos (by omega), show 0 + (k - 0) = k by omega, hf k hk]
    rw [L_X1_findBest_29, if_neg i1, g2 f a4 hf, nt, od_st, od_st, List.foldl_cons, List.foldl_nil]
    rcases h5 with ⟨rfl, rfl⟩ | ⟨b, rfl, vb, rfl, hb⟩
    · rw [if_neg (show ¬ (1000000 : Int32) ≤ gw n mTo mSt mWi mHe c by rw [D2]; exact nI_ge (b := 1000000) (by omega) (by decide))]
      exact ⟨c, rfl, rfl, cp⟩
    · by_cases x : gw n mTo mSt mWi mHe b ≤ gw n mTo mSt mWi mHe c
      · rw [if_pos x]
        exact ⟨b, if_pos x, rfl, hb⟩
      · rw [if_neg x]
        exact ⟨c, if_neg x, rfl, cp⟩
  | cons c' l ih =>
    intro c m j a0 f a3 a4 o h1 h2 h3 h4 h5
    have hv := h2 c (List.mem_cons_self ..)
    obtain ⟨m, rfl⟩ : ∃ k, m = k + 1 := ⟨m - 1, by simp at h3; omega⟩
    obtain ⟨⟨D, D1, D2⟩, g2, -⟩ := od_g (mHe := mHe) hV hr hS h hv
    have hf : ∀ k, k < n → f k = nI (dg n c k) := fun k hk => by rw [h4 k (by omega)]; unfold fs; rw [if_pos hk]
    rw [ch] at h1
    simp only [Bool.and_eq_true, decide_eq_true_eq] at h1
    obtain ⟨⟨k1, k2⟩, k3⟩ := h1
    obtain ⟨n1, n2⟩ := o_nt (cZ := nI n) h4
    have nt : f_X1_nextTurn (nI n) f = 1 := by rw [n1, k1]
    have ne : E5 (g_X1_nextTurn_cTu (nI n) f) (fs n c') := fun k hk => by rw [n2 k hk, s5_E k2 k hk]
    have cp : ∀ k, k < n → va_cpy f a3 0 0 5 k = nI (dg n c k) := fun k hk => by
      unfold va_cpy; rw [if_pos (by omega), show 0 + (k - 0) = k by omega, hf k hk]
    have hl : (c' :: l).length ≤ m := by simp at h3 ⊢; omega
    have h2' : ∀ x, x ∈ c' :: l → vd n x = true := fun x hx => h2 x (List.mem_cons_of_mem _ hx)
    rw [L_X1_findBest_29, if_neg i1, g2 f a4 hf, nt, List.foldl_cons]
    rcases h5 with ⟨rfl, rfl⟩ | ⟨b, rfl, vb, rfl, hb⟩
    · rw [if_neg (show ¬ (1000000 : Int32) ≤ gw n mTo mSt mWi mHe c by rw [D2]; exact nI_ge (b := 1000000) (by omega) (by decide))]
      exact ih c' m _ _ _ _ _ _ k3 h2' hl ne (.inr ⟨c, rfl, hv, rfl, cp⟩)
    · by_cases x : gw n mTo mSt mWi mHe b ≤ gw n mTo mSt mWi mHe c
      · rw [if_pos x]
        exact ih c' m _ _ _ _ _ _ k3 h2' hl ne (.inr ⟨b, if_pos x, vb, rfl, hb⟩)
      · rw [if_neg x]
        exact ih c' m _ _ _ _ _ _ k3 h2' hl ne (.inr ⟨c, if_neg x, hv, rfl, cp⟩)
end OD
theorem E_order (tN : Int32) (tL : Nat → Int32) (vP : Int32) (vS : Int32) (vD : Int32) (vKi : Nat → Int32) (vMe : Nat → Int32) (vOw : Nat → Int32) (row : Nat → Int32) (orow : Nat → Int32) (uZ : Int32) (uR0 : Nat → Int32) (uR1 : Nat → Int32) (uR2 : Nat → Int32) (uR3 : Nat → Int32) (uR4 : Nat → Int32) (uR5 : Nat → Int32) (uR6 : Nat → Int32) (uR7 : Nat → Int32) (kZ : Int32) (kR0 : Nat → Int32) (kR1 : Nat → Int32) (cZ : Int32) (cPe : Nat → Int32) (cTa : Nat → Int32) (cTu : Nat → Int32) (cBe : Nat → Int32) (hZ : Int32) (hPe : Nat → Int32) (hLe : Nat → Int32) (hSh : Nat → Int32) (mTy : Nat) (mKn : Nat) (mKe : Nat) (mCa : Nat) (mSe : Nat) (mTx : Nat → Int32) (mTo : Nat → Int32) (mSt : Nat → Int32) (mPa : Nat → Int32) (mIm : Nat → Int32) (mWi : Nat → Int32) (mSn : Nat → Int32) (mHe : Nat → Int32) (mRo : Nat → Int32) (mBe : Nat → Int32) (p0 : Int32) (hI : Inv tN tL vP vS vD vKi vMe vOw row uZ uR0 uR1 uR2 uR3 uR4 uR5 uR6 uR7 kZ kR0 kR1 cZ cPe cTa hZ hPe hLe hSh mTy mKn mKe mCa mSe mTx mTo mSt mPa mIm mWi mSn) : (f_X8_order vP vS vD vKi vOw row orow cZ cPe cTa cTu cBe p0) = (f_X9_order mCa mTo mSt mWi mHe mRo mBe p0) ∧ Inv tN tL vP vS vD vKi vMe vOw row uZ uR0 uR1 uR2 uR3 uR4 uR5 uR6 uR7 kZ kR0 kR1 cZ cPe cTa hZ hPe hLe hSh mTy mKn mKe mCa mSe mTx mTo (g_X9_order_mSt mCa mTo mSt mWi mHe mRo mBe p0) mPa mIm mWi mSn := by
  obtain ⟨hT, p, q, d, h1, h2, h3, h4, ⟨c1, c2, c3, c4⟩, h6⟩ := id hI
  have hp := h1.1.2.1
  have hq := h1.1.2.2.1
  subst c1
  have hW : Wt p q mCa cPe cTa mWi (fun k => (cPe k).toNatClampNeg) (fun k => (cTa k).toNatClampNeg) := ⟨c2, fun k hk => by
    obtain ⟨i, s, a1, a2, a3, a4, a5⟩ := c3 k hk
    have e1 := (tn_nI a3 (by omega)).2
    have e2 := (tn_nI a4 (by omega)).2
    dsimp only
    rw [e1, e2]
    exact ⟨a1, a2, a3, a4, a5⟩⟩
  obtain ⟨r1, r2⟩ := od_r (mHe := mHe) h1 h2.1 h2.2 hW mRo mBe (5 ^ mCa) (Nat.le_refl _)
  refine ⟨?_, hT, p, q, d, h1, v_IvS hq h2 (fun k hk => ?_), h3, h4, ⟨rfl, c2, c3, c4⟩, h6⟩
  · obtain ⟨c, l, k1, k2, k3, k4⟩ := od_rc c2
    have hv : ∀ x, x ∈ c :: l → vd mCa x = true := fun x hx => by
      rw [← k1] at hx
      exact (List.mem_filter.mp hx).2
    have ht : E5 (F_X1_findBest_2 cTu 5) (fs mCa c) := fun k hk => by rw [od_f2, if_pos hk, k4 k hk]
    obtain ⟨b, f1, f2, f3⟩ := od_c (mHe := mHe) h1 h2.1 h2.2 hW l c 120 0 1000000 (F_X1_findBest_2 cTu 5) cBe orow none k2 hv k3 ht (.inl ⟨rfl, rfl⟩)
    rw [← k1] at f1
    rcases r2 with ⟨o, -⟩ | ⟨b', o, -, l9, be9⟩
    · unfold rc at f1; rw [f1] at o; cases o
    · unfold rc at f1
      rw [f1] at o
      injection o with o
      subst o
      unfold f_X8_order f_X9_order
      rcases od_in (x := p0) c2 with ⟨e, w | w⟩ | ⟨e, w1, w2, w⟩
      · rw [e, if_pos w, if_pos rfl]
      · rw [e, if_neg w.1, f_X1_size, if_neg w.2, if_pos rfl]
      · rw [e, if_neg w1, f_X1_size, if_pos w2, if_neg i1, od_20 _ c2, l9]
        rcases w with rfl | ⟨k, hk, rfl⟩
        · rw [if_pos rfl, if_pos rfl]; exact f2
        · have n1 : ¬ nI k = -1 := fun w => by
            have := congrArg Int32.toInt w
            rw [nI_toInt (by omega)] at this
            have h4 : (-1 : Int32).toInt = -1 := by decide
            omega
          rw [if_neg n1, if_neg n1, nI_clamp (by omega), be9 k hk, f_X1_bestAt, if_neg (nI_pos (by omega)), if_neg (nI_ge hk (by omega)), if_neg (show ¬ (5 : Int32) ≤ nI k from nI_ge (b := 5) (by omega) (by decide)), nI_clamp (by omega)]
          exact f3 k hk
  · unfold g_X9_order_mSt
    split
    · rfl
    rw [od_20 _ c2]; exact r1 k hk
theorem cf_cmp (a b : Int64) : 0 < lg_cmp a b ↔ b < a := by
  unfold lg_cmp
  by_cases c : a > b
  · rw [if_pos c]; exact ⟨fun _ => c, fun _ => by decide⟩
  · rw [if_neg c]
    refine ⟨fun w => ?_, fun w => absurd w c⟩
    split at w
    · exact absurd w (by decide)
    · exact absurd w (by decide)
theorem cf_L {U C X : Nat} (hU : U ≤ 9) (hC : C ≤ 2) (hX : X ≤ 10) (n : Nat) (a b f : Int64) : L_X8_confession_85 (nI X) (Int32.toInt64 (nI U * nI C)) (Int32.toInt64 (nI U * nI C) / 2) n a b f = L_X9_confession_69 (nI U) (nI C) (nI X) n a b f := by
  have hUC : U * C ≤ 18 := Nat.mul_le_mul hU hC
  have e1 : Int32.toInt64 (nI U * nI C) = lN (U * C) := by rw [pk_mul, nI_l (by omega)]
  have e2 : Int32.toInt64 (nI U * nI C) / 2 = Int32.toInt64 (nI U * nI C / 2) := by
    rw [e1, pk_mul, show nI (U * C) / 2 = nI (U * C / 2) from pk_div (d := 2) (by omega) (by decide) (by decide), nI_l (by omega)]
    exact pk_lDiv (b := 2) (by omega) (by decide) (by decide)
  have e3 : Int32.toInt64 (nI X) * Int32.toInt64 (nI U * nI C) = Int32.toInt64 (nI X) * Int32.toInt64 (nI U) * Int32.toInt64 (nI C) := by
    rw [e1, nI_l (by omega), nI_l (by omega), nI_l (by omega), lN_mul, lN_mul, lN_mul, Nat.mul_assoc]
  rw [e2]
  induction n generalizing a b f with
  | zero => rfl
  | succ n ih =>
    rw [L_X8_confession_85, L_X9_confession_69, e3]
    by_cases c : 0 < lg_cmp (Int32.toInt64 (nI U * nI C / 2) * (b * 10)) (Int32.toInt64 (nI X) * Int32.toInt64 (nI U) * Int32.toInt64 (nI C) * b + Int32.toInt64 (10 - nI X) * a)
    · rw [if_pos c, if_pos c, if_pos ((cf_cmp _ _).mp c)]; exact ih _ _ _
    · rw [if_neg c, if_neg c, if_neg (fun w => c ((cf_cmp _ _).mpr w))]; exact ih _ _ _
theorem cf_c0 {b : Nat} (hb : b < 2 ^ 63) (h0 : 0 < b) : lg_cmp (lN b) 0 = 1 := by
  unfold lg_cmp
  rw [if_pos (show (0 : Int64) < lN b from (pk_lLT (a := 0) (by decide) hb).mpr h0)]
theorem cf_gc (k : Nat) : ∀ (n j a b : Nat), a < 2 ^ 63 → b < 2 ^ 63 → b < 2 ^ k → 2 * k + 1 ≤ n → (L_X8_commonDivisor_3 n j (lN a) (lN b)).1 = lN (Nat.gcd a b) := by
  induction k with
  | zero =>
    intro n j a b ha hb h hn
    obtain ⟨n, rfl⟩ : ∃ m, n = m + 1 := ⟨n - 1, by omega⟩
    have : b = 0 := by simpa using h
    subst this
    rw [L_X8_commonDivisor_3, if_pos (show lg_cmp (lN 0) 0 = 0 by decide), Nat.gcd_zero_right]
  | succ k ih =>
    intro n j a b ha hb h hn
    obtain ⟨n, rfl⟩ : ∃ m, n = m + 1 + 1 := ⟨n - 2, by omega⟩
    rw [L_X8_commonDivisor_3]
    rcases Nat.eq_zero_or_pos b with z | z
    · subst z
      rw [if_pos (show lg_cmp (lN 0) 0 = 0 by decide), Nat.gcd_zero_right]
    · have hr : a % b < b := Nat.mod_lt _ z
      rw [cf_c0 hb z, if_neg i1, pk_lRem ha z hb, L_X8_commonDivisor_3]
      rcases Nat.eq_zero_or_pos (a % b) with y | y
      · rw [y, if_pos (show lg_cmp (lN 0) 0 = 0 by decide), Nat.gcd_comm, Nat.gcd_rec, y, Nat.gcd_zero_left]
      · rw [cf_c0 (by omega) y, if_neg i1, pk_lRem hb y (by omega)]
        have hm : b % (a % b) < a % b := Nat.mod_lt _ y
        have hd : b % (a % b) + (a % b) ≤ b := by
          have h1 : 1 ≤ b / (a % b) := (Nat.le_div_iff_mul_le y).mpr (by omega)
          have h2 := Nat.div_add_mod b (a % b)
          have h3 : (a % b) * 1 ≤ (a % b) * (b / (a % b)) := Nat.mul_le_mul_left _ h1
          omega
        have hp : 2 ^ (k + 1) = 2 * 2 ^ k := by rw [Nat.pow_succ, Nat.mul_comm]
        rw [ih n _ _ _ (by omega) (by omega) (by omega) (by omega)]
        congr 1
        rw [Nat.gcd_comm (a % b), ← Nat.gcd_rec, ← Nat.gcd_rec b a, Nat.gcd_comm]
theorem cf_gr (n : Nat) : ∀ (a b : Nat), a < 2 ^ 63 → b < 2 ^ 63 → b + 1 ≤ n → (L_X9_confession_164 n (lN a) (lN b)).1 = lN (Nat.gcd a b) := by
  induction n with
  | zero => intro a b _ _ h; omega
  | succ n ih =>
    intro a b ha hb h
    rw [L_X9_confession_164]
    rcases Nat.eq_zero_or_pos b with z | z
    · subst z
      rw [if_pos (show lg_cmp (lN 0) 0 ≤ 0 by decide), Nat.gcd_zero_right]
    · have hr : a % b < b := Nat.mod_lt _ z
      rw [cf_c0 hb z, if_neg (show ¬ (1 : Int32) ≤ 0 by decide), pk_lRem ha z hb, ih _ _ hb (by omega) (by omega)]
      congr 1
      rw [Nat.gcd_comm b, ← Nat.gcd_rec, Nat.gcd_comm]
theorem E_confession (tN : Int32) (tL : Nat → Int32) (vP : Int32) (vS : Int32) (vD : Int32) (vKi : Nat → Int32) (vMe : Nat → Int32) (vOw : Nat → Int32) (row : Nat → Int32) (uZ : Int32) (uR0 : Nat → Int32) (uR1 : Nat → Int32) (uR2 : Nat → Int32) (uR3 : Nat → Int32) (uR4 : Nat → Int32) (uR5 : Nat → Int32) (uR6 : Nat → Int32) (uR7 : Nat → Int32) (kZ : Int32) (kR0 : Nat → Int32) (kR1 : Nat → Int32) (cZ : Int32) (cPe : Nat → Int32) (cTa : Nat → Int32) (hZ : Int32) (hPe : Nat → Int32) (hLe : Nat → Int32) (hSh : Nat → Int32) (mTy : Nat) (mKn : Nat) (mKe : Nat) (mCa : Nat) (mSe : Nat) (mTx : Nat → Int32) (mTo : Nat → Int32) (mSt : Nat → Int32) (mPa : Nat → Int32) (mIm : Nat → Int32) (mWi : Nat → Int32) (mSn : Nat → Int32) (p0 : Int32) (p1 : Int32) (p2 : Int32) (p3 : Int32) (p4 : Int32) (hI : Inv tN tL vP vS vD vKi vMe vOw row uZ uR0 uR1 uR2 uR3 uR4 uR5 uR6 uR7 kZ kR0 kR1 cZ cPe cTa hZ hPe hLe hSh mTy mKn mKe mCa mSe mTx mTo mSt mPa mIm mWi mSn) : (f_X8_confession p0 p1 p2 p3 p4) = (f_X9_confession p0 p1 p2 p3 p4) ∧ Inv tN tL vP vS vD vKi vMe vOw row uZ uR0 uR1 uR2 uR3 uR4 uR5 uR6 uR7 kZ kR0 kR1 cZ cPe cTa hZ hPe hLe hSh mTy mKn mKe mCa mSe mTx mTo mSt mPa mIm mWi mSn := by
  refine ⟨?_, hI⟩
  unfold f_X8_confession f_X9_confession
  rcases v_in (a := p0) (M := 9) (N := 9) rfl (by decide) with ⟨e, w⟩ | ⟨U, hU, rfl, e, e1, e2, -⟩
  · rw [if_pos e]
    rcases w with w | w
    · rw [if_pos w]
    · rw [if_neg w.1, if_pos w.2]
  rw [if_neg e1, if_neg e2, e, if_neg i1]
  rcases v_in (a := p1) (M := 2) (N := 2) rfl (by decide) with ⟨e, w⟩ | ⟨C, hC, rfl, e, e1, e2, -⟩
  · rw [if_pos e]
    rcases w with w | w
    · rw [if_pos w]
    · rw [if_neg w.1, if_pos w.2]
  rw [if_neg e1, if_neg e2, e, if_neg i1]
  rcases v_in (a := p2) (M := 10) (N := 10) rfl (by decide) with ⟨e, w⟩ | ⟨X, hX, rfl, e, e1, e2, -⟩
  · rw [if_pos e]
    rcases w with w | w
    · rw [if_pos w]
    · rw [if_neg w.1, if_pos w.2]
  rw [if_neg e1, if_neg e2, e, if_neg i1]
  rcases v_in (a := p3) (M := 12) (N := 12) rfl (by decide) with ⟨e, w⟩ | ⟨n, hn, rfl, e, e1, e2, -⟩
  · rw [if_pos e]
    rcases w with w | w
    · rw [if_pos w]
    · rw [if_neg w.1, if_pos w.2]
  rw [if_neg e1, if_neg e2, e, if_neg i1]
  rcases v_in (a := p4) (M := 2) (N := 2) rfl (by decide) with ⟨e, w⟩ | ⟨m, hm, rfl, e, e1, e2, e3⟩
  · rw [if_pos e]
    rcases w with w | w
    · rw [if_pos w]
    · rw [if_neg w.1, if_neg (Int32.not_le.mpr w.2)]
  rw [if_neg e1, if_pos e3, e, if_neg i1, nI_clamp (by omega), cf_L hU hC hX]
  obtain ⟨M, f, eL, hM⟩ := conf_L hU hC hX n 0 0 (-4) (Nat.zero_le _)
  have e' : L_X9_confession_69 (nI U) (nI C) (nI X) n 0 1 (-4) = (lN M, lN (10 ^ (0 + n)), f) := eL
  have hp : 10 ^ (0 + n) ≤ 10 ^ 12 := Nat.pow_le_pow_right (by decide) (by omega)
  have hp1 : 0 < 10 ^ (0 + n) := Nat.pow_pos (by decide)
  have hp2 : (10 : Nat) ^ 12 = 1000000000000 := by decide
  rw [e']
  dsimp only
  have hg : 0 < Nat.gcd M (10 ^ (0 + n)) := Nat.gcd_pos_of_pos_right _ hp1
  have hg2 : Nat.gcd M (10 ^ (0 + n)) ≤ 10 ^ (0 + n) := Nat.gcd_le_right _ hp1
  have g1 : f_X8_commonDivisor (lN M) (lN (10 ^ (0 + n))) = lN (Nat.gcd M (10 ^ (0 + n))) := cf_gc 60 200 0 _ _ (by omega) (by omega) (by omega) (by decide)
  have g2 : (L_X9_confession_164 ((lN (10 ^ (0 + n))).toInt.toNat + 1) (lN M) (lN (10 ^ (0 + n)))).1 = lN (Nat.gcd M (10 ^ (0 + n))) := cf_gr _ _ _ (by omega) (by omega) (by rw [pk_lT (by omega)]; omega)
  rw [g1, g2, cf_c0 (by omega) hg, if_neg i1]
theorem e_in0 {N : Nat} {a M : Int32} (hM : M = nI N) (hN : N < 2 ^ 31) : (f_X9_in a 0 M = 0 ∧ (a < 0 ∨ ¬ a ≤ M)) ∨ ∃ j : Nat, j ≤ N ∧ a = nI j ∧ f_X9_in a 0 M = 1 ∧ ¬ a < 0 ∧ a ≤ M := by
  subst hM
  unfold f_X9_in
  by_cases c : a < 0
  · left; exact ⟨if_pos c, .inl c⟩
  · obtain ⟨j, hj, rfl⟩ := nI_of c
    rcases Nat.lt_or_ge N j with w | w
    · left; rw [if_neg c]; exact ⟨if_pos (nI_lt w hj), .inr (nI_ge w hj)⟩
    · right; exact ⟨j, w, rfl, by rw [if_neg c, if_neg (nI_nlt w hN)], c, nI_le w hN⟩
theorem E_seen (tN : Int32) (tL : Nat → Int32) (vP : Int32) (vS : Int32) (vD : Int32) (vKi : Nat → Int32) (vMe : Nat → Int32) (vOw : Nat → Int32) (row : Nat → Int32) (uZ : Int32) (uR0 : Nat → Int32) (uR1 : Nat → Int32) (uR2 : Nat → Int32) (uR3 : Nat → Int32) (uR4 : Nat → Int32) (uR5 : Nat → Int32) (uR6 : Nat → Int32) (uR7 : Nat → Int32) (kZ : Int32) (kR0 : Nat → Int32) (kR1 : Nat → Int32) (cZ : Int32) (cPe : Nat → Int32) (cTa : Nat → Int32) (hZ : Int32) (hPe : Nat → Int32) (hLe : Nat → Int32) (hSh : Nat → Int32) (mTy : Nat) (mKn : Nat) (mKe : Nat) (mCa : Nat) (mSe : Nat) (mTx : Nat → Int32) (mTo : Nat → Int32) (mSt : Nat → Int32) (mPa : Nat → Int32) (mIm : Nat → Int32) (mWi : Nat → Int32) (mSn : Nat → Int32) (p0 : Int32) (p1 : Int32) (p2 : Int32) (hI : Inv tN tL vP vS vD vKi vMe vOw row uZ uR0 uR1 uR2 uR3 uR4 uR5 uR6 uR7 kZ kR0 kR1 cZ cPe cTa hZ hPe hLe hSh mTy mKn mKe mCa mSe mTx mTo mSt mPa mIm mWi mSn) : (f_X8_seen vP hZ p0 p1 p2) = (f_X9_seen mSe mTo p0 p1 p2) ∧ Inv tN tL vP vS vD vKi vMe vOw row uZ uR0 uR1 uR2 uR3 uR4 uR5 uR6 uR7 kZ kR0 kR1 cZ cPe cTa (g_X8_seen_hZ vP hZ p0 p1 p2) (g_X8_seen_hPe vP hZ hPe p0 p1 p2) (g_X8_seen_hLe vP hZ hLe p0 p1 p2) (g_X8_seen_hSh vP hZ hSh p0 p1 p2) mTy mKn mKe mCa (g_X9_seen_mSe mSe mTo p0 p1 p2) mTx mTo mSt mPa mIm mWi (g_X9_seen_mSn mSe mTo mSn p0 p1 p2) := by
  obtain ⟨hT, p, q, d, h1, h2, h3, h4, h5, ⟨c1, c2, c3⟩⟩ := id hI
  subst c1
  obtain ⟨⟨-, hp, hq, -, -⟩, ⟨hP, hP', hS, hS', -, -⟩, -⟩ := id h1
  have n3 : ¬ (1 : Int32) = 0 := by decide
  rcases e_hasP (p0 := p0) hp hP hP' with ⟨a, b⟩ | ⟨i, hi, rfl, a, b⟩
  · simp only [f_X8_seen, f_X9_seen, g_X8_seen_hZ, g_X8_seen_hPe, g_X8_seen_hLe, g_X8_seen_hSh, g_X9_seen_mSe, g_X9_seen_mSn, a, b, if_true]
    exact ⟨trivial, hI⟩
  rcases e_in0 (a := p1) (M := 9) (N := 9) rfl (by decide) with ⟨e, e'⟩ | ⟨n, hn, rfl, e, e1, e2⟩
  · rcases e' with e' | e'
    · simp only [f_X8_seen, f_X9_seen, g_X8_seen_hZ, g_X8_seen_hPe, g_X8_seen_hLe, g_X8_seen_hSh, g_X9_seen_mSe, g_X9_seen_mSn, a, b, if_neg n3, e, if_pos e', if_true]
      exact ⟨trivial, hI⟩
    · simp only [f_X8_seen, f_X9_seen, g_X8_seen_hZ, g_X8_seen_hPe, g_X8_seen_hLe, g_X8_seen_hSh, g_X9_seen_mSe, g_X9_seen_mSn, a, b, if_neg n3, e, if_pos (Int32.not_le.mp e'), if_true, ite_self]
      exact ⟨trivial, hI⟩
  have e2' : ¬ 9 < nI n := Int32.not_lt.mpr e2
  rcases e_in0 (a := p2) (M := 20) (N := 20) rfl (by decide) with ⟨f, f'⟩ | ⟨h, hh, rfl, f, f1, f2⟩
  · rcases f' with f' | f'
    · simp only [f_X8_seen, f_X9_seen, g_X8_seen_hZ, g_X8_seen_hPe, g_X8_seen_hLe, g_X8_seen_hSh, g_X9_seen_mSe, g_X9_seen_mSn, a, b, if_neg n3, e, if_neg e1, if_neg e2', f, if_pos f', if_true]
      exact ⟨trivial, hI⟩
    · simp only [f_X8_seen, f_X9_seen, g_X8_seen_hZ, g_X8_seen_hPe, g_X8_seen_hLe, g_X8_seen_hSh, g_X9_seen_mSe, g_X9_seen_mSn, a, b, if_neg n3, e, if_neg e1, if_neg e2', f, if_neg f', if_true, ite_self]
      exact ⟨trivial, hI⟩
  rcases Nat.lt_or_ge mSe 6 with w | w
  · have d0 : ¬ nI mSe < 0 := nI_pos (by omega)
    have d1 : nI mSe < 6 := nI_lt (b := 6) w (by decide)
    have d2 : ¬ nI mSe = 6 := fun x => by rw [x] at d1; exact absurd d1 (by decide)
    simp only [f_X8_seen, f_X9_seen, g_X8_seen_hZ, g_X8_seen_hPe, g_X8_seen_hLe, g_X8_seen_hSh, g_X9_seen_mSe, g_X9_seen_mSn, a, b, if_neg n3, e, if_neg e1, if_neg e2', f, if_neg f1, if_pos f2, f_X5_add, f_X5_size, g_X5_add_hZ, g_X5_add_hPe, g_X5_add_hLe, g_X5_add_hSh, if_neg d0, if_pos d1, if_neg d2, nI_1, nI_clamp (show mSe < 2 ^ 31 by omega)]
    refine ⟨trivial, hT, p, q, d, h1, h2, h3, h4, h5, rfl, by omega, fun k hk => ?_⟩
    unfold upd
    by_cases x : k = mSe
    · refine ⟨i, n, h, hi, hn, hh, if_pos x, if_pos x, if_pos x, ?_⟩
      rw [if_pos x]
      rw [show (1000 : Int32) * nI i = nI (1000 * i) from (Int32.ofNat_mul 1000 i).symm, show (100 : Int32) * nI n = nI (100 * n) from (Int32.ofNat_mul 100 n).symm, nI_add, nI_add]
    · simp only [if_neg x]
      exact c3 k (by omega)
  · have x : mSe = 6 := by omega
    subst x
    have d0 : ¬ nI 6 < 0 := by decide
    have d1 : ¬ nI 6 < 6 := by decide
    have d2 : nI 6 = 6 := rfl
    simp only [f_X8_seen, f_X9_seen, g_X8_seen_hZ, g_X8_seen_hPe, g_X8_seen_hLe, g_X8_seen_hSh, g_X9_seen_mSe, g_X9_seen_mSn, a, b, if_neg n3, e, if_neg e1, if_neg e2', f, if_neg f1, if_pos f2, f_X5_add, f_X5_size, g_X5_add_hZ, g_X5_add_hPe, g_X5_add_hLe, g_X5_add_hSh, if_neg d0, if_neg d1, if_pos d2, if_true]
    exact ⟨trivial, hI⟩
theorem E_forget (tN : Int32) (tL : Nat → Int32) (vP : Int32) (vS : Int32) (vD : Int32) (vKi : Nat → Int32) (vMe : Nat → Int32) (vOw : Nat → Int32) (row : Nat → Int32) (uZ : Int32) (uR0 : Nat → Int32) (uR1 : Nat → Int32) (uR2 : Nat → Int32) (uR3 : Nat → Int32) (uR4 : Nat → Int32) (uR5 : Nat → Int32) (uR6 : Nat → Int32) (uR7 : Nat → Int32) (kZ : Int32) (kR0 : Nat → Int32) (kR1 : Nat → Int32) (cZ : Int32) (cPe : Nat → Int32) (cTa : Nat → Int32) (hZ : Int32) (hPe : Nat → Int32) (hLe : Nat → Int32) (hSh : Nat → Int32) (mTy : Nat) (mKn : Nat) (mKe : Nat) (mCa : Nat) (mSe : Nat) (mTx : Nat → Int32) (mTo : Nat → Int32) (mSt : Nat → Int32) (mPa : Nat → Int32) (mIm : Nat → Int32) (mWi : Nat → Int32) (mSn : Nat → Int32)  (hI : Inv tN tL vP vS vD vKi vMe vOw row uZ uR0 uR1 uR2 uR3 uR4 uR5 uR6 uR7 kZ kR0 kR1 cZ cPe cTa hZ hPe hLe hSh mTy mKn mKe mCa mSe mTx mTo mSt mPa mIm mWi mSn) : (f_X8_forget hZ) = (f_X9_forget mSe) ∧ Inv tN tL vP vS vD vKi vMe vOw row uZ uR0 uR1 uR2 uR3 uR4 uR5 uR6 uR7 kZ kR0 kR1 cZ cPe cTa g_X8_forget_hZ hPe hLe hSh mTy mKn mKe mCa g_X9_forget_mSe mTx mTo mSt mPa mIm mWi mSn := by
  obtain ⟨hT, p, q, d, h1, h2, h3, h4, h5, h6, h7, h8⟩ := hI
  exact ⟨h6, hT, p, q, d, h1, h2, h3, h4, h5, rfl, Nat.zero_le _, fun k hk => absurd hk (Nat.not_lt_zero k)⟩
theorem x_dec : ∀ i, i < 6 → ∀ n, n < 10 → ∀ h, h < 21 → nI (1000 * i + 100 * n + h) / 1000 = nI i ∧ nI (1000 * i + 100 * n + h) / 100 - nI (1000 * i + 100 * n + h) / 100 / 10 * 10 = nI n ∧ nI (1000 * i + 100 * n + h) - nI (1000 * i + 100 * n + h) / 100 * 100 = nI h := by decide +kernel
theorem x_38 (κ n : Nat) : F_X9_kinds_38 κ 0 n = F_X8_careForMany_5 (nI κ) 0 0 n := by
  induction n with
  | zero => rfl
  | succ n ih => rw [F_X9_kinds_38, F_X8_careForMany_5, ih, s_care, Int32.zero_add]
/-- whether a kind goes with a sight -/
def zk (x : Int32) (hPe hLe hSh : Nat → Int32) (κ k : Nat) : Bool := !decide (hPe k = x) || decide (f_X8_careForMany (nI κ) 0 (hLe k) = hSh k)
def zl (x : Int32) (hPe hLe hSh : Nat → Int32) (κ : Nat) : Nat → Bool
  | 0 => true
  | n + 1 => zl x hPe hLe hSh κ n && zk x hPe hLe hSh κ n
theorem zl_f (x : Int32) (hPe hLe hSh : Nat → Int32) (κ n : Nat) : zl x hPe hLe hSh κ n = false ↔ ∃ k, k < n ∧ zk x hPe hLe hSh κ k = false := by
  induction n with
  | zero => exact ⟨fun w => absurd w (by rw [zl]; decide), fun ⟨k, a, _⟩ => absurd a (Nat.not_lt_zero _)⟩
  | succ n ih =>
    rw [zl, Bool.and_eq_false_iff, ih]
    constructor
    · rintro (⟨k, a, b⟩ | w)
      · exact ⟨k, by omega, b⟩
      · exact ⟨n, by omega, w⟩
    · rintro ⟨k, a, b⟩
      by_cases e : k = n
      · subst e; exact .inr b
      · exact .inl ⟨k, by omega, b⟩
theorem x_fits {m : Nat} (hm : m < 2 ^ 31) (x : Int32) (hPe hLe hSh : Nat → Int32) (κ n j : Nat) (hj : j + n < 2 ^ 31) : (L_X5_fits_2 x (nI κ) (nI m) hPe hLe hSh n j = 0 ↔ ∃ k, j ≤ k ∧ k < j + n ∧ k < m ∧ zk x hPe hLe hSh κ k = false) := by
  induction n generalizing j with
  | zero => exact ⟨fun w => absurd w (by rw [L_X5_fits_2]; decide), fun ⟨k, a, b, _⟩ => absurd b (by omega)⟩
  | succ n ih =>
    have ih := ih (j + 1) (by omega)
    have skip : (∀ k, k = j → k < m → zk x hPe hLe hSh κ k = true) → ((∃ k, j + 1 ≤ k ∧ k < j + 1 + n ∧ k < m ∧ zk x hPe hLe hSh κ k = false) ↔ ∃ k, j ≤ k ∧ k < j + (n + 1) ∧ k < m ∧ zk x hPe hLe hSh κ k = false) := fun w => by
      constructor
      · rintro ⟨k, a, b, c, e⟩; exact ⟨k, by omega, by omega, c, e⟩
      · rintro ⟨k, a, b, c, e⟩
        by_cases z : k = j
        · rw [w k z c] at e; cases e
        · exact ⟨k, by omega, by omega, c, e⟩
    rw [L_X5_fits_2]
    by_cases c : m ≤ j
    · rw [if_pos (nI_le c (by omega)), ih]
      exact skip (fun k z w => by omega)
    · rw [if_neg (nI_ge (by omega) hm)]
      by_cases c1 : hPe j = x
      · rw [if_pos c1]
        by_cases c2 : f_X8_careForMany (nI κ) 0 (hLe j) = hSh j
        · rw [if_pos c2, ih]
          exact skip (fun k z w => by subst z; unfold zk; rw [c2]; simp)
        · rw [if_neg c2]
          exact ⟨fun _ => ⟨j, Nat.le_refl _, by omega, by omega, by unfold zk; simp [c1, c2]⟩, fun _ => rfl⟩
      · rw [if_neg c1, ih]
        exact skip (fun k z w => by subst z; unfold zk; simp [c1])
theorem x_pk {m : Nat} (hm : m ≤ 6) (x : Int32) (hPe hLe hSh : Nat → Int32) (n : Nat) (hn : n ≤ 5) : F_X5_possibleKinds_4 x (nI m) hPe hLe hSh 0 n = nI (bs (fun κ => zl x hPe hLe hSh κ m) n) := by
  induction n with
  | zero => rfl
  | succ n ih =>
    have e := bs_step (fun κ => zl x hPe hLe hSh κ m) (n := n) (by omega) (ih (by omega))
    have w := x_fits (show m < 2 ^ 31 by omega) x hPe hLe hSh n 6 0 (by omega)
    have w' : L_X5_fits_2 x (nI n) (nI m) hPe hLe hSh 6 0 = 0 ↔ zl x hPe hLe hSh n m = false := by
      rw [w, zl_f]
      exact ⟨fun ⟨k, _, _, a, b⟩ => ⟨k, a, b⟩, fun ⟨k, a, b⟩ => ⟨k, by omega, by omega, a, b⟩⟩
    rw [← e, F_X5_possibleKinds_4, f_X5_fits]
    by_cases c : zl x hPe hLe hSh n m = true
    · rw [if_neg (fun z => by rw [w'.mp z] at c; cases c), if_pos c]
    · rw [if_pos (w'.mpr (by simpa using c)), if_neg c]
theorem x_26 {x : Int32} {hPe hLe hSh mSn : Nat → Int32} {k : Nat} (h : ∃ i n h, i < 6 ∧ n ≤ 9 ∧ h ≤ 20 ∧ hPe k = nI i ∧ hLe k = nI n ∧ hSh k = nI h ∧ mSn k = nI (1000 * i + 100 * n + h)) {s : Nat} (hs : s < 32) (n : Nat) (hn : n ≤ 5) : F_X9_kinds_26 x k mSn (nI s) n = nI (zb_an s (bs (fun κ => !zk x hPe hLe hSh κ k) n)) := by
  obtain ⟨i, l, h, h1, h2, h3, e1, e2, e3, e4⟩ := h
  obtain ⟨d1, d2, d3⟩ := x_dec i h1 l (by omega) h (by omega)
  induction n with
  | zero =>
    rw [F_X9_kinds_26]; congr 1
    exact Nat.eq_of_testBit_eq (fun i => by rw [zb_an_bit _ (by omega), bs]; simp)
  | succ n ih =>
    have ih := ih (by omega)
    have hl : zb_an s (bs (fun κ => !zk x hPe hLe hSh κ k) n) < 2 ^ 5 := Nat.lt_of_le_of_lt (zb_an_le _ _) hs
    have e31 : ∀ a, a < 2 ^ 5 → nI a &&& 31 = nI a := fun a ha => by
      rw [show (31 : Int32) = nI 31 from rfl, zb_and]; congr 1
      apply Nat.eq_of_testBit_eq
      intro i
      rw [Nat.testBit_and, show 31 = 2 ^ 5 - 1 from rfl, Nat.testBit_two_pow_sub_one]
      by_cases w : i < 5
      · simp [w]
      · rw [zb_hi ha (by omega)]; rfl
    have yes : zk x hPe hLe hSh n k = true → nI (zb_an s (bs (fun κ => !zk x hPe hLe hSh κ k) n)) &&& 31 = nI (zb_an s (bs (fun κ => !zk x hPe hLe hSh κ k) (n + 1))) := fun w => by
      rw [e31 _ hl, bs, w]; simp
    rw [F_X9_kinds_26, ih, e4, d1, d2, d3, nI_clamp (by omega), x_38]
    have ec : f_X8_careForMany (nI n) 0 (hLe k) = F_X8_careForMany_5 (nI n) 0 0 l := by unfold f_X8_careForMany; rw [e2, nI_clamp (by omega)]
    by_cases c1 : nI i = x
    · rw [if_pos c1]
      by_cases c2 : F_X8_careForMany_5 (nI n) 0 0 l = nI h
      · rw [if_pos c2]
        exact yes (by unfold zk; rw [ec, e3, c2]; simp)
      · rw [if_neg c2, zb_sh n (by omega), zb_not]
        have w : zk x hPe hLe hSh n k = false := by unfold zk; rw [ec, e3, e1]; simp [c1, c2]
        congr 1
        apply Nat.eq_of_testBit_eq
        intro j
        rw [zb_an_bit _ (by omega), zb_an_bit _ (by omega), zb_an_bit _ (by omega), bs, w, Nat.testBit_or]
        simp [Bool.and_assoc]
    · rw [if_neg c1]
      exact yes (by unfold zk; rw [e1]; simp [c1])
theorem x_15 {x : Int32} {hPe hLe hSh mSn : Nat → Int32} (n : Nat) (h : ∀ k, k < n → ∃ i n h, i < 6 ∧ n ≤ 9 ∧ h ≤ 20 ∧ hPe k = nI i ∧ hLe k = nI n ∧ hSh k = nI h ∧ mSn k = nI (1000 * i + 100 * n + h)) : F_X9_kinds_15 x mSn 31 n = nI (bs (fun κ => zl x hPe hLe hSh κ n) 5) := by
  induction n with
  | zero =>
    rw [show (fun κ => zl x hPe hLe hSh κ 0) = fun _ => true from funext (fun κ => by rw [zl])]; rfl
  | succ n ih =>
    have hl : bs (fun κ => zl x hPe hLe hSh κ n) 5 < 2 ^ 5 := bs_lt _ _
    rw [F_X9_kinds_15, ih (fun k hk => h k (by omega)), x_26 (h n (by omega)) (s := bs (fun κ => zl x hPe hLe hSh κ n) 5) hl 5 (Nat.le_refl _)]
    congr 1
    apply Nat.eq_of_testBit_eq
    intro j
    rw [zb_an_bit _ (by omega), bs_bit, bs_bit, bs_bit, zl]
    cases decide (j < 5) <;> simp
theorem E_kinds (tN : Int32) (tL : Nat → Int32) (vP : Int32) (vS : Int32) (vD : Int32) (vKi : Nat → Int32) (vMe : Nat → Int32) (vOw : Nat → Int32) (row : Nat → Int32) (uZ : Int32) (uR0 : Nat → Int32) (uR1 : Nat → Int32) (uR2 : Nat → Int32) (uR3 : Nat → Int32) (uR4 : Nat → Int32) (uR5 : Nat → Int32) (uR6 : Nat → Int32) (uR7 : Nat → Int32) (kZ : Int32) (kR0 : Nat → Int32) (kR1 : Nat → Int32) (cZ : Int32) (cPe : Nat → Int32) (cTa : Nat → Int32) (hZ : Int32) (hPe : Nat → Int32) (hLe : Nat → Int32) (hSh : Nat → Int32) (mTy : Nat) (mKn : Nat) (mKe : Nat) (mCa : Nat) (mSe : Nat) (mTx : Nat → Int32) (mTo : Nat → Int32) (mSt : Nat → Int32) (mPa : Nat → Int32) (mIm : Nat → Int32) (mWi : Nat → Int32) (mSn : Nat → Int32) (p0 : Int32) (hI : Inv tN tL vP vS vD vKi vMe vOw row uZ uR0 uR1 uR2 uR3 uR4 uR5 uR6 uR7 kZ kR0 kR1 cZ cPe cTa hZ hPe hLe hSh mTy mKn mKe mCa mSe mTx mTo mSt mPa mIm mWi mSn) : (f_X8_kinds vP hZ hPe hLe hSh p0) = (f_X9_kinds mSe mTo mSn p0) ∧ Inv tN tL vP vS vD vKi vMe vOw row uZ uR0 uR1 uR2 uR3 uR4 uR5 uR6 uR7 kZ kR0 kR1 cZ cPe cTa hZ hPe hLe hSh mTy mKn mKe mCa mSe mTx mTo mSt mPa mIm mWi mSn := by
  obtain ⟨hT, p, q, d, h1, h2, h3, h4, h5, h6⟩ := id hI
  refine ⟨?_, hI⟩
  have hp := h1.1.2.1
  unfold f_X8_kinds f_X9_kinds
  rcases e_hasP (p0 := p0) hp h1.2.1.1 h1.2.1.2.1 with ⟨a, b⟩ | ⟨i, hi, rfl, a, b⟩
  · rw [a, b]; rfl
  · obtain ⟨c1, c2, c3⟩ := h6
    rw [a, b, if_neg i1, if_neg i1, c1, f_X5_possibleKinds, x_pk c2 _ _ _ _ 5 (Nat.le_refl _)]
    refine (x_15 mSe (fun k hk => ?_)).symm
    obtain ⟨i, n, h, a1, a2⟩ := c3 k hk
    exact ⟨i, n, h, by omega, a2⟩
/-- how many below n -/
def cn (f : Nat → Bool) : Nat → Nat
  | 0 => 0
  | n + 1 => cn f n + if f n then 1 else 0
theorem y_so {p q d : Nat} {vP vS vD : Int32} {vKi vMe vOw mTo row st : Nat → Int32} (hV : IvV p q d vP vS vD vKi vMe vOw mTo) (hr : ∀ k, k < 15 → row k = st k) (hS : StOK p q mTo st) {i set : Nat} (hA : (zA (mTo 2) st p).testBit i = true) (hs : set < 256) (hw : ∀ k, set.testBit k = true → k < q ∧ zO mTo k = i) (n : Nat) (hn : n ≤ 8) : F_X8_shadesOfAll_4 (nI set) vP vS vD vKi vOw row 0 n = F_X9_out_80 set mTo st 0 (min n q) := by
  have hp := hV.1.2.1
  have hq := hV.1.2.2.1
  have h64 := p64 hp
  induction n with
  | zero => rw [Nat.zero_min]; rfl
  | succ n ih =>
    have ih := ih (by omega)
    rw [F_X8_shadesOfAll_4, zb_has hs (by omega)]
    by_cases c : n < q
    · rw [show min (n + 1) q = min n q + 1 by omega, F_X9_out_80, show min n q = n by omega]
      rw [show min n q = n by omega] at ih
      by_cases b : set.testBit n = true
      · have ho := (hw n b).2
        obtain ⟨e, a, e', b', f⟩ := s_kn hq hp hS c
        have hl := Nat.lt_of_le_of_lt (zb_an_le (zA (mTo 2) st p) (zK st n)) (zA_lt (mTo 2) st p)
        rw [if_pos b, if_neg i1, if_pos ((zb_t1 hs (by omega)).mpr b), ih, s_liv9 hV, t_sh hV hS c (zA_lt _ _ _), ho, if_pos hA, s_own6 hV c, s_kind6 hV b', s_oth hV hr hS c, s_liv hV hr, s_knw6 hV hr hS c, zb_not, t_cm hp hl]
        rfl
      · rw [if_neg b, if_pos rfl, if_neg (fun w => b ((zb_t1 hs (by omega)).mp w)), ih, Int32.add_zero]
    · have b : set.testBit n = false := by
        cases w : set.testBit n
        · rfl
        · exact absurd (hw n w).1 c
      rw [b, show min (n + 1) q = min n q by omega, ← ih]; rfl
/-- the sets asked for -/
def zo (mTo st : Nat → Int32) (q W : Nat) (h : Int32) (set : Nat) : Bool := decide (nI set &&& (nI W ^^^ (-1)) = 0) && decide (F_X9_out_80 set mTo st 0 q = h)
theorem zo_t {mTo st : Nat → Int32} {q W n : Nat} {h : Int32} (c1 : nI n &&& (nI W ^^^ (-1)) = 0) (c2 : F_X9_out_80 n mTo st 0 q = h) : zo mTo st q W h n = true := by
  unfold zo; rw [decide_eq_true c1, decide_eq_true c2]; rfl
theorem zo_1 {mTo st : Nat → Int32} {q W n : Nat} {h : Int32} (c1 : ¬ nI n &&& (nI W ^^^ (-1)) = 0) : zo mTo st q W h n = false := by
  unfold zo; rw [decide_eq_false c1]; rfl
theorem zo_2 {mTo st : Nat → Int32} {q W n : Nat} {h : Int32} (c2 : ¬ F_X9_out_80 n mTo st 0 q = h) : zo mTo st q W h n = false := by
  unfold zo; rw [decide_eq_false c2, Bool.and_false]
theorem y_59 {mTo st : Nat → Int32} {q W : Nat} (hq : Int32.toNatClampNeg (mTo 1) = q) (h : Int32) (n : Nat) (a b : Int32) : (L_X9_out_59 h (nI W) mTo st n a b).1 = a + nI (cn (zo mTo st q W h) n) ∧ ((∀ k, k < n → zo mTo st q W h k = false) → (L_X9_out_59 h (nI W) mTo st n a b).2 = b) ∧ ∀ k, k < n → zo mTo st q W h k = true → (∀ k', k' < k → zo mTo st q W h k' = false) → (L_X9_out_59 h (nI W) mTo st n a b).2 = nI k := by
  induction n generalizing a b with
  | zero => exact ⟨by rw [cn, nI_0, Int32.add_zero]; rfl, fun _ => rfl, fun k hk => absurd hk (Nat.not_lt_zero _)⟩
  | succ n ih =>
    rw [L_X9_out_59, hq, cn]
    have no : zo mTo st q W h n = false → ((L_X9_out_59 h (nI W) mTo st n a b).1 = a + nI (cn (zo mTo st q W h) n + if zo mTo st q W h n = true then 1 else 0) ∧ ((∀ k, k < n + 1 → zo mTo st q W h k = false) → (L_X9_out_59 h (nI W) mTo st n a b).2 = b) ∧ ∀ k, k < n + 1 → zo mTo st q W h k = true → (∀ k', k' < k → zo mTo st q W h k' = false) → (L_X9_out_59 h (nI W) mTo st n a b).2 = nI k) := fun w => by
      obtain ⟨j1, j2, j3⟩ := ih a b
      refine ⟨by rw [j1, w]; rfl, fun z => j2 (fun k hk => z k (by omega)), fun k hk z z' => ?_⟩
      by_cases e : k = n
      · rw [e, w] at z; cases z
      · exact j3 k (by omega) z z'
    by_cases c1 : nI n &&& (nI W ^^^ (-1)) = 0
    · rw [if_pos c1]
      by_cases c2 : F_X9_out_80 n mTo st 0 q = h
      · rw [if_pos c2]
        have w : zo mTo st q W h n = true := zo_t c1 c2
        obtain ⟨j1, j2, j3⟩ := ih (a + 1) (nI n)
        refine ⟨?_, fun z => ?_, fun k hk z z' => ?_⟩
        · rw [j1, w, if_pos rfl, nI_succ, Int32.add_assoc, Int32.add_comm 1]
        · rw [z n (by omega)] at w; cases w
        · by_cases e : k = n
          · subst e; exact j2 z'
          · exact j3 k (by omega) z z'
      · rw [if_neg c2, Int32.add_zero]
        exact no (zo_2 c2)
    · rw [if_neg c1]
      exact no (zo_1 c1)
theorem y_62 {p q d : Nat} {vP vS vD : Int32} {vKi vMe vOw mTo row st : Nat → Int32} (hV : IvV p q d vP vS vD vKi vMe vOw mTo) (hr : ∀ k, k < 15 → row k = st k) (hS : StOK p q mTo st) {i : Nat} (hA : (zA (mTo 2) st p).testBit i = true) (h x : Int32) (n j : Nat) (hn : j + n ≤ 256) :
    (¬ x = 1 → L_X8_out_62 h x (nI (zW mTo q i)) vP vS vD vKi vOw row n j (nI (cn (zo mTo st q (zW mTo q i) h) j)) = nI (cn (zo mTo st q (zW mTo q i) h) (j + n))) ∧ (x = 1 → ∀ a, ((∀ k, k < j + n → zo mTo st q (zW mTo q i) h k = false) → L_X8_out_62 h x (nI (zW mTo q i)) vP vS vD vKi vOw row n j a = -4) ∧ ∀ k, j ≤ k → k < j + n → zo mTo st q (zW mTo q i) h k = true → (∀ k', k' < k → zo mTo st q (zW mTo q i) h k' = false) → L_X8_out_62 h x (nI (zW mTo q i)) vP vS vD vKi vOw row n j a = nI k) := by
  have hp := hV.1.2.1
  have hq := hV.1.2.2.1
  have hW : zW mTo q i < 2 ^ 8 := bs_lt _ _
  induction n generalizing j with
  | zero => exact ⟨fun w => by rw [L_X8_out_62, if_neg w]; rfl, fun w a => ⟨fun _ => by rw [L_X8_out_62, if_pos w], fun k a b => by omega⟩⟩
  | succ n ih =>
    obtain ⟨j1, j2⟩ := ih (j + 1) (by omega)
    rw [show j + 1 + n = j + (n + 1) by omega] at j1 j2
    rw [cn] at j1
    simp only [L_X8_out_62]
    have sum : nI j &&& (nI (zW mTo q i) ^^^ (-1)) = 0 → f_X8_shadesOfAll vP vS vD vKi vOw row (nI j) = F_X9_out_80 j mTo st 0 q := fun c => by
      unfold f_X8_shadesOfAll
      rw [y_so hV hr hS hA (by omega) (fun k hk => ?_) 8 (Nat.le_refl _), show min 8 q = q by omega]
      rw [zb_not] at c
      have z : zb_an j (zW mTo q i) = 0 := (nI_eq (b := 0) (by have := zb_an_le j (zW mTo q i); omega) (by decide)).mp c
      have w := zb_an_bit (zW mTo q i) (show j < 2 ^ 32 by omega) k
      rw [z, Nat.zero_testBit, hk] at w
      have w' : (zW mTo q i).testBit k = true := by simpa using w.symm
      unfold zW at w'
      rw [bs_bit] at w'
      simp at w'
      exact w'.2
    have no : zo mTo st q (zW mTo q i) h j = false → ((¬ x = 1 → L_X8_out_62 h x (nI (zW mTo q i)) vP vS vD vKi vOw row n (j + 1) (nI (cn (zo mTo st q (zW mTo q i) h) j)) = nI (cn (zo mTo st q (zW mTo q i) h) (j + (n + 1)))) ∧ (x = 1 → ∀ a, ((∀ k, k < j + (n + 1) → zo mTo st q (zW mTo q i) h k = false) → L_X8_out_62 h x (nI (zW mTo q i)) vP vS vD vKi vOw row n (j + 1) a = -4) ∧ ∀ k, j ≤ k → k < j + (n + 1) → zo mTo st q (zW mTo q i) h k = true → (∀ k', k' < k → zo mTo st q (zW mTo q i) h k' = false) → L_X8_out_62 h x (nI (zW mTo q i)) vP vS vD vKi vOw row n (j + 1) a = nI k)) := fun w => by
      refine ⟨fun z => ?_, fun z a => ⟨(j2 z a).1, fun k b c e f => ?_⟩⟩
      · have := j1 z; rw [w] at this; exact this
      · by_cases y : k = j
        · rw [y, w] at e; cases e
        · exact (j2 z a).2 k (by omega) c e f
    by_cases c1 : nI j &&& (nI (zW mTo q i) ^^^ (-1)) = 0
    · simp only [if_pos c1, sum c1]
      by_cases c2 : F_X9_out_80 j mTo st 0 q = h
      · have w : zo mTo st q (zW mTo q i) h j = true := zo_t c1 c2
        simp only [if_pos c2]
        refine ⟨fun z => ?_, fun z a => ⟨fun y => ?_, fun k b c e f => ?_⟩⟩
        · have := j1 z; rw [w, if_pos rfl, nI_succ] at this
          rw [if_neg z]; exact this
        · rw [y j (by omega)] at w; cases w
        · rw [if_pos z]
          by_cases y : k = j
          · rw [y]
          · rw [f j (by omega)] at w; cases w
      · simp only [if_neg c2]
        exact no (zo_2 c2)
    · simp only [if_neg c1]
      exact no (zo_1 c1)
theorem E_out (tN : Int32) (tL : Nat → Int32) (vP : Int32) (vS : Int32) (vD : Int32) (vKi : Nat → Int32) (vMe : Nat → Int32) (vOw : Nat → Int32) (row : Nat → Int32) (uZ : Int32) (uR0 : Nat → Int32) (uR1 : Nat → Int32) (uR2 : Nat → Int32) (uR3 : Nat → Int32) (uR4 : Nat → Int32) (uR5 : Nat → Int32) (uR6 : Nat → Int32) (uR7 : Nat → Int32) (kZ : Int32) (kR0 : Nat → Int32) (kR1 : Nat → Int32) (cZ : Int32) (cPe : Nat → Int32) (cTa : Nat → Int32) (hZ : Int32) (hPe : Nat → Int32) (hLe : Nat → Int32) (hSh : Nat → Int32) (mTy : Nat) (mKn : Nat) (mKe : Nat) (mCa : Nat) (mSe : Nat) (mTx : Nat → Int32) (mTo : Nat → Int32) (mSt : Nat → Int32) (mPa : Nat → Int32) (mIm : Nat → Int32) (mWi : Nat → Int32) (mSn : Nat → Int32) (p0 : Int32) (p1 : Int32) (p2 : Int32) (hI : Inv tN tL vP vS vD vKi vMe vOw row uZ uR0 uR1 uR2 uR3 uR4 uR5 uR6 uR7 kZ kR0 kR1 cZ cPe cTa hZ hPe hLe hSh mTy mKn mKe mCa mSe mTx mTo mSt mPa mIm mWi mSn) : (f_X8_out vP vS vD vKi vOw row p0 p1 p2) = (f_X9_out mTo mSt p0 p1 p2) ∧ Inv tN tL vP vS vD vKi vMe vOw row uZ uR0 uR1 uR2 uR3 uR4 uR5 uR6 uR7 kZ kR0 kR1 cZ cPe cTa hZ hPe hLe hSh mTy mKn mKe mCa mSe mTx mTo mSt mPa mIm mWi mSn := by
  obtain ⟨hT, p, q, d, h1, h2, h⟩ := id hI
  refine ⟨?_, hI⟩
  have hp := h1.1.2.1
  have hq := h1.1.2.2.1
  unfold f_X8_out f_X9_out
  rcases e_hasP (p0 := p0) hp h1.2.1.1 h1.2.1.2.1 with ⟨a, b⟩ | ⟨i, hi, rfl, a, b⟩
  · rw [a, b]; rfl
  rw [a, b, if_neg i1, if_neg i1]
  rcases v_in (a := p1) (M := 99) (N := 99) rfl (by decide) with ⟨e, w⟩ | ⟨n, hn, rfl, e, e1, e2, -⟩
  · rw [if_pos e]
    rcases w with w | w
    · rw [if_pos w]
    · rw [if_neg w.1, if_pos w.2]
  rw [if_neg e1, if_neg e2, e, if_neg i1]
  rcases v_in (a := p2) (M := 1) (N := 1) rfl (by decide) with ⟨f, w⟩ | ⟨m, hm, rfl, f, f1, f2, f3⟩
  · rw [if_pos f]
    rcases w with w | w
    · rw [if_pos w]
    · rw [if_neg w.1, if_neg (Int32.not_le.mpr w.2)]
  rw [if_neg f1, if_pos f3, f, if_neg i1, s_al6 h1 h2.1 (by omega), s_al9 h1 hi]
  by_cases hA : (zA (mTo 2) mSt p).testBit i = true
  · rw [if_pos hA, if_neg i1, if_neg i1, (v_so h1 hi).1, (v_so h1 hi).2]
    obtain ⟨k1, k2⟩ := y_62 h1 h2.1 h2.2 hA (nI n) (nI m) 256 0 (by omega)
    obtain ⟨r1, r2, r3⟩ := y_59 (st := mSt) (W := zW mTo q i) (s_to1 h1) (nI n) 256 0 (-4)
    rcases (show m = 0 ∨ m = 1 by omega) with rfl | rfl
    · rw [if_pos (show nI 0 = 0 from rfl), r1, Int32.zero_add]
      have := k1 (by decide)
      rw [Nat.zero_add] at this
      exact this
    · rw [if_neg (show ¬ nI 1 = 0 by decide)]
      obtain ⟨k3, k4⟩ := k2 rfl 0
      rw [Nat.zero_add] at k3 k4
      rcases fst_or (fun k => zo mTo mSt q (zW mTo q i) (nI n) k = true) 256 with z | ⟨k, x1, x2, x3⟩
      · have z' : ∀ k, k < 256 → zo mTo mSt q (zW mTo q i) (nI n) k = false := fun k hk => by simpa using z k hk
        rw [k3 z', r2 z']
      · have x3' : ∀ k', k' < k → zo mTo mSt q (zW mTo q i) (nI n) k' = false := fun k' hk => by simpa using x3 k' hk
        rw [k4 k (Nat.zero_le _) x1 x2 x3', r3 k x1 x2 x3']
  · rw [if_neg hA]; rfl
theorem yr_x {z k : Nat} (hz : z < 2 ^ 31) (hk : k < 2 ^ 31) : ((7919 * (Int32.toInt64 (nI z))) + (6151 * (Int32.toInt64 (nI k)))) + 1 = lN (7919 * z + 6151 * k + 1) := by
  rw [nI_l hz, nI_l hk, show (7919 : Int64) = lN 7919 from rfl, show (6151 : Int64) = lN 6151 from rfl, lN_mul, lN_mul, lN_add, lN_1]
/-- the draw -/
def zD (z k : Nat) : Nat := (7919 * z + 6151 * k + 1) * (7919 * z + 6151 * k + 1) % 65521 / 8
theorem yr_b {z k : Nat} (hz : z ≤ 9999) (hk : k ≤ 60) : (7919 * z + 6151 * k + 1) * (7919 * z + 6151 * k + 1) < 2 ^ 63 := by
  have h : 7919 * z + 6151 * k + 1 ≤ 80000000 := by omega
  exact Nat.lt_of_le_of_lt (Nat.mul_le_mul h h) (by decide)
theorem yr_D (z k : Nat) : zD z k < 65521 := by
  have : (7919 * z + 6151 * k + 1) * (7919 * z + 6151 * k + 1) % 65521 < 65521 := Nat.mod_lt _ (by decide)
  unfold zD; omega
section YR
variable {p q d : Nat} {vP vS vD : Int32} {vKi vMe vOw mTo row st : Nat → Int32}
theorem yr_c (hV : IvV p q d vP vS vD vKi vMe vOw mTo) (hq0 : 0 < q) {z k : Nat} (hz : z ≤ 9999) (hk : k ≤ 60) : g_X8_stepOfYear_orow vP vS vD vKi vMe vOw row (nI z) (nI k) = if f_X6_isAlive row vP vD (nI (zD z k % p)) = 0 then row else if f_X6_knows row vP vS (nI (zD z k % p)) (nI (zD z k / 6 % q)) = 0 then row else g_X6_speak_row row vP vS vD vKi vOw (nI (zD z k % p)) (nI (zD z k / 6 % q)) (f_X6_meetsOf row vP vD vMe (nI (zD z k % p))) := by
  obtain ⟨⟨hp0, hp, hq, -, -⟩, ⟨rfl, -, rfl, -⟩, -⟩ := hV
  have hb := yr_b hz hk
  have hD := yr_D z k
  have hm : (7919 * z + 6151 * k + 1) * (7919 * z + 6151 * k + 1) % 65521 < 65521 := Nat.mod_lt _ (by decide)
  unfold g_X8_stepOfYear_orow f_X7_people f_X7_secrets
  rw [if_neg (nI_nle hp0 (by omega)), if_pos (Int32.not_le.mp (nI_nle hq0 (by omega))), yr_x (by omega) (by omega), lN_mul, show (65521 : Int64) = lN 65521 from rfl, pk_lRem hb (by decide) (by decide), show (8 : Int64) = lN 8 from rfl, pk_lDiv (by omega) (by decide) (by decide), lN_i]
  rw [show (7919 * z + 6151 * k + 1) * (7919 * z + 6151 * k + 1) % 65521 / 8 = zD z k from rfl, pk_rem (by omega) (by omega) (by omega), show (6 : Int32) = nI 6 from rfl, pk_div (by omega) (by decide) (by decide), pk_rem (by omega) (by omega) (by omega)]
theorem yr_r (hV : IvV p q d vP vS vD vKi vMe vOw mTo) (hq0 : 0 < q) {z j : Nat} (hz : z ≤ 9999) (hj : j ≤ 60) (n : Nat) : L_X9_year_39 (nI z) mTo (n + 1) j st = L_X9_year_39 (nI z) mTo n (j + 1) (if f_X9_isAlive mTo st (nI (zD z j % p)) = 0 then st else if f_X9_knows st (nI (zD z j % p)) (nI (zD z j / 6 % q)) = 0 then st else g_X9_tells_mSt mTo st (nI (zD z j % p)) (nI (zD z j / 6 % q)) (f_X9_met mTo st (nI (zD z j % p)))) := by
  obtain ⟨⟨hp0, hp, hq, -, -⟩, ⟨-, e0, -, e1, -⟩, -⟩ := hV
  have hb := yr_b hz hj
  have hD := yr_D z j
  have hm : (7919 * z + 6151 * j + 1) * (7919 * z + 6151 * j + 1) % 65521 < 65521 := Nat.mod_lt _ (by decide)
  rw [L_X9_year_39, e0, e1, if_neg (nI_nle hq0 (by omega)), yr_x (by omega) (by omega), lN_mul, show (65521 : Int64) = lN 65521 from rfl, pk_lRem hb (by decide) (by decide), lN_i, show (8 : Int32) = nI 8 from rfl, pk_div (by omega) (by decide) (by decide)]
  rw [show (7919 * z + 6151 * j + 1) * (7919 * z + 6151 * j + 1) % 65521 / 8 = zD z j from rfl, pk_rem (by omega) (by omega) (by omega), show (6 : Int32) = nI 6 from rfl, pk_div (by omega) (by decide) (by decide), pk_rem (by omega) (by omega) (by omega)]
  split
  · rfl
  split
  · rfl
  rfl
theorem yr_L (hV : IvV p q d vP vS vD vKi vMe vOw mTo) (r0 : Nat → Int32) {z : Nat} (hz : z ≤ 9999) (n j : Nat) (st : Nat → Int32) (hj : j + n ≤ 60) (hr : ∀ k, k < 15 → F_X8_year_47 (nI z) vP vS vD vKi vMe vOw r0 j k = st k) (hS : StOK p q mTo st) : (∀ k, k < 15 → F_X8_year_47 (nI z) vP vS vD vKi vMe vOw r0 (j + n) k = L_X9_year_39 (nI z) mTo n j st k) ∧ StOK p q mTo (L_X9_year_39 (nI z) mTo n j st) := by
  have hp := hV.1.2.1
  have hq := hV.1.2.2.1
  induction n generalizing j st with
  | zero => exact ⟨hr, hS⟩
  | succ n ih =>
    rcases Nat.eq_zero_or_pos q with q0 | q0
    · have e : L_X9_year_39 (nI z) mTo (n + 1) j st = st := by
        rw [L_X9_year_39, hV.2.1.2.2.2.1, q0, if_pos (by decide)]
      have e' : ∀ m, F_X8_year_47 (nI z) vP vS vD vKi vMe vOw r0 m = r0 := fun m => by
        induction m with
        | zero => rfl
        | succ m i => rw [F_X8_year_47, i, g_X8_stepOfYear_orow, f_X7_secrets, hV.2.1.2.2.1, q0, if_neg (show ¬ (0 : Int32) < nI 0 by decide), ite_self]
      rw [e, e' (j + (n + 1)), ← e' j]
      exact ⟨hr, hS⟩
    · rw [yr_r hV q0 hz (by omega), show j + (n + 1) = j + 1 + n by omega]
      have hi : zD z j % p < p := Nat.mod_lt _ hV.1.1
      have hk : zD z j / 6 % q < q := Nat.mod_lt _ q0
      have es : F_X8_year_47 (nI z) vP vS vD vKi vMe vOw r0 (j + 1) = g_X8_stepOfYear_orow vP vS vD vKi vMe vOw (F_X8_year_47 (nI z) vP vS vD vKi vMe vOw r0 j) (nI z) (nI j) := rfl
      rw [yr_c hV q0 hz (by omega)] at es
      rw [s_al6 hV hr (by omega), s_knows6 hV hr hS (by omega) hk, s_meet6 hV hr (by omega)] at es
      rw [s_al9 hV hi, s_knows9 hq hp hS (by omega) hk, s_meet9 hV hi]
      by_cases c1 : (zA (mTo 2) st p).testBit (zD z j % p) = true
      · rw [if_pos c1, if_neg i1] at es ⊢
        by_cases c2 : (zK st (zD z j / 6 % q)).testBit (zD z j % p) = true
        · rw [if_pos c2, if_neg i1] at es ⊢
          obtain ⟨t1, t2, -, -, -⟩ := t_tells hV hr hS hi hk (fun j w => (zM_bit mTo w).2)
          exact ih (j + 1) _ (by omega) (fun k hk => by rw [es]; exact t1 k hk) t2
        · rw [if_neg c2, if_pos rfl] at es ⊢
          exact ih (j + 1) _ (by omega) (fun k hk => by rw [es]; exact hr k hk) hS
      · rw [if_neg c1, if_pos rfl] at es ⊢
        exact ih (j + 1) _ (by omega) (fun k hk => by rw [es]; exact hr k hk) hS
theorem yr_sm (hV : IvV p q d vP vS vD vKi vMe vOw mTo) (hr : ∀ k, k < 15 → row k = st k) (n : Nat) (hn : n ≤ 6) : F_X6_agesTogether_4 row vP 0 n = F_X9_year_175 st 0 (min n p) := by
  have hp := hV.1.2.1
  induction n with
  | zero => rw [Nat.zero_min]; rfl
  | succ n ih =>
    have ih := ih (by omega)
    rw [F_X6_agesTogether_4, f_X6_ageOf, s_has6 hV (by omega)]
    by_cases c : n < p
    · rw [show min (n + 1) p = min n p + 1 by omega, F_X9_year_175, show min n p = n by omega]
      rw [show min n p = n by omega] at ih
      rw [if_pos c, if_neg i1, nI_clamp (by omega), ih, hr n (by omega)]
    · rw [if_neg c, if_pos rfl, ih, Int32.add_zero, show min (n + 1) p = min n p by omega]
end YR
theorem E_year (tN : Int32) (tL : Nat → Int32) (vP : Int32) (vS : Int32) (vD : Int32) (vKi : Nat → Int32) (vMe : Nat → Int32) (vOw : Nat → Int32) (row : Nat → Int32) (orow : Nat → Int32) (uZ : Int32) (uR0 : Nat → Int32) (uR1 : Nat → Int32) (uR2 : Nat → Int32) (uR3 : Nat → Int32) (uR4 : Nat → Int32) (uR5 : Nat → Int32) (uR6 : Nat → Int32) (uR7 : Nat → Int32) (kZ : Int32) (kR0 : Nat → Int32) (kR1 : Nat → Int32) (cZ : Int32) (cPe : Nat → Int32) (cTa : Nat → Int32) (hZ : Int32) (hPe : Nat → Int32) (hLe : Nat → Int32) (hSh : Nat → Int32) (mTy : Nat) (mKn : Nat) (mKe : Nat) (mCa : Nat) (mSe : Nat) (mTx : Nat → Int32) (mTo : Nat → Int32) (mSt : Nat → Int32) (mPa : Nat → Int32) (mIm : Nat → Int32) (mWi : Nat → Int32) (mSn : Nat → Int32) (mHe : Nat → Int32) (p0 : Int32) (p1 : Int32) (p2 : Int32) (hI : Inv tN tL vP vS vD vKi vMe vOw row uZ uR0 uR1 uR2 uR3 uR4 uR5 uR6 uR7 kZ kR0 kR1 cZ cPe cTa hZ hPe hLe hSh mTy mKn mKe mCa mSe mTx mTo mSt mPa mIm mWi mSn) : (f_X8_year vP vS vD vKi vMe vOw row orow p0 p1 p2) = (f_X9_year mTo mSt p0 p1 p2) ∧ Inv tN tL vP vS vD vKi vMe vOw row uZ uR0 uR1 uR2 uR3 uR4 uR5 uR6 uR7 kZ kR0 kR1 cZ cPe cTa hZ hPe hLe hSh mTy mKn mKe mCa mSe mTx mTo (g_X9_year_mSt mTo mSt mHe p0 p1 p2) mPa mIm mWi mSn := by
  obtain ⟨hT, p, q, d, h1, h2, h⟩ := id hI
  have hp := h1.1.2.1
  have hq := h1.1.2.2.1
  have h64 := p64 hp
  refine ⟨?_, hT, p, q, d, h1, v_IvS hq h2 (fun k hk => ?_), h⟩
  · unfold f_X8_year f_X9_year
    rcases v_in (a := p0) (M := 9999) (N := 9999) rfl (by decide) with ⟨e, w⟩ | ⟨z, hz, rfl, e, e1, e2, -⟩
    · rw [if_pos e]
      rcases w with w | w
      · rw [if_pos w]
      · rw [if_neg w.1, if_pos w.2]
    rw [if_neg e1, if_neg e2, e, if_neg i1]
    by_cases c1 : p1 < 1
    · rw [if_pos c1, f_X9_in, if_pos c1, if_pos rfl]
    by_cases c2 : 60 < p1
    · rw [if_neg c1, if_pos c2, f_X9_in, if_neg c1, if_pos c2, if_pos rfl]
    rw [if_neg c1, if_neg c2, f_X9_in, if_neg c1, if_neg c2, if_neg i1]
    obtain ⟨n, hn, rfl⟩ := nI_of2 (x := p1) (M := 60) (n := 60) rfl (fun w => c1 (Int32.lt_trans w (by decide))) (Int32.not_lt.mp c2)
    rcases v_in (a := p2) (M := 1) (N := 1) rfl (by decide) with ⟨f, w⟩ | ⟨m, hm, rfl, f, f1, f2, f3⟩
    · rw [if_pos f]
      rcases w with w | w
      · rw [if_pos w]
      · rw [if_neg w.1, if_neg (Int32.not_le.mpr w.2)]
    obtain ⟨g1, g2⟩ := yr_L h1 (g_X6_copy_row orow row) hz n 0 mSt (by omega) (v_copy h2.1) h2.2
    rw [Nat.zero_add] at g1
    have ha : f_X6_agesTogether (F_X8_year_47 (nI z) vP vS vD vKi vMe vOw (g_X6_copy_row orow row) n) vP = F_X9_year_175 (L_X9_year_39 (nI z) mTo n 0 mSt) 0 p := by
      unfold f_X6_agesTogether
      rw [yr_sm h1 g1 6 (Nat.le_refl _), show min 6 p = p by omega]
    rw [if_neg f1, if_pos f3, f, if_neg i1, nI_clamp (by omega), s_liv h1 g1, s_liv9 h1, zb_ones _ (by have := zA_lt (mTo 2) (L_X9_year_39 (nI z) mTo n 0 mSt) p; omega), ha, s_to0 h1, f_X7_people, h1.2.1.1, h1.2.1.2.1]
  · unfold g_X9_year_mSt
    split
    · rfl
    split
    · rfl
    split
    · rfl
    exact v_lets hk
theorem E_keep (tN : Int32) (tL : Nat → Int32) (vP : Int32) (vS : Int32) (vD : Int32) (vKi : Nat → Int32) (vMe : Nat → Int32) (vOw : Nat → Int32) (row : Nat → Int32) (uZ : Int32) (uR0 : Nat → Int32) (uR1 : Nat → Int32) (uR2 : Nat → Int32) (uR3 : Nat → Int32) (uR4 : Nat → Int32) (uR5 : Nat → Int32) (uR6 : Nat → Int32) (uR7 : Nat → Int32) (kZ : Int32) (kR0 : Nat → Int32) (kR1 : Nat → Int32) (cZ : Int32) (cPe : Nat → Int32) (cTa : Nat → Int32) (hZ : Int32) (hPe : Nat → Int32) (hLe : Nat → Int32) (hSh : Nat → Int32) (mTy : Nat) (mKn : Nat) (mKe : Nat) (mCa : Nat) (mSe : Nat) (mTx : Nat → Int32) (mTo : Nat → Int32) (mSt : Nat → Int32) (mPa : Nat → Int32) (mIm : Nat → Int32) (mWi : Nat → Int32) (mSn : Nat → Int32)  (hI : Inv tN tL vP vS vD vKi vMe vOw row uZ uR0 uR1 uR2 uR3 uR4 uR5 uR6 uR7 kZ kR0 kR1 cZ cPe cTa hZ hPe hLe hSh mTy mKn mKe mCa mSe mTx mTo mSt mPa mIm mWi mSn) : (f_X8_keep kZ) = (f_X9_keep mKe) ∧ Inv tN tL vP vS vD vKi vMe vOw row uZ uR0 uR1 uR2 uR3 uR4 uR5 uR6 uR7 (g_X8_keep_kZ kZ) (g_X8_keep_kR0 row kZ kR0) (g_X8_keep_kR1 row kZ kR1) cZ cPe cTa hZ hPe hLe hSh mTy mKn (g_X9_keep_mKe mKe) mCa mSe mTx mTo mSt mPa (g_X9_keep_mIm mKe mSt mIm) mWi mSn := by
  obtain ⟨hT, p, q, d, h1, h2, h3, ⟨u1, b2, u3, u4⟩, h4⟩ := hI
  subst u1
  have hq := h1.1.2.2.1
  rcases Nat.lt_or_ge mKe 2 with w | w
  · have n0 : ¬ nI mKe < 0 := nI_pos (by omega)
    have n1 : nI mKe < 2 := nI_lt (b := 2) w (by decide)
    have n2 : ¬ nI mKe = 2 := fun e => by rw [e] at n1; exact absurd n1 (by decide)
    have n3 : ¬ (1 : Int32) = 0 := by decide
    simp only [f_X8_keep, f_X9_keep, g_X8_keep_kZ, g_X9_keep_mKe, g_X9_keep_mIm, f_X4_push2, g_X4_push2_uZ, f_X4_size2, if_neg n0, if_pos n1, if_neg n2, if_neg n3, nI_1]
    have e : ∀ r k, k < 15 → r < mKe → F_X9_keep_13 mKe mSt mIm 15 (15 * r + k) = mIm (15 * r + k) := fun r k hk hr => by rw [e_ke, if_neg (by omega)]
    have e' : ∀ k, k < 15 → F_X9_keep_13 mKe mSt mIm 15 (15 * mKe + k) = mSt k := fun k hk => by rw [e_ke, if_pos (by omega), Nat.add_sub_cancel_left]
    refine ⟨trivial, hT, p, q, d, h1, h2, h3, ⟨rfl, by omega, fun r hr k hk => ?_, fun r hr => ?_⟩, h4⟩
    · by_cases c : r = mKe
      · subst c
        rw [e' k hk, ← h2.1 k hk]
        rcases (show r = 0 ∨ r = 1 by omega) with rfl | rfl
        · show g_X6_copyInto_cel row kR0 k = row k
          rw [e_ci k hk]
        · show g_X6_copyInto_cel row kR1 k = row k
          rw [e_ci k hk]
      · rw [e r k hk (by omega), ← u3 r (by omega) k hk]
        rcases (show r = 0 ∧ mKe = 1 by omega) with ⟨rfl, rfl⟩
        rfl
    · by_cases c : r = mKe
      · subst c; exact e_StOK hq h2.2 e'
      · exact e_StOK hq (u4 r (by omega)) (fun k hk => e r k hk (by omega))
  · have c : mKe = 2 := by omega
    subst c
    exact ⟨rfl, hT, p, q, d, h1, h2, h3, ⟨rfl, b2, u3, u4⟩, h4⟩
theorem E_back (tN : Int32) (tL : Nat → Int32) (vP : Int32) (vS : Int32) (vD : Int32) (vKi : Nat → Int32) (vMe : Nat → Int32) (vOw : Nat → Int32) (row : Nat → Int32) (uZ : Int32) (uR0 : Nat → Int32) (uR1 : Nat → Int32) (uR2 : Nat → Int32) (uR3 : Nat → Int32) (uR4 : Nat → Int32) (uR5 : Nat → Int32) (uR6 : Nat → Int32) (uR7 : Nat → Int32) (kZ : Int32) (kR0 : Nat → Int32) (kR1 : Nat → Int32) (cZ : Int32) (cPe : Nat → Int32) (cTa : Nat → Int32) (hZ : Int32) (hPe : Nat → Int32) (hLe : Nat → Int32) (hSh : Nat → Int32) (mTy : Nat) (mKn : Nat) (mKe : Nat) (mCa : Nat) (mSe : Nat) (mTx : Nat → Int32) (mTo : Nat → Int32) (mSt : Nat → Int32) (mPa : Nat → Int32) (mIm : Nat → Int32) (mWi : Nat → Int32) (mSn : Nat → Int32)  (hI : Inv tN tL vP vS vD vKi vMe vOw row uZ uR0 uR1 uR2 uR3 uR4 uR5 uR6 uR7 kZ kR0 kR1 cZ cPe cTa hZ hPe hLe hSh mTy mKn mKe mCa mSe mTx mTo mSt mPa mIm mWi mSn) : (f_X8_back kZ) = (f_X9_back mKe) ∧ Inv tN tL vP vS vD vKi vMe vOw (g_X8_back_row row kZ kR0 kR1) (g_X8_back_uZ uZ kZ) uR0 uR1 uR2 uR3 uR4 uR5 uR6 uR7 (g_X8_back_kZ kZ) kR0 kR1 cZ cPe cTa hZ hPe hLe hSh mTy (g_X9_back_mKn mKn mKe) (g_X9_back_mKe mKe) mCa mSe mTx mTo (g_X9_back_mSt mKe mSt mIm) mPa mIm mWi mSn := by
  obtain ⟨hT, p, q, d, h1, h2, ⟨v1, v2, v3, v4⟩, ⟨u1, b2, u3, u4⟩, h4⟩ := hI
  subst u1
  rcases mKe with _ | r
  · exact ⟨rfl, hT, p, q, d, h1, h2, ⟨v1, v2, v3, v4⟩, ⟨rfl, b2, u3, u4⟩, h4⟩
  · have n0 : ¬ nI (r + 1) = 0 := nI_ne0 (by omega) (by omega)
    have n1 : ¬ nI (r + 1) ≤ 0 := nI_nle (by omega) (by omega)
    have n2 : nI (r + 1) ≤ 2 := nI_le (b := 2) (by omega) (by decide)
    have n3 : ¬ (1 : Int32) = 0 := by decide
    have e : ∀ k, k < 15 → F_X9_back_22 r mIm mSt 15 k = mIm (15 * r + k) := fun k hk => by rw [e_ba, if_pos hk]
    simp only [f_X8_back, f_X9_back, g_X8_back_kZ, g_X8_back_uZ, g_X9_back_mKe, g_X9_back_mKn, g_X9_back_mSt, f_X4_pop2, g_X4_pop2_uZ, f_X4_size2, if_neg n0, if_neg n1, if_pos n2, if_neg n3, nI_pred, Nat.add_sub_cancel]
    refine ⟨trivial, hT, p, q, d, h1, ⟨fun k hk => ?_, e_StOK h1.1.2.2.1 (u4 r (by omega)) e⟩, ⟨rfl, Nat.zero_le _, fun k hk => absurd hk (Nat.not_lt_zero k), fun k hk => absurd hk (Nat.not_lt_zero k)⟩, ⟨rfl, by omega, fun r' h => u3 r' (by omega), fun r' h => u4 r' (by omega)⟩, h4⟩
    rw [e k hk, ← u3 r (by omega) k hk]
    rcases (show r = 0 ∨ r = 1 by omega) with rfl | rfl
    · show g_X6_copyFrom_row row kR0 k = kR0 k
      rw [g_X6_copyFrom_row, e_cf, if_pos hk]
    · show g_X6_copyFrom_row row kR1 k = kR1 k
      rw [g_X6_copyFrom_row, e_cf, if_pos hk]
theorem E_count (tN : Int32) (tL : Nat → Int32) (vP : Int32) (vS : Int32) (vD : Int32) (vKi : Nat → Int32) (vMe : Nat → Int32) (vOw : Nat → Int32) (row : Nat → Int32) (uZ : Int32) (uR0 : Nat → Int32) (uR1 : Nat → Int32) (uR2 : Nat → Int32) (uR3 : Nat → Int32) (uR4 : Nat → Int32) (uR5 : Nat → Int32) (uR6 : Nat → Int32) (uR7 : Nat → Int32) (kZ : Int32) (kR0 : Nat → Int32) (kR1 : Nat → Int32) (cZ : Int32) (cPe : Nat → Int32) (cTa : Nat → Int32) (hZ : Int32) (hPe : Nat → Int32) (hLe : Nat → Int32) (hSh : Nat → Int32) (mTy : Nat) (mKn : Nat) (mKe : Nat) (mCa : Nat) (mSe : Nat) (mTx : Nat → Int32) (mTo : Nat → Int32) (mSt : Nat → Int32) (mPa : Nat → Int32) (mIm : Nat → Int32) (mWi : Nat → Int32) (mSn : Nat → Int32) (p0 : Int32) (hI : Inv tN tL vP vS vD vKi vMe vOw row uZ uR0 uR1 uR2 uR3 uR4 uR5 uR6 uR7 kZ kR0 kR1 cZ cPe cTa hZ hPe hLe hSh mTy mKn mKe mCa mSe mTx mTo mSt mPa mIm mWi mSn) : (f_X8_count tN vP vS vD row uZ kZ cZ hZ p0) = (f_X9_count mTy mKn mKe mCa mSe mTo mSt p0) ∧ Inv tN tL vP vS vD vKi vMe vOw row uZ uR0 uR1 uR2 uR3 uR4 uR5 uR6 uR7 kZ kR0 kR1 cZ cPe cTa hZ hPe hLe hSh mTy mKn mKe mCa mSe mTx mTo mSt mPa mIm mWi mSn := by
  obtain ⟨hT, p, q, d, h1, h2, h3, h4, h5, h6⟩ := id hI
  refine ⟨?_, hI⟩
  have hp := h1.1.2.1
  have h64 := p64 hp
  obtain ⟨e1, e2, e3, e4, e5, e6⟩ := h1.2.1
  unfold f_X8_count f_X9_count f_X7_people f_X7_secrets f_X7_deathAge f_X6_days f_X1_size f_X5_size f_X4_size8 f_X4_size2 f_X3_size
  rw [s_liv h1 h2.1, s_liv9 h1, zb_ones _ (by have := zA_lt (mTo 2) mSt p; omega), e1, e2, e3, e4, e5, e6, h2.1 14 (by omega), hT.1, h3.1, h4.1, h5.1, h6.1]
