theorem okM_ne {t : Nat → Int32} (h : okM t) : ¬ t 0 = 0 := by
  obtain ⟨⟨p, hp1, hp, e⟩, -⟩ := h
  rw [e]
  exact nI_ne0 (by omega) (by omega)
theorem ne_nle {x : Int32} (h : ¬ x ≤ 0) : ¬ x = 0 := fun q => h (by rw [q]; decide)
theorem okM_b {t : Nat → Int32} (h : okM t) : 1 ≤ (1 <<< (t 0 &&& 31) : Int32).toNatClampNeg ∧ (1 <<< (t 0 &&& 31) : Int32).toNatClampNeg ≤ 64 := by
  obtain ⟨⟨p, hp1, hp, e⟩, -⟩ := h
  rw [e]
  rcases (show p = 1 ∨ p = 2 ∨ p = 3 ∨ p = 4 ∨ p = 5 ∨ p = 6 by omega) with rfl | rfl | rfl | rfl | rfl | rfl <;> decide
theorem left_in {s j : Nat} (hs : s < 64) (hj : j < 6) : vp_in (nI s ^^^ (1 <<< (nI j &&& 31))) 64 := by
  have e : ∀ j, j < 6 → (1 <<< (nI j &&& 31) : Int32) = nI (2 ^ j) := by decide
  have ex : nI s ^^^ nI (2 ^ j) = nI (s ^^^ 2 ^ j) := by
    apply Int32.toBitVec_inj.mp
    apply BitVec.eq_of_toNat_eq
    have h1 : (nI s).toBitVec.toNat = s := pk_tn (by omega)
    have h2 : (nI (2 ^ j)).toBitVec.toNat = 2 ^ j := pk_tn (Nat.lt_of_le_of_lt (Nat.pow_le_pow_right (by decide) (show j ≤ 6 by omega)) (by decide))
    have h3 : s ^^^ 2 ^ j < 2 ^ 6 := Nat.xor_lt_two_pow hs (Nat.pow_lt_pow_right (by decide) hj)
    have h4 : (nI (s ^^^ 2 ^ j)).toBitVec.toNat = s ^^^ 2 ^ j := pk_tn (by omega)
    rw [h4, Int32.toBitVec_xor, BitVec.toNat_xor, h1, h2]
  rw [e j hj, ex]
  exact vp_in_nI (Nat.xor_lt_two_pow (n := 6) hs (Nat.pow_lt_pow_right (by decide) hj)) (by decide)
theorem fw_in {x : Int32} {b : Nat} (h : vp_in x 64) (hb : b < 6) : vp_in (6 * x + nI b) 384 := by
  obtain ⟨j, hj, rfl⟩ := vp_in_of h (by decide)
  have e : (6 : Int32) * nI j = nI (6 * j) := pk_mul 6 j
  rw [e, nI_add]
  exact vp_in_nI (by omega) (by decide)
theorem reads_L (mTy : Nat) (mTx : Nat → Int32) : ∀ (n a : Nat) (f s : Int32) (d : Nat → Int32), vp_in (d 0) 7 → vp_in (d 1) 9 → vp_in ((L_X9_reads_9 mTy mTx n a f s d).2.2.2.2 0) 7 ∧ vp_in ((L_X9_reads_9 mTy mTx n a f s d).2.2.2.2 1) 9
  | 0, a, f, s, d, h0, h1 => ⟨h0, h1⟩
  | n + 1, a, f, s, d, h0, h1 => by
    have hd := rI_d mTy (a + 1) s mTx d (mTx a) h0 h1
    have ih := reads_L mTy mTx n (g_X9_readsItem_mAt mTy (a + 1) mTx (mTx a)) (g_X9_readsItem_mFi mTy (a + 1) f mTx (mTx a)) (g_X9_readsItem_mSc mTy (a + 1) s mTx (mTx a)) (g_X9_readsItem_mDr mTy (a + 1) s mTx d (mTx a)) hd.1 hd.2
    simp only [L_X9_reads_9]
    split
    · exact ⟨h0, h1⟩
    · split
      · exact hd
      · exact ih
theorem reads_d0 (mTy : Nat) (mFi : Int32) (mSc : Int32) (mTx : Nat → Int32) (mDr : Nat → Int32) : (Int32.toNatClampNeg (g_X9_reads_mDr mTy mFi mSc mTx mDr 0)) ≤ 6 := by
  have h := cl_lt (reads_L mTy mTx 201 0 mFi mSc (g_X9_begins_mDr mDr) (beg_d mDr).1 (beg_d mDr).2).1
  unfold g_X9_reads_mDr
  omega
def L_X9_lay_26 (mDr : Nat → Int32) : Nat → Nat → Int32 → Int32
  | 0, j26_, a0_ => a0_
  | n26_ + 1, j26_, a0_ => (if a0_ = 0 then a0_ else (if (mDr 2) ≤ (mDr (3 + j26_)) then L_X9_lay_26 mDr n26_ (j26_ + 1) 0 else L_X9_lay_26 mDr n26_ (j26_ + 1) 1))
def f_X9_lay (mTy : Nat) (mFi : Int32) (mSc : Int32) (mTx : Nat → Int32) (mTo : Nat → Int32) (mDr : Nat → Int32) : Int32 := (if (f_X9_reads mTy mFi mSc mTx mDr) = (-4) then (if ((g_X9_reads_mDr mTy mFi mSc mTx mDr) 0) ≤ 0 then (if (L_X9_lay_26 (g_X9_reads_mDr mTy mFi mSc mTx mDr) (Int32.toNatClampNeg ((g_X9_reads_mDr mTy mFi mSc mTx mDr) 0)) 0 0) = 0 then (-2) else ((g_X9_lays_mTo mTo (g_X9_reads_mDr mTy mFi mSc mTx mDr)) 0)) else (if (L_X9_lay_26 (g_X9_reads_mDr mTy mFi mSc mTx mDr) (Int32.toNatClampNeg ((g_X9_reads_mDr mTy mFi mSc mTx mDr) 0)) 0 1) = 0 then (-2) else ((g_X9_lays_mTo mTo (g_X9_reads_mDr mTy mFi mSc mTx mDr)) 0))) else (if (L_X9_lay_26 (g_X9_reads_mDr mTy mFi mSc mTx mDr) (Int32.toNatClampNeg ((g_X9_reads_mDr mTy mFi mSc mTx mDr) 0)) 0 0) = 0 then (-2) else ((g_X9_lays_mTo mTo (g_X9_reads_mDr mTy mFi mSc mTx mDr)) 0)))
def g_X9_lay_mKn (mTy : Nat) (mKn : Nat) (mFi : Int32) (mSc : Int32) (mTx : Nat → Int32) (mDr : Nat → Int32) : Nat := (if (f_X9_reads mTy mFi mSc mTx mDr) = (-4) then (if ((g_X9_reads_mDr mTy mFi mSc mTx mDr) 0) ≤ 0 then (if (L_X9_lay_26 (g_X9_reads_mDr mTy mFi mSc mTx mDr) (Int32.toNatClampNeg ((g_X9_reads_mDr mTy mFi mSc mTx mDr) 0)) 0 0) = 0 then mKn else g_X9_lays_mKn) else (if (L_X9_lay_26 (g_X9_reads_mDr mTy mFi mSc mTx mDr) (Int32.toNatClampNeg ((g_X9_reads_mDr mTy mFi mSc mTx mDr) 0)) 0 1) = 0 then mKn else g_X9_lays_mKn)) else (if (L_X9_lay_26 (g_X9_reads_mDr mTy mFi mSc mTx mDr) (Int32.toNatClampNeg ((g_X9_reads_mDr mTy mFi mSc mTx mDr) 0)) 0 0) = 0 then mKn else g_X9_lays_mKn))
def g_X9_lay_mKe (mTy : Nat) (mKe : Nat) (mFi : Int32) (mSc : Int32) (mTx : Nat → Int32) (mDr : Nat → Int32) : Nat := (if (f_X9_reads mTy mFi mSc mTx mDr) = (-4) then (if ((g_X9_reads_mDr mTy mFi mSc mTx mDr) 0) ≤ 0 then (if (L_X9_lay_26 (g_X9_reads_mDr mTy mFi mSc mTx mDr) (Int32.toNatClampNeg ((g_X9_reads_mDr mTy mFi mSc mTx mDr) 0)) 0 0) = 0 then mKe else g_X9_lays_mKe) else (if (L_X9_lay_26 (g_X9_reads_mDr mTy mFi mSc mTx mDr) (Int32.toNatClampNeg ((g_X9_reads_mDr mTy mFi mSc mTx mDr) 0)) 0 1) = 0 then mKe else g_X9_lays_mKe)) else (if (L_X9_lay_26 (g_X9_reads_mDr mTy mFi mSc mTx mDr) (Int32.toNatClampNeg ((g_X9_reads_mDr mTy mFi mSc mTx mDr) 0)) 0 0) = 0 then mKe else g_X9_lays_mKe))
def g_X9_lay_mCa (mTy : Nat) (mCa : Nat) (mFi : Int32) (mSc : Int32) (mTx : Nat → Int32) (mDr : Nat → Int32) : Nat := (if (f_X9_reads mTy mFi mSc mTx mDr) = (-4) then (if ((g_X9_reads_mDr mTy mFi mSc mTx mDr) 0) ≤ 0 then (if (L_X9_lay_26 (g_X9_reads_mDr mTy mFi mSc mTx mDr) (Int32.toNatClampNeg ((g_X9_reads_mDr mTy mFi mSc mTx mDr) 0)) 0 0) = 0 then mCa else g_X9_lays_mCa) else (if (L_X9_lay_26 (g_X9_reads_mDr mTy mFi mSc mTx mDr) (Int32.toNatClampNeg ((g_X9_reads_mDr mTy mFi mSc mTx mDr) 0)) 0 1) = 0 then mCa else g_X9_lays_mCa)) else (if (L_X9_lay_26 (g_X9_reads_mDr mTy mFi mSc mTx mDr) (Int32.toNatClampNeg ((g_X9_reads_mDr mTy mFi mSc mTx mDr) 0)) 0 0) = 0 then mCa else g_X9_lays_mCa))
def g_X9_lay_mSe (mTy : Nat) (mSe : Nat) (mFi : Int32) (mSc : Int32) (mTx : Nat → Int32) (mDr : Nat → Int32) : Nat := (if (f_X9_reads mTy mFi mSc mTx mDr) = (-4) then (if ((g_X9_reads_mDr mTy mFi mSc mTx mDr) 0) ≤ 0 then (if (L_X9_lay_26 (g_X9_reads_mDr mTy mFi mSc mTx mDr) (Int32.toNatClampNeg ((g_X9_reads_mDr mTy mFi mSc mTx mDr) 0)) 0 0) = 0 then mSe else g_X9_lays_mSe) else (if (L_X9_lay_26 (g_X9_reads_mDr mTy mFi mSc mTx mDr) (Int32.toNatClampNeg ((g_X9_reads_mDr mTy mFi mSc mTx mDr) 0)) 0 1) = 0 then mSe else g_X9_lays_mSe)) else (if (L_X9_lay_26 (g_X9_reads_mDr mTy mFi mSc mTx mDr) (Int32.toNatClampNeg ((g_X9_reads_mDr mTy mFi mSc mTx mDr) 0)) 0 0) = 0 then mSe else g_X9_lays_mSe))
def g_X9_lay_mAt (mTy : Nat) (mFi : Int32) (mSc : Int32) (mTx : Nat → Int32) (mDr : Nat → Int32) : Nat := (g_X9_reads_mAt mTy mFi mSc mTx mDr)
def g_X9_lay_mFi (mTy : Nat) (mFi : Int32) (mSc : Int32) (mTx : Nat → Int32) (mDr : Nat → Int32) : Int32 := (g_X9_reads_mFi mTy mFi mSc mTx mDr)
def g_X9_lay_mSc (mTy : Nat) (mFi : Int32) (mSc : Int32) (mTx : Nat → Int32) (mDr : Nat → Int32) : Int32 := (g_X9_reads_mSc mTy mFi mSc mTx mDr)
def g_X9_lay_mTo (mTy : Nat) (mFi : Int32) (mSc : Int32) (mTx : Nat → Int32) (mTo : Nat → Int32) (mDr : Nat → Int32) : Nat → Int32 := (if (f_X9_reads mTy mFi mSc mTx mDr) = (-4) then (if ((g_X9_reads_mDr mTy mFi mSc mTx mDr) 0) ≤ 0 then (if (L_X9_lay_26 (g_X9_reads_mDr mTy mFi mSc mTx mDr) (Int32.toNatClampNeg ((g_X9_reads_mDr mTy mFi mSc mTx mDr) 0)) 0 0) = 0 then mTo else (g_X9_lays_mTo mTo (g_X9_reads_mDr mTy mFi mSc mTx mDr))) else (if (L_X9_lay_26 (g_X9_reads_mDr mTy mFi mSc mTx mDr) (Int32.toNatClampNeg ((g_X9_reads_mDr mTy mFi mSc mTx mDr) 0)) 0 1) = 0 then mTo else (g_X9_lays_mTo mTo (g_X9_reads_mDr mTy mFi mSc mTx mDr)))) else (if (L_X9_lay_26 (g_X9_reads_mDr mTy mFi mSc mTx mDr) (Int32.toNatClampNeg ((g_X9_reads_mDr mTy mFi mSc mTx mDr) 0)) 0 0) = 0 then mTo else (g_X9_lays_mTo mTo (g_X9_reads_mDr mTy mFi mSc mTx mDr))))
def g_X9_lay_mDr (mTy : Nat) (mFi : Int32) (mSc : Int32) (mTx : Nat → Int32) (mDr : Nat → Int32) : Nat → Int32 := (g_X9_reads_mDr mTy mFi mSc mTx mDr)
def g_X9_lay_mSt (mTy : Nat) (mFi : Int32) (mSc : Int32) (mTx : Nat → Int32) (mTo : Nat → Int32) (mDr : Nat → Int32) (mSt : Nat → Int32) : Nat → Int32 := (if (f_X9_reads mTy mFi mSc mTx mDr) = (-4) then (if ((g_X9_reads_mDr mTy mFi mSc mTx mDr) 0) ≤ 0 then (if (L_X9_lay_26 (g_X9_reads_mDr mTy mFi mSc mTx mDr) (Int32.toNatClampNeg ((g_X9_reads_mDr mTy mFi mSc mTx mDr) 0)) 0 0) = 0 then mSt else (g_X9_lays_mSt mTo (g_X9_reads_mDr mTy mFi mSc mTx mDr) mSt)) else (if (L_X9_lay_26 (g_X9_reads_mDr mTy mFi mSc mTx mDr) (Int32.toNatClampNeg ((g_X9_reads_mDr mTy mFi mSc mTx mDr) 0)) 0 1) = 0 then mSt else (g_X9_lays_mSt mTo (g_X9_reads_mDr mTy mFi mSc mTx mDr) mSt))) else (if (L_X9_lay_26 (g_X9_reads_mDr mTy mFi mSc mTx mDr) (Int32.toNatClampNeg ((g_X9_reads_mDr mTy mFi mSc mTx mDr) 0)) 0 0) = 0 then mSt else (g_X9_lays_mSt mTo (g_X9_reads_mDr mTy mFi mSc mTx mDr) mSt)))
abbrev rm_X9_lay : Room := { frames := 6, cells := 0, slots := 0, locals := 125 }
set_option maxRecDepth 100000 in
set_option maxHeartbeats 4000000 in
theorem c_X9_lay (l : Launch) (D : va_G) (cI cC cG : ClassId) (m0 : Nat) (m1 : Nat) (m2 : Nat) (m3 : Nat) (m4 : Nat) (m5 : Nat) (m6 : Nat) (m7 : Nat) (m8 : Nat) (m9 : Nat) (m10 : Nat) (m11 : Nat) (m12 : Nat) (mTy : Nat) (mKn : Nat) (mKe : Nat) (mCa : Nat) (mSe : Nat) (mAt : Nat) (mFi : Int32) (mSc : Int32) (mTx : Nat → Int32) (mTo : Nat → Int32) (mDr : Nat → Int32) (mSt : Nat → Int32) (mPa : Nat → Int32) (mIm : Nat → Int32) (mWi : Nat → Int32) (mSn : Nat → Int32) (mHe : Nat → Int32) (mFw : Nat → Int32) (mRo : Nat → Int32) (mBe : Nat → Int32) (sz : Nat) (hty : mTy ≤ 200) : RwI l yX9_lay wsX9_lay rm_X9_lay D (q_t cI cC cG) (wM cI cC cG m0 m1 m2 m3 m4 m5 m6 m7 m8 m9 m10 m11 m12 mTy mKn mKe mCa mSe mAt mFi mSc mTx mTo mDr mSt mPa mIm mWi mSn mHe mFw mRo mBe) (wM cI cC cG m0 m1 m2 m3 m4 m5 m6 m7 m8 m9 m10 m11 m12 mTy (g_X9_lay_mKn mTy mKn mFi mSc mTx mDr) (g_X9_lay_mKe mTy mKe mFi mSc mTx mDr) (g_X9_lay_mCa mTy mCa mFi mSc mTx mDr) (g_X9_lay_mSe mTy mSe mFi mSc mTx mDr) (g_X9_lay_mAt mTy mFi mSc mTx mDr) (g_X9_lay_mFi mTy mFi mSc mTx mDr) (g_X9_lay_mSc mTy mFi mSc mTx mDr) mTx (g_X9_lay_mTo mTy mFi mSc mTx mTo mDr) (g_X9_lay_mDr mTy mFi mSc mTx mDr) (g_X9_lay_mSt mTy mFi mSc mTx mTo mDr mSt) mPa mIm mWi mSn mHe mFw mRo mBe) sz [.ref m0] (f_X9_lay mTy mFi mSc mTx mTo mDr) := by
  refine rw_enter (cc := cX9_lay) (maxL := 3) (ret := (some .int)) (by decide) rfl (Nat.le_of_ble_eq_true rfl) ?_
  intro p e s m below meth c ls B hP hK hD hS hA hl
  obtain ⟨hx, hb, hr, hlocks, hml, hown, hts, hN⟩ := B
  have hown : s.vm.findClass RX9 = some m.cls := hown
  have hl : lv_has ls 3 [(0, .ref m0)] := hl
  have hf13 := hts (.fieldLink RX9 13 "OlderByABlushModel" "told" "[I") (by decide +kernel)
  have hinX9 : ∀ w ∈ u_ws RX9 TX9 20, w ∈ wsX9_lay := by decide +kernel
  have hf16 := hts (.fieldLink RX9 16 "OlderByABlushModel" "draft" "[I") (by decide +kernel)
  refine lv_aload_n hx hb dX9_lay_0 rfl (lv_at hl 0 rfl) ?_
  refine rw_i0 (va_runV (As := []) (rest := []) ⟨hx, hb, hml, hown, hts⟩ (c_X9_reads l D cI cC cG m0 m1 m2 m3 m4 m5 m6 m7 m8 m9 m10 m11 m12 mTy mKn mKe mCa mSe mAt mFi mSc mTx mTo mDr mSt mPa mIm mWi mSn mHe mFw mRo mBe s.heap.size (by omega)) (cwV 0 hts gX9_lay_X9_reads rfl rfl rfl (by decide +kernel) ⟨Nat.le_of_ble_eq_true rfl, Nat.le_of_ble_eq_true rfl⟩) (q_preWV hK hP hD hN [0, 1, 2, 3, 4, 5, 6, 7, 8, 9, 10, 11, 12] (by decide) rfl rfl (ci := 9) (q0 := 0) rfl rfl) rfl rfl hl.1 rfl (lv_room (Nat.le_of_ble_eq_true rfl)) dX9_lay_1 ⟨Nat.zero_le _, Nat.zero_le _⟩) hS hA hD (fun H locs hP hD hS => ?_)
  have hP : va_P D vwCl [(m0, .inr (9, [.ref m1, .int (nI mTy), .ref m2, .ref m3, .ref m4, .ref m5, .int (nI mKn), .ref m6, .int (nI mKe), .ref m7, .int (nI mCa), .ref m8, .int (nI mSe), .int (nI (g_X9_reads_mAt mTy mFi mSc mTx mDr)), .int (g_X9_reads_mFi mTy mFi mSc mTx mDr), .int (g_X9_reads_mSc mTy mFi mSc mTx mDr), .ref m9, .ref m10, .ref m11, .ref m12])), (m1, .inl (cI, 200, .inl mTx)), (m2, .inl (cI, 37, .inl mTo)), (m3, .inl (cI, 37, .inl (g_X9_reads_mDr mTy mFi mSc mTx mDr))), (m4, .inl (cI, 15, .inl mSt)), (m5, .inl (cI, 120, .inl mPa)), (m6, .inl (cI, 30, .inl mIm)), (m7, .inl (cI, 5, .inl mWi)), (m8, .inl (cI, 6, .inl mSn)), (m9, .inl (cI, 15, .inl mHe)), (m10, .inl (cI, 384, .inl mFw)), (m11, .inl (cI, 5, .inl mRo)), (m12, .inl (cI, 5, .inl mBe))] H := hP
  have hD : va_D (va_A (wM cI cC cG m0 m1 m2 m3 m4 m5 m6 m7 m8 m9 m10 m11 m12 mTy mKn mKe mCa mSe mAt mFi mSc mTx mTo mDr mSt mPa mIm mWi mSn mHe mFw mRo mBe) sz) [(m0, .inr (9, [.ref m1, .int (nI mTy), .ref m2, .ref m3, .ref m4, .ref m5, .int (nI mKn), .ref m6, .int (nI mKe), .ref m7, .int (nI mCa), .ref m8, .int (nI mSe), .int (nI (g_X9_reads_mAt mTy mFi mSc mTx mDr)), .int (g_X9_reads_mFi mTy mFi mSc mTx mDr), .int (g_X9_reads_mSc mTy mFi mSc mTx mDr), .ref m9, .ref m10, .ref m11, .ref m12])), (m1, .inl (cI, 200, .inl mTx)), (m2, .inl (cI, 37, .inl mTo)), (m3, .inl (cI, 37, .inl (g_X9_reads_mDr mTy mFi mSc mTx mDr))), (m4, .inl (cI, 15, .inl mSt)), (m5, .inl (cI, 120, .inl mPa)), (m6, .inl (cI, 30, .inl mIm)), (m7, .inl (cI, 5, .inl mWi)), (m8, .inl (cI, 6, .inl mSn)), (m9, .inl (cI, 15, .inl mHe)), (m10, .inl (cI, 384, .inl mFw)), (m11, .inl (cI, 5, .inl mRo)), (m12, .inl (cI, 5, .inl mBe))] := hD
  have hp_1 := reads_d0 mTy mFi mSc mTx mDr
  refine lv_bipush (v := (-4)) hx hb dX9_lay_4 (by decide) ?_
  refine lv_icmp_ne (tgt := 22) hx hb dX9_lay_6 (by decide) (fun c_2 => ?_) (fun c_2 => ?_)
  · refine lv_iconst (v := 0) hx hb dX9_lay_22 (by decide) ?_
    refine lv_istore_n (lv' := [(1, .int 0), (0, .ref m0)]) hx hb dX9_lay_23 rfl hl (by decide) rfl (fun ls hl => ?_)
    refine lv_iconst (v := 0) hx hb dX9_lay_24 (by decide) ?_
    refine lv_istore_n (lv' := [(2, .int 0), (1, .int 0), (0, .ref m0)]) hx hb dX9_lay_25 rfl hl (by decide) rfl (fun ls hl => ?_)
    have K26_ : ∀ (H : Heap) (locs : List Loc), va_P D vwCl [(m0, .inr (9, [.ref m1, .int (nI mTy), .ref m2, .ref m3, .ref m4, .ref m5, .int (nI mKn), .ref m6, .int (nI mKe), .ref m7, .int (nI mCa), .ref m8, .int (nI mSe), .int (nI (g_X9_reads_mAt mTy mFi mSc mTx mDr)), .int (g_X9_reads_mFi mTy mFi mSc mTx mDr), .int (g_X9_reads_mSc mTy mFi mSc mTx mDr), .ref m9, .ref m10, .ref m11, .ref m12])), (m1, .inl (cI, 200, .inl mTx)), (m2, .inl (cI, 37, .inl mTo)), (m3, .inl (cI, 37, .inl (g_X9_reads_mDr mTy mFi mSc mTx mDr))), (m4, .inl (cI, 15, .inl mSt)), (m5, .inl (cI, 120, .inl mPa)), (m6, .inl (cI, 30, .inl mIm)), (m7, .inl (cI, 5, .inl mWi)), (m8, .inl (cI, 6, .inl mSn)), (m9, .inl (cI, 15, .inl mHe)), (m10, .inl (cI, 384, .inl mFw)), (m11, .inl (cI, 5, .inl mRo)), (m12, .inl (cI, 5, .inl mBe))] H → va_D (va_A (wM cI cC cG m0 m1 m2 m3 m4 m5 m6 m7 m8 m9 m10 m11 m12 mTy mKn mKe mCa mSe mAt mFi mSc mTx mTo mDr mSt mPa mIm mWi mSn mHe mFw mRo mBe) sz) [(m0, .inr (9, [.ref m1, .int (nI mTy), .ref m2, .ref m3, .ref m4, .ref m5, .int (nI mKn), .ref m6, .int (nI mKe), .ref m7, .int (nI mCa), .ref m8, .int (nI mSe), .int (nI (g_X9_reads_mAt mTy mFi mSc mTx mDr)), .int (g_X9_reads_mFi mTy mFi mSc mTx mDr), .int (g_X9_reads_mSc mTy mFi mSc mTx mDr), .ref m9, .ref m10, .ref m11, .ref m12])), (m1, .inl (cI, 200, .inl mTx)), (m2, .inl (cI, 37, .inl mTo)), (m3, .inl (cI, 37, .inl (g_X9_reads_mDr mTy mFi mSc mTx mDr))), (m4, .inl (cI, 15, .inl mSt)), (m5, .inl (cI, 120, .inl mPa)), (m6, .inl (cI, 30, .inl mIm)), (m7, .inl (cI, 5, .inl mWi)), (m8, .inl (cI, 6, .inl mSn)), (m9, .inl (cI, 15, .inl mHe)), (m10, .inl (cI, 384, .inl mFw)), (m11, .inl (cI, 5, .inl mRo)), (m12, .inl (cI, 5, .inl mBe))] → va_S (va_A (wM cI cC cG m0 m1 m2 m3 m4 m5 m6 m7 m8 m9 m10 m11 m12 mTy mKn mKe mCa mSe mAt mFi mSc mTx mTo mDr mSt mPa mIm mWi mSn mHe mFw mRo mBe) sz) s.heap H locs → ∀ ls : Array Slot, lv_has ls 3 [(0, .ref m0), (1, .int (L_X9_lay_26 (g_X9_reads_mDr mTy mFi mSc mTx mDr) (Int32.toNatClampNeg ((g_X9_reads_mDr mTy mFi mSc mTx mDr) 0)) 0 0))] → W p l e rm_X9_lay s m ([.ref m0] : List Value).toArray below meth c H locs 0 0 (MQ below (q_QWi D (wM cI cC cG m0 m1 m2 m3 m4 m5 m6 m7 m8 m9 m10 m11 m12 mTy mKn mKe mCa mSe mAt mFi mSc mTx mTo mDr mSt mPa mIm mWi mSn mHe mFw mRo mBe) (wM cI cC cG m0 m1 m2 m3 m4 m5 m6 m7 m8 m9 m10 m11 m12 mTy (g_X9_lay_mKn mTy mKn mFi mSc mTx mDr) (g_X9_lay_mKe mTy mKe mFi mSc mTx mDr) (g_X9_lay_mCa mTy mCa mFi mSc mTx mDr) (g_X9_lay_mSe mTy mSe mFi mSc mTx mDr) (g_X9_lay_mAt mTy mFi mSc mTx mDr) (g_X9_lay_mFi mTy mFi mSc mTx mDr) (g_X9_lay_mSc mTy mFi mSc mTx mDr) mTx (g_X9_lay_mTo mTy mFi mSc mTx mTo mDr) (g_X9_lay_mDr mTy mFi mSc mTx mDr) (g_X9_lay_mSt mTy mFi mSc mTx mTo mDr mSt) mPa mIm mWi mSn mHe mFw mRo mBe) sz (f_X9_lay mTy mFi mSc mTx mTo mDr)) ([.ref m0] : List Value).toArray s 0 0 (va_A (wM cI cC cG m0 m1 m2 m3 m4 m5 m6 m7 m8 m9 m10 m11 m12 mTy mKn mKe mCa mSe mAt mFi mSc mTx mTo mDr mSt mPa mIm mWi mSn mHe mFw mRo mBe) sz)) (F0 m 69 ls []) := by
      intro H locs hP hD hS ls hl
      refine lv_iload_n hx hb dX9_lay_69 rfl (lv_at hl 1 rfl) ?_
      refine lv_if_ne (tgt := 76) hx hb dX9_lay_70 (by decide) (fun c_3 => ?_) (fun c_3 => ?_)
      · refine lv_aload_n hx hb dX9_lay_76 rfl (lv_at hl 0 rfl) ?_
        refine rw_v0 (va_runV (As := []) (rest := []) ⟨hx, hb, hml, hown, hts⟩ (c_X9_lays l D cI cC cG m0 m1 m2 m3 m4 m5 m6 m7 m8 m9 m10 m11 m12 mTy mKn mKe mCa mSe (g_X9_reads_mAt mTy mFi mSc mTx mDr) (g_X9_reads_mFi mTy mFi mSc mTx mDr) (g_X9_reads_mSc mTy mFi mSc mTx mDr) mTx mTo (g_X9_reads_mDr mTy mFi mSc mTx mDr) mSt mPa mIm mWi mSn mHe mFw mRo mBe H.size) (cwV 0 hts gX9_lay_X9_lays rfl rfl rfl (by decide +kernel) ⟨Nat.le_of_ble_eq_true rfl, Nat.le_of_ble_eq_true rfl⟩) (q_preWV hK hP hD hN [0, 1, 2, 3, 4, 5, 6, 7, 8, 9, 10, 11, 12] (by decide) rfl rfl (ci := 9) (q0 := 0) rfl rfl) rfl rfl hl.1 rfl (lv_room (Nat.le_of_ble_eq_true rfl)) dX9_lay_77 ⟨Nat.zero_le _, Nat.zero_le _⟩) hS hA hD (fun H locs hP hD hS => ?_)
        have hP : va_P D vwCl [(m0, .inr (9, [.ref m1, .int (nI mTy), .ref m2, .ref m3, .ref m4, .ref m5, .int (nI g_X9_lays_mKn), .ref m6, .int (nI g_X9_lays_mKe), .ref m7, .int (nI g_X9_lays_mCa), .ref m8, .int (nI g_X9_lays_mSe), .int (nI (g_X9_reads_mAt mTy mFi mSc mTx mDr)), .int (g_X9_reads_mFi mTy mFi mSc mTx mDr), .int (g_X9_reads_mSc mTy mFi mSc mTx mDr), .ref m9, .ref m10, .ref m11, .ref m12])), (m1, .inl (cI, 200, .inl mTx)), (m2, .inl (cI, 37, .inl (g_X9_lays_mTo mTo (g_X9_reads_mDr mTy mFi mSc mTx mDr)))), (m3, .inl (cI, 37, .inl (g_X9_reads_mDr mTy mFi mSc mTx mDr))), (m4, .inl (cI, 15, .inl (g_X9_lays_mSt mTo (g_X9_reads_mDr mTy mFi mSc mTx mDr) mSt))), (m5, .inl (cI, 120, .inl mPa)), (m6, .inl (cI, 30, .inl mIm)), (m7, .inl (cI, 5, .inl mWi)), (m8, .inl (cI, 6, .inl mSn)), (m9, .inl (cI, 15, .inl mHe)), (m10, .inl (cI, 384, .inl mFw)), (m11, .inl (cI, 5, .inl mRo)), (m12, .inl (cI, 5, .inl mBe))] H := hP
        have hD : va_D (va_A (wM cI cC cG m0 m1 m2 m3 m4 m5 m6 m7 m8 m9 m10 m11 m12 mTy mKn mKe mCa mSe mAt mFi mSc mTx mTo mDr mSt mPa mIm mWi mSn mHe mFw mRo mBe) sz) [(m0, .inr (9, [.ref m1, .int (nI mTy), .ref m2, .ref m3, .ref m4, .ref m5, .int (nI g_X9_lays_mKn), .ref m6, .int (nI g_X9_lays_mKe), .ref m7, .int (nI g_X9_lays_mCa), .ref m8, .int (nI g_X9_lays_mSe), .int (nI (g_X9_reads_mAt mTy mFi mSc mTx mDr)), .int (g_X9_reads_mFi mTy mFi mSc mTx mDr), .int (g_X9_reads_mSc mTy mFi mSc mTx mDr), .ref m9, .ref m10, .ref m11, .ref m12])), (m1, .inl (cI, 200, .inl mTx)), (m2, .inl (cI, 37, .inl (g_X9_lays_mTo mTo (g_X9_reads_mDr mTy mFi mSc mTx mDr)))), (m3, .inl (cI, 37, .inl (g_X9_reads_mDr mTy mFi mSc mTx mDr))), (m4, .inl (cI, 15, .inl (g_X9_lays_mSt mTo (g_X9_reads_mDr mTy mFi mSc mTx mDr) mSt))), (m5, .inl (cI, 120, .inl mPa)), (m6, .inl (cI, 30, .inl mIm)), (m7, .inl (cI, 5, .inl mWi)), (m8, .inl (cI, 6, .inl mSn)), (m9, .inl (cI, 15, .inl mHe)), (m10, .inl (cI, 384, .inl mFw)), (m11, .inl (cI, 5, .inl mRo)), (m12, .inl (cI, 5, .inl mBe))] := hD
        refine lv_aload_n hx hb dX9_lay_80 rfl (lv_at hl 0 rfl) ?_
        refine va_get (D := D) (ci := 9) (v := .ref m2) (C := RX9) (T := TX9) (N := 20) hx hb hts hinX9 hown hK hP 0 rfl rfl 2 (by decide) hf13 (fun _ h9 => h9) rfl dX9_lay_81 ?_
        refine lv_iconst (v := 0) hx hb dX9_lay_84 (by decide) ?_
        refine q_iald hx hb hK hP 2 0 rfl rfl (vp_in_nI (n := 0) (N := 37) (by decide) (by decide)) 0 (by decide) dX9_lay_85 ?_
        have e_4 : (g_X9_lay_mKn mTy mKn mFi mSc mTx mDr) = g_X9_lays_mKn := by simp only [g_X9_lay_mKn, if_neg c_2, if_neg c_3]
        have e_5 : (g_X9_lay_mKe mTy mKe mFi mSc mTx mDr) = g_X9_lays_mKe := by simp only [g_X9_lay_mKe, if_neg c_2, if_neg c_3]
        have e_6 : (g_X9_lay_mCa mTy mCa mFi mSc mTx mDr) = g_X9_lays_mCa := by simp only [g_X9_lay_mCa, if_neg c_2, if_neg c_3]
        have e_7 : (g_X9_lay_mSe mTy mSe mFi mSc mTx mDr) = g_X9_lays_mSe := by simp only [g_X9_lay_mSe, if_neg c_2, if_neg c_3]
        have e_8 : (g_X9_lay_mAt mTy mFi mSc mTx mDr) = (g_X9_reads_mAt mTy mFi mSc mTx mDr) := by simp only [g_X9_lay_mAt, if_neg c_2, if_neg c_3]
        have e_9 : (g_X9_lay_mFi mTy mFi mSc mTx mDr) = (g_X9_reads_mFi mTy mFi mSc mTx mDr) := by simp only [g_X9_lay_mFi, if_neg c_2, if_neg c_3]
        have e_10 : (g_X9_lay_mSc mTy mFi mSc mTx mDr) = (g_X9_reads_mSc mTy mFi mSc mTx mDr) := by simp only [g_X9_lay_mSc, if_neg c_2, if_neg c_3]
        have e_11 : (g_X9_lay_mTo mTy mFi mSc mTx mTo mDr) = (g_X9_lays_mTo mTo (g_X9_reads_mDr mTy mFi mSc mTx mDr)) := by simp only [g_X9_lay_mTo, if_neg c_2, if_neg c_3]
        have e_12 : (g_X9_lay_mDr mTy mFi mSc mTx mDr) = (g_X9_reads_mDr mTy mFi mSc mTx mDr) := by simp only [g_X9_lay_mDr, if_neg c_2, if_neg c_3]
        have e_13 : (g_X9_lay_mSt mTy mFi mSc mTx mTo mDr mSt) = (g_X9_lays_mSt mTo (g_X9_reads_mDr mTy mFi mSc mTx mDr) mSt) := by simp only [g_X9_lay_mSt, if_neg c_2, if_neg c_3]
        exact rw_iret hx hb hr hlocks hP hD hS (by simp only [f_X9_lay, if_neg c_2, if_neg c_3]) (by rw [e_4, e_5, e_6, e_7, e_8, e_9, e_10, e_11, e_12, e_13] <;> rfl) dX9_lay_86
      refine lv_bipush (v := (-2)) hx hb dX9_lay_73 (by decide) ?_
      have e_14 : (g_X9_lay_mKn mTy mKn mFi mSc mTx mDr) = mKn := by simp only [g_X9_lay_mKn, if_neg c_2, if_pos c_3]
      have e_15 : (g_X9_lay_mKe mTy mKe mFi mSc mTx mDr) = mKe := by simp only [g_X9_lay_mKe, if_neg c_2, if_pos c_3]
      have e_16 : (g_X9_lay_mCa mTy mCa mFi mSc mTx mDr) = mCa := by simp only [g_X9_lay_mCa, if_neg c_2, if_pos c_3]
      have e_17 : (g_X9_lay_mSe mTy mSe mFi mSc mTx mDr) = mSe := by simp only [g_X9_lay_mSe, if_neg c_2, if_pos c_3]
      have e_18 : (g_X9_lay_mAt mTy mFi mSc mTx mDr) = (g_X9_reads_mAt mTy mFi mSc mTx mDr) := by simp only [g_X9_lay_mAt, if_neg c_2, if_pos c_3]
      have e_19 : (g_X9_lay_mFi mTy mFi mSc mTx mDr) = (g_X9_reads_mFi mTy mFi mSc mTx mDr) := by simp only [g_X9_lay_mFi, if_neg c_2, if_pos c_3]
      have e_20 : (g_X9_lay_mSc mTy mFi mSc mTx mDr) = (g_X9_reads_mSc mTy mFi mSc mTx mDr) := by simp only [g_X9_lay_mSc, if_neg c_2, if_pos c_3]
      have e_21 : (g_X9_lay_mTo mTy mFi mSc mTx mTo mDr) = mTo := by simp only [g_X9_lay_mTo, if_neg c_2, if_pos c_3]
      have e_22 : (g_X9_lay_mDr mTy mFi mSc mTx mDr) = (g_X9_reads_mDr mTy mFi mSc mTx mDr) := by simp only [g_X9_lay_mDr, if_neg c_2, if_pos c_3]
      have e_23 : (g_X9_lay_mSt mTy mFi mSc mTx mTo mDr mSt) = mSt := by simp only [g_X9_lay_mSt, if_neg c_2, if_pos c_3]
      exact rw_iret hx hb hr hlocks hP hD hS (by simp only [f_X9_lay, if_neg c_2, if_pos c_3]) (by rw [e_14, e_15, e_16, e_17, e_18, e_19, e_20, e_21, e_22, e_23] <;> rfl) dX9_lay_75
    have loop26_ : ∀ (n26_ j26_ : Nat) (a26_0 : Int32), j26_ + n26_ = (Int32.toNatClampNeg ((g_X9_reads_mDr mTy mFi mSc mTx mDr) 0)) → (L_X9_lay_26 (g_X9_reads_mDr mTy mFi mSc mTx mDr) n26_ j26_ a26_0) = (L_X9_lay_26 (g_X9_reads_mDr mTy mFi mSc mTx mDr) (Int32.toNatClampNeg ((g_X9_reads_mDr mTy mFi mSc mTx mDr) 0)) 0 0) → ∀ (H : Heap) (locs : List Loc), va_P D vwCl [(m0, .inr (9, [.ref m1, .int (nI mTy), .ref m2, .ref m3, .ref m4, .ref m5, .int (nI mKn), .ref m6, .int (nI mKe), .ref m7, .int (nI mCa), .ref m8, .int (nI mSe), .int (nI (g_X9_reads_mAt mTy mFi mSc mTx mDr)), .int (g_X9_reads_mFi mTy mFi mSc mTx mDr), .int (g_X9_reads_mSc mTy mFi mSc mTx mDr), .ref m9, .ref m10, .ref m11, .ref m12])), (m1, .inl (cI, 200, .inl mTx)), (m2, .inl (cI, 37, .inl mTo)), (m3, .inl (cI, 37, .inl (g_X9_reads_mDr mTy mFi mSc mTx mDr))), (m4, .inl (cI, 15, .inl mSt)), (m5, .inl (cI, 120, .inl mPa)), (m6, .inl (cI, 30, .inl mIm)), (m7, .inl (cI, 5, .inl mWi)), (m8, .inl (cI, 6, .inl mSn)), (m9, .inl (cI, 15, .inl mHe)), (m10, .inl (cI, 384, .inl mFw)), (m11, .inl (cI, 5, .inl mRo)), (m12, .inl (cI, 5, .inl mBe))] H → va_D (va_A (wM cI cC cG m0 m1 m2 m3 m4 m5 m6 m7 m8 m9 m10 m11 m12 mTy mKn mKe mCa mSe mAt mFi mSc mTx mTo mDr mSt mPa mIm mWi mSn mHe mFw mRo mBe) sz) [(m0, .inr (9, [.ref m1, .int (nI mTy), .ref m2, .ref m3, .ref m4, .ref m5, .int (nI mKn), .ref m6, .int (nI mKe), .ref m7, .int (nI mCa), .ref m8, .int (nI mSe), .int (nI (g_X9_reads_mAt mTy mFi mSc mTx mDr)), .int (g_X9_reads_mFi mTy mFi mSc mTx mDr), .int (g_X9_reads_mSc mTy mFi mSc mTx mDr), .ref m9, .ref m10, .ref m11, .ref m12])), (m1, .inl (cI, 200, .inl mTx)), (m2, .inl (cI, 37, .inl mTo)), (m3, .inl (cI, 37, .inl (g_X9_reads_mDr mTy mFi mSc mTx mDr))), (m4, .inl (cI, 15, .inl mSt)), (m5, .inl (cI, 120, .inl mPa)), (m6, .inl (cI, 30, .inl mIm)), (m7, .inl (cI, 5, .inl mWi)), (m8, .inl (cI, 6, .inl mSn)), (m9, .inl (cI, 15, .inl mHe)), (m10, .inl (cI, 384, .inl mFw)), (m11, .inl (cI, 5, .inl mRo)), (m12, .inl (cI, 5, .inl mBe))] → va_S (va_A (wM cI cC cG m0 m1 m2 m3 m4 m5 m6 m7 m8 m9 m10 m11 m12 mTy mKn mKe mCa mSe mAt mFi mSc mTx mTo mDr mSt mPa mIm mWi mSn mHe mFw mRo mBe) sz) s.heap H locs → ∀ ls : Array Slot, lv_has ls 3 [(0, .ref m0), (1, .int a26_0), (2, .int (nI j26_))] → W p l e rm_X9_lay s m ([.ref m0] : List Value).toArray below meth c H locs 0 0 (MQ below (q_QWi D (wM cI cC cG m0 m1 m2 m3 m4 m5 m6 m7 m8 m9 m10 m11 m12 mTy mKn mKe mCa mSe mAt mFi mSc mTx mTo mDr mSt mPa mIm mWi mSn mHe mFw mRo mBe) (wM cI cC cG m0 m1 m2 m3 m4 m5 m6 m7 m8 m9 m10 m11 m12 mTy (g_X9_lay_mKn mTy mKn mFi mSc mTx mDr) (g_X9_lay_mKe mTy mKe mFi mSc mTx mDr) (g_X9_lay_mCa mTy mCa mFi mSc mTx mDr) (g_X9_lay_mSe mTy mSe mFi mSc mTx mDr) (g_X9_lay_mAt mTy mFi mSc mTx mDr) (g_X9_lay_mFi mTy mFi mSc mTx mDr) (g_X9_lay_mSc mTy mFi mSc mTx mDr) mTx (g_X9_lay_mTo mTy mFi mSc mTx mTo mDr) (g_X9_lay_mDr mTy mFi mSc mTx mDr) (g_X9_lay_mSt mTy mFi mSc mTx mTo mDr mSt) mPa mIm mWi mSn mHe mFw mRo mBe) sz (f_X9_lay mTy mFi mSc mTx mTo mDr)) ([.ref m0] : List Value).toArray s 0 0 (va_A (wM cI cC cG m0 m1 m2 m3 m4 m5 m6 m7 m8 m9 m10 m11 m12 mTy mKn mKe mCa mSe mAt mFi mSc mTx mTo mDr mSt mPa mIm mWi mSn mHe mFw mRo mBe) sz)) (F0 m 26 ls []) := by
      intro n26_
      induction n26_ with
      | zero =>
        intro j26_ a26_0 hj26_ hv26_ H locs hP hD hS ls hl
        obtain rfl : j26_ = (Int32.toNatClampNeg ((g_X9_reads_mDr mTy mFi mSc mTx mDr) 0)) := by omega
        refine lv_iload_n hx hb dX9_lay_26 rfl (lv_at hl 2 rfl) ?_
        refine lv_aload_n hx hb dX9_lay_27 rfl (lv_at hl 0 rfl) ?_
        refine va_get (D := D) (ci := 9) (v := .ref m3) (C := RX9) (T := TX9) (N := 20) hx hb hts hinX9 hown hK hP 0 rfl rfl 3 (by decide) hf16 (fun _ h9 => h9) rfl dX9_lay_28 ?_
        refine lv_iconst (v := 0) hx hb dX9_lay_31 (by decide) ?_
        refine q_iald hx hb hK hP 3 0 rfl rfl (vp_in_nI (n := 0) (N := 37) (by decide) (by decide)) 0 (by decide) dX9_lay_32 ?_
        refine lv_icmp_ge (tgt := 69) hx hb dX9_lay_33 (by decide) (fun c_24 => ?_) (fun c_24 => ?_)
        rotate_left
        · exact absurd k_ge c_24
        have e_25 : a26_0 = (L_X9_lay_26 (g_X9_reads_mDr mTy mFi mSc mTx mDr) (Int32.toNatClampNeg ((g_X9_reads_mDr mTy mFi mSc mTx mDr) 0)) 0 0) := by rw [← hv26_]; simp only [L_X9_lay_26]
        have e_26 : a26_0 = (L_X9_lay_26 (g_X9_reads_mDr mTy mFi mSc mTx mDr) (Int32.toNatClampNeg ((g_X9_reads_mDr mTy mFi mSc mTx mDr) 0)) 0 0) := e_25
        exact K26_ _ _ hP hD hS _ (by rw [← e_26]; exact (lv_sub hl [0, 1] rfl))
      | succ n26_ ih26_ =>
        intro j26_ a26_0 hj26_ hv26_ H locs hP hD hS ls hl
        refine lv_iload_n hx hb dX9_lay_26 rfl (lv_at hl 2 rfl) ?_
        refine lv_aload_n hx hb dX9_lay_27 rfl (lv_at hl 0 rfl) ?_
        refine va_get (D := D) (ci := 9) (v := .ref m3) (C := RX9) (T := TX9) (N := 20) hx hb hts hinX9 hown hK hP 0 rfl rfl 3 (by decide) hf16 (fun _ h9 => h9) rfl dX9_lay_28 ?_
        refine lv_iconst (v := 0) hx hb dX9_lay_31 (by decide) ?_
        refine q_iald hx hb hK hP 3 0 rfl rfl (vp_in_nI (n := 0) (N := 37) (by decide) (by decide)) 0 (by decide) dX9_lay_32 ?_
        refine lv_icmp_ge (tgt := 69) hx hb dX9_lay_33 (by decide) (fun c_27 => ?_) (fun c_27 => ?_)
        · exact absurd c_27 (k_le (by omega))
        refine lv_iload_n hx hb dX9_lay_36 rfl (lv_at hl 1 rfl) ?_
        refine lv_if_eq (tgt := 69) hx hb dX9_lay_37 (by decide) (fun c_28 => ?_) (fun c_28 => ?_)
        · have e_29 : a26_0 = (L_X9_lay_26 (g_X9_reads_mDr mTy mFi mSc mTx mDr) (Int32.toNatClampNeg ((g_X9_reads_mDr mTy mFi mSc mTx mDr) 0)) 0 0) := by rw [← hv26_]; simp only [L_X9_lay_26, if_pos c_28]
          have e_30 : a26_0 = (L_X9_lay_26 (g_X9_reads_mDr mTy mFi mSc mTx mDr) (Int32.toNatClampNeg ((g_X9_reads_mDr mTy mFi mSc mTx mDr) 0)) 0 0) := e_29
          exact K26_ _ _ hP hD hS _ (by rw [← e_30]; exact (lv_sub hl [0, 1] rfl))
        refine lv_aload_n hx hb dX9_lay_40 rfl (lv_at hl 0 rfl) ?_
        refine va_get (D := D) (ci := 9) (v := .ref m3) (C := RX9) (T := TX9) (N := 20) hx hb hts hinX9 hown hK hP 0 rfl rfl 3 (by decide) hf16 (fun _ h9 => h9) rfl dX9_lay_41 ?_
        refine lv_iconst (v := 3) hx hb dX9_lay_44 (by decide) ?_
        refine lv_iload_n hx hb dX9_lay_45 rfl (lv_at hl 2 rfl) ?_
        refine q_iaddN (a := 3) (b := j26_) hx hb dX9_lay_46 ?_
        refine q_iald hx hb hK hP 3 0 rfl rfl (vp_in_nI (by omega) (by decide)) (3 + j26_) (nI_clamp (by omega)) dX9_lay_47 ?_
        refine lv_aload_n hx hb dX9_lay_48 rfl (lv_at hl 0 rfl) ?_
        refine va_get (D := D) (ci := 9) (v := .ref m3) (C := RX9) (T := TX9) (N := 20) hx hb hts hinX9 hown hK hP 0 rfl rfl 3 (by decide) hf16 (fun _ h9 => h9) rfl dX9_lay_49 ?_
        refine lv_iconst (v := 2) hx hb dX9_lay_52 (by decide) ?_
        refine q_iald hx hb hK hP 3 0 rfl rfl (vp_in_nI (n := 2) (N := 37) (by decide) (by decide)) 2 (by decide) dX9_lay_53 ?_
        refine lv_icmp_ge (tgt := 61) hx hb dX9_lay_54 (by decide) (fun c_31 => ?_) (fun c_31 => ?_)
        · refine lv_iconst (v := 0) hx hb dX9_lay_61 (by decide) ?_
          refine lv_istore_n (lv' := [(1, .int 0), (0, .ref m0), (2, .int (nI j26_))]) hx hb dX9_lay_62 rfl hl (by decide) rfl (fun ls hl => ?_)
          refine lv_iinc (v := (nI (j26_ + 1))) (lv' := [(2, .int (nI (j26_ + 1))), (1, .int 0), (0, .ref m0)]) hx hb dX9_lay_63 hl (k := 2) rfl (nI_1 _) (by decide) rfl (fun ls hl => ?_)
          refine lv_goto (tgt := 26) hx hb dX9_lay_66 (by decide) ?_
          exact ih26_ (j26_ + 1) 0 (by omega) (by rw [← hv26_]; simp only [L_X9_lay_26, if_neg c_28, if_pos c_31]) _ _ hP hD hS _ (lv_sub hl [2, 1, 0] rfl)
        refine lv_iconst (v := 1) hx hb dX9_lay_57 (by decide) ?_
        refine lv_goto (tgt := 62) hx hb dX9_lay_58 (by decide) ?_
        refine lv_istore_n (lv' := [(1, .int 1), (0, .ref m0), (2, .int (nI j26_))]) hx hb dX9_lay_62 rfl hl (by decide) rfl (fun ls hl => ?_)
        refine lv_iinc (v := (nI (j26_ + 1))) (lv' := [(2, .int (nI (j26_ + 1))), (1, .int 1), (0, .ref m0)]) hx hb dX9_lay_63 hl (k := 2) rfl (nI_1 _) (by decide) rfl (fun ls hl => ?_)
        refine lv_goto (tgt := 26) hx hb dX9_lay_66 (by decide) ?_
        exact ih26_ (j26_ + 1) 1 (by omega) (by rw [← hv26_]; simp only [L_X9_lay_26, if_neg c_28, if_neg c_31]) _ _ hP hD hS _ (lv_sub hl [2, 1, 0] rfl)
    exact loop26_ (Int32.toNatClampNeg ((g_X9_reads_mDr mTy mFi mSc mTx mDr) 0)) 0 0 (by omega) rfl _ _ hP hD hS _ (lv_sub hl [2, 1, 0] rfl)
  refine lv_aload_n hx hb dX9_lay_9 rfl (lv_at hl 0 rfl) ?_
  refine va_get (D := D) (ci := 9) (v := .ref m3) (C := RX9) (T := TX9) (N := 20) hx hb hts hinX9 hown hK hP 0 rfl rfl 3 (by decide) hf16 (fun _ h9 => h9) rfl dX9_lay_10 ?_
  refine lv_iconst (v := 0) hx hb dX9_lay_13 (by decide) ?_
  refine q_iald hx hb hK hP 3 0 rfl rfl (vp_in_nI (n := 0) (N := 37) (by decide) (by decide)) 0 (by decide) dX9_lay_14 ?_
  refine lv_if_le (tgt := 22) hx hb dX9_lay_15 (by decide) (fun c_32 => ?_) (fun c_32 => ?_)
  · refine lv_iconst (v := 0) hx hb dX9_lay_22 (by decide) ?_
    refine lv_istore_n (lv' := [(1, .int 0), (0, .ref m0)]) hx hb dX9_lay_23 rfl hl (by decide) rfl (fun ls hl => ?_)
    refine lv_iconst (v := 0) hx hb dX9_lay_24 (by decide) ?_
    refine lv_istore_n (lv' := [(2, .int 0), (1, .int 0), (0, .ref m0)]) hx hb dX9_lay_25 rfl hl (by decide) rfl (fun ls hl => ?_)
    have K26_ : ∀ (H : Heap) (locs : List Loc), va_P D vwCl [(m0, .inr (9, [.ref m1, .int (nI mTy), .ref m2, .ref m3, .ref m4, .ref m5, .int (nI mKn), .ref m6, .int (nI mKe), .ref m7, .int (nI mCa), .ref m8, .int (nI mSe), .int (nI (g_X9_reads_mAt mTy mFi mSc mTx mDr)), .int (g_X9_reads_mFi mTy mFi mSc mTx mDr), .int (g_X9_reads_mSc mTy mFi mSc mTx mDr), .ref m9, .ref m10, .ref m11, .ref m12])), (m1, .inl (cI, 200, .inl mTx)), (m2, .inl (cI, 37, .inl mTo)), (m3, .inl (cI, 37, .inl (g_X9_reads_mDr mTy mFi mSc mTx mDr))), (m4, .inl (cI, 15, .inl mSt)), (m5, .inl (cI, 120, .inl mPa)), (m6, .inl (cI, 30, .inl mIm)), (m7, .inl (cI, 5, .inl mWi)), (m8, .inl (cI, 6, .inl mSn)), (m9, .inl (cI, 15, .inl mHe)), (m10, .inl (cI, 384, .inl mFw)), (m11, .inl (cI, 5, .inl mRo)), (m12, .inl (cI, 5, .inl mBe))] H → va_D (va_A (wM cI cC cG m0 m1 m2 m3 m4 m5 m6 m7 m8 m9 m10 m11 m12 mTy mKn mKe mCa mSe mAt mFi mSc mTx mTo mDr mSt mPa mIm mWi mSn mHe mFw mRo mBe) sz) [(m0, .inr (9, [.ref m1, .int (nI mTy), .ref m2, .ref m3, .ref m4, .ref m5, .int (nI mKn), .ref m6, .int (nI mKe), .ref m7, .int (nI mCa), .ref m8, .int (nI mSe), .int (nI (g_X9_reads_mAt mTy mFi mSc mTx mDr)), .int (g_X9_reads_mFi mTy mFi mSc mTx mDr), .int (g_X9_reads_mSc mTy mFi mSc mTx mDr), .ref m9, .ref m10, .ref m11, .ref m12])), (m1, .inl (cI, 200, .inl mTx)), (m2, .inl (cI, 37, .inl mTo)), (m3, .inl (cI, 37, .inl (g_X9_reads_mDr mTy mFi mSc mTx mDr))), (m4, .inl (cI, 15, .inl mSt)), (m5, .inl (cI, 120, .inl mPa)), (m6, .inl (cI, 30, .inl mIm)), (m7, .inl (cI, 5, .inl mWi)), (m8, .inl (cI, 6, .inl mSn)), (m9, .inl (cI, 15, .inl mHe)), (m10, .inl (cI, 384, .inl mFw)), (m11, .inl (cI, 5, .inl mRo)), (m12, .inl (cI, 5, .inl mBe))] → va_S (va_A (wM cI cC cG m0 m1 m2 m3 m4 m5 m6 m7 m8 m9 m10 m11 m12 mTy mKn mKe mCa mSe mAt mFi mSc mTx mTo mDr mSt mPa mIm mWi mSn mHe mFw mRo mBe) sz) s.heap H locs → ∀ ls : Array Slot, lv_has ls 3 [(0, .ref m0), (1, .int (L_X9_lay_26 (g_X9_reads_mDr mTy mFi mSc mTx mDr) (Int32.toNatClampNeg ((g_X9_reads_mDr mTy mFi mSc mTx mDr) 0)) 0 0))] → W p l e rm_X9_lay s m ([.ref m0] : List Value).toArray below meth c H locs 0 0 (MQ below (q_QWi D (wM cI cC cG m0 m1 m2 m3 m4 m5 m6 m7 m8 m9 m10 m11 m12 mTy mKn mKe mCa mSe mAt mFi mSc mTx mTo mDr mSt mPa mIm mWi mSn mHe mFw mRo mBe) (wM cI cC cG m0 m1 m2 m3 m4 m5 m6 m7 m8 m9 m10 m11 m12 mTy (g_X9_lay_mKn mTy mKn mFi mSc mTx mDr) (g_X9_lay_mKe mTy mKe mFi mSc mTx mDr) (g_X9_lay_mCa mTy mCa mFi mSc mTx mDr) (g_X9_lay_mSe mTy mSe mFi mSc mTx mDr) (g_X9_lay_mAt mTy mFi mSc mTx mDr) (g_X9_lay_mFi mTy mFi mSc mTx mDr) (g_X9_lay_mSc mTy mFi mSc mTx mDr) mTx (g_X9_lay_mTo mTy mFi mSc mTx mTo mDr) (g_X9_lay_mDr mTy mFi mSc mTx mDr) (g_X9_lay_mSt mTy mFi mSc mTx mTo mDr mSt) mPa mIm mWi mSn mHe mFw mRo mBe) sz (f_X9_lay mTy mFi mSc mTx mTo mDr)) ([.ref m0] : List Value).toArray s 0 0 (va_A (wM cI cC cG m0 m1 m2 m3 m4 m5 m6 m7 m8 m9 m10 m11 m12 mTy mKn mKe mCa mSe mAt mFi mSc mTx mTo mDr mSt mPa mIm mWi mSn mHe mFw mRo mBe) sz)) (F0 m 69 ls []) := by
      intro H locs hP hD hS ls hl
      refine lv_iload_n hx hb dX9_lay_69 rfl (lv_at hl 1 rfl) ?_
      refine lv_if_ne (tgt := 76) hx hb dX9_lay_70 (by decide) (fun c_33 => ?_) (fun c_33 => ?_)
      · refine lv_aload_n hx hb dX9_lay_76 rfl (lv_at hl 0 rfl) ?_
        refine rw_v0 (va_runV (As := []) (rest := []) ⟨hx, hb, hml, hown, hts⟩ (c_X9_lays l D cI cC cG m0 m1 m2 m3 m4 m5 m6 m7 m8 m9 m10 m11 m12 mTy mKn mKe mCa mSe (g_X9_reads_mAt mTy mFi mSc mTx mDr) (g_X9_reads_mFi mTy mFi mSc mTx mDr) (g_X9_reads_mSc mTy mFi mSc mTx mDr) mTx mTo (g_X9_reads_mDr mTy mFi mSc mTx mDr) mSt mPa mIm mWi mSn mHe mFw mRo mBe H.size) (cwV 0 hts gX9_lay_X9_lays rfl rfl rfl (by decide +kernel) ⟨Nat.le_of_ble_eq_true rfl, Nat.le_of_ble_eq_true rfl⟩) (q_preWV hK hP hD hN [0, 1, 2, 3, 4, 5, 6, 7, 8, 9, 10, 11, 12] (by decide) rfl rfl (ci := 9) (q0 := 0) rfl rfl) rfl rfl hl.1 rfl (lv_room (Nat.le_of_ble_eq_true rfl)) dX9_lay_77 ⟨Nat.zero_le _, Nat.zero_le _⟩) hS hA hD (fun H locs hP hD hS => ?_)
        have hP : va_P D vwCl [(m0, .inr (9, [.ref m1, .int (nI mTy), .ref m2, .ref m3, .ref m4, .ref m5, .int (nI g_X9_lays_mKn), .ref m6, .int (nI g_X9_lays_mKe), .ref m7, .int (nI g_X9_lays_mCa), .ref m8, .int (nI g_X9_lays_mSe), .int (nI (g_X9_reads_mAt mTy mFi mSc mTx mDr)), .int (g_X9_reads_mFi mTy mFi mSc mTx mDr), .int (g_X9_reads_mSc mTy mFi mSc mTx mDr), .ref m9, .ref m10, .ref m11, .ref m12])), (m1, .inl (cI, 200, .inl mTx)), (m2, .inl (cI, 37, .inl (g_X9_lays_mTo mTo (g_X9_reads_mDr mTy mFi mSc mTx mDr)))), (m3, .inl (cI, 37, .inl (g_X9_reads_mDr mTy mFi mSc mTx mDr))), (m4, .inl (cI, 15, .inl (g_X9_lays_mSt mTo (g_X9_reads_mDr mTy mFi mSc mTx mDr) mSt))), (m5, .inl (cI, 120, .inl mPa)), (m6, .inl (cI, 30, .inl mIm)), (m7, .inl (cI, 5, .inl mWi)), (m8, .inl (cI, 6, .inl mSn)), (m9, .inl (cI, 15, .inl mHe)), (m10, .inl (cI, 384, .inl mFw)), (m11, .inl (cI, 5, .inl mRo)), (m12, .inl (cI, 5, .inl mBe))] H := hP
        have hD : va_D (va_A (wM cI cC cG m0 m1 m2 m3 m4 m5 m6 m7 m8 m9 m10 m11 m12 mTy mKn mKe mCa mSe mAt mFi mSc mTx mTo mDr mSt mPa mIm mWi mSn mHe mFw mRo mBe) sz) [(m0, .inr (9, [.ref m1, .int (nI mTy), .ref m2, .ref m3, .ref m4, .ref m5, .int (nI g_X9_lays_mKn), .ref m6, .int (nI g_X9_lays_mKe), .ref m7, .int (nI g_X9_lays_mCa), .ref m8, .int (nI g_X9_lays_mSe), .int (nI (g_X9_reads_mAt mTy mFi mSc mTx mDr)), .int (g_X9_reads_mFi mTy mFi mSc mTx mDr), .int (g_X9_reads_mSc mTy mFi mSc mTx mDr), .ref m9, .ref m10, .ref m11, .ref m12])), (m1, .inl (cI, 200, .inl mTx)), (m2, .inl (cI, 37, .inl (g_X9_lays_mTo mTo (g_X9_reads_mDr mTy mFi mSc mTx mDr)))), (m3, .inl (cI, 37, .inl (g_X9_reads_mDr mTy mFi mSc mTx mDr))), (m4, .inl (cI, 15, .inl (g_X9_lays_mSt mTo (g_X9_reads_mDr mTy mFi mSc mTx mDr) mSt))), (m5, .inl (cI, 120, .inl mPa)), (m6, .inl (cI, 30, .inl mIm)), (m7, .inl (cI, 5, .inl mWi)), (m8, .inl (cI, 6, .inl mSn)), (m9, .inl (cI, 15, .inl mHe)), (m10, .inl (cI, 384, .inl mFw)), (m11, .inl (cI, 5, .inl mRo)), (m12, .inl (cI, 5, .inl mBe))] := hD
        refine lv_aload_n hx hb dX9_lay_80 rfl (lv_at hl 0 rfl) ?_
        refine va_get (D := D) (ci := 9) (v := .ref m2) (C := RX9) (T := TX9) (N := 20) hx hb hts hinX9 hown hK hP 0 rfl rfl 2 (by decide) hf13 (fun _ h9 => h9) rfl dX9_lay_81 ?_
        refine lv_iconst (v := 0) hx hb dX9_lay_84 (by decide) ?_
        refine q_iald hx hb hK hP 2 0 rfl rfl (vp_in_nI (n := 0) (N := 37) (by decide) (by decide)) 0 (by decide) dX9_lay_85 ?_
        have e_34 : (g_X9_lay_mKn mTy mKn mFi mSc mTx mDr) = g_X9_lays_mKn := by simp only [g_X9_lay_mKn, if_pos c_2, if_pos c_32, if_neg c_33]
        have e_35 : (g_X9_lay_mKe mTy mKe mFi mSc mTx mDr) = g_X9_lays_mKe := by simp only [g_X9_lay_mKe, if_pos c_2, if_pos c_32, if_neg c_33]
        have e_36 : (g_X9_lay_mCa mTy mCa mFi mSc mTx mDr) = g_X9_lays_mCa := by simp only [g_X9_lay_mCa, if_pos c_2, if_pos c_32, if_neg c_33]
        have e_37 : (g_X9_lay_mSe mTy mSe mFi mSc mTx mDr) = g_X9_lays_mSe := by simp only [g_X9_lay_mSe, if_pos c_2, if_pos c_32, if_neg c_33]
        have e_38 : (g_X9_lay_mAt mTy mFi mSc mTx mDr) = (g_X9_reads_mAt mTy mFi mSc mTx mDr) := by simp only [g_X9_lay_mAt, if_pos c_2, if_pos c_32, if_neg c_33]
        have e_39 : (g_X9_lay_mFi mTy mFi mSc mTx mDr) = (g_X9_reads_mFi mTy mFi mSc mTx mDr) := by simp only [g_X9_lay_mFi, if_pos c_2, if_pos c_32, if_neg c_33]
        have e_40 : (g_X9_lay_mSc mTy mFi mSc mTx mDr) = (g_X9_reads_mSc mTy mFi mSc mTx mDr) := by simp only [g_X9_lay_mSc, if_pos c_2, if_pos c_32, if_neg c_33]
        have e_41 : (g_X9_lay_mTo mTy mFi mSc mTx mTo mDr) = (g_X9_lays_mTo mTo (g_X9_reads_mDr mTy mFi mSc mTx mDr)) := by simp only [g_X9_lay_mTo, if_pos c_2, if_pos c_32, if_neg c_33]
        have e_42 : (g_X9_lay_mDr mTy mFi mSc mTx mDr) = (g_X9_reads_mDr mTy mFi mSc mTx mDr) := by simp only [g_X9_lay_mDr, if_pos c_2, if_pos c_32, if_neg c_33]
        have e_43 : (g_X9_lay_mSt mTy mFi mSc mTx mTo mDr mSt) = (g_X9_lays_mSt mTo (g_X9_reads_mDr mTy mFi mSc mTx mDr) mSt) := by simp only [g_X9_lay_mSt, if_pos c_2, if_pos c_32, if_neg c_33]
        exact rw_iret hx hb hr hlocks hP hD hS (by simp only [f_X9_lay, if_pos c_2, if_pos c_32, if_neg c_33]) (by rw [e_34, e_35, e_36, e_37, e_38, e_39, e_40, e_41, e_42, e_43] <;> rfl) dX9_lay_86
      refine lv_bipush (v := (-2)) hx hb dX9_lay_73 (by decide) ?_
      have e_44 : (g_X9_lay_mKn mTy mKn mFi mSc mTx mDr) = mKn := by simp only [g_X9_lay_mKn, if_pos c_2, if_pos c_32, if_pos c_33]
      have e_45 : (g_X9_lay_mKe mTy mKe mFi mSc mTx mDr) = mKe := by simp only [g_X9_lay_mKe, if_pos c_2, if_pos c_32, if_pos c_33]
      have e_46 : (g_X9_lay_mCa mTy mCa mFi mSc mTx mDr) = mCa := by simp only [g_X9_lay_mCa, if_pos c_2, if_pos c_32, if_pos c_33]
      have e_47 : (g_X9_lay_mSe mTy mSe mFi mSc mTx mDr) = mSe := by simp only [g_X9_lay_mSe, if_pos c_2, if_pos c_32, if_pos c_33]
      have e_48 : (g_X9_lay_mAt mTy mFi mSc mTx mDr) = (g_X9_reads_mAt mTy mFi mSc mTx mDr) := by simp only [g_X9_lay_mAt, if_pos c_2, if_pos c_32, if_pos c_33]
      have e_49 : (g_X9_lay_mFi mTy mFi mSc mTx mDr) = (g_X9_reads_mFi mTy mFi mSc mTx mDr) := by simp only [g_X9_lay_mFi, if_pos c_2, if_pos c_32, if_pos c_33]
      have e_50 : (g_X9_lay_mSc mTy mFi mSc mTx mDr) = (g_X9_reads_mSc mTy mFi mSc mTx mDr) := by simp only [g_X9_lay_mSc, if_pos c_2, if_pos c_32, if_pos c_33]
      have e_51 : (g_X9_lay_mTo mTy mFi mSc mTx mTo mDr) = mTo := by simp only [g_X9_lay_mTo, if_pos c_2, if_pos c_32, if_pos c_33]
      have e_52 : (g_X9_lay_mDr mTy mFi mSc mTx mDr) = (g_X9_reads_mDr mTy mFi mSc mTx mDr) := by simp only [g_X9_lay_mDr, if_pos c_2, if_pos c_32, if_pos c_33]
      have e_53 : (g_X9_lay_mSt mTy mFi mSc mTx mTo mDr mSt) = mSt := by simp only [g_X9_lay_mSt, if_pos c_2, if_pos c_32, if_pos c_33]
      exact rw_iret hx hb hr hlocks hP hD hS (by simp only [f_X9_lay, if_pos c_2, if_pos c_32, if_pos c_33]) (by rw [e_44, e_45, e_46, e_47, e_48, e_49, e_50, e_51, e_52, e_53] <;> rfl) dX9_lay_75
    have loop26_ : ∀ (n26_ j26_ : Nat) (a26_0 : Int32), j26_ + n26_ = (Int32.toNatClampNeg ((g_X9_reads_mDr mTy mFi mSc mTx mDr) 0)) → (L_X9_lay_26 (g_X9_reads_mDr mTy mFi mSc mTx mDr) n26_ j26_ a26_0) = (L_X9_lay_26 (g_X9_reads_mDr mTy mFi mSc mTx mDr) (Int32.toNatClampNeg ((g_X9_reads_mDr mTy mFi mSc mTx mDr) 0)) 0 0) → ∀ (H : Heap) (locs : List Loc), va_P D vwCl [(m0, .inr (9, [.ref m1, .int (nI mTy), .ref m2, .ref m3, .ref m4, .ref m5, .int (nI mKn), .ref m6, .int (nI mKe), .ref m7, .int (nI mCa), .ref m8, .int (nI mSe), .int (nI (g_X9_reads_mAt mTy mFi mSc mTx mDr)), .int (g_X9_reads_mFi mTy mFi mSc mTx mDr), .int (g_X9_reads_mSc mTy mFi mSc mTx mDr), .ref m9, .ref m10, .ref m11, .ref m12])), (m1, .inl (cI, 200, .inl mTx)), (m2, .inl (cI, 37, .inl mTo)), (m3, .inl (cI, 37, .inl (g_X9_reads_mDr mTy mFi mSc mTx mDr))), (m4, .inl (cI, 15, .inl mSt)), (m5, .inl (cI, 120, .inl mPa)), (m6, .inl (cI, 30, .inl mIm)), (m7, .inl (cI, 5, .inl mWi)), (m8, .inl (cI, 6, .inl mSn)), (m9, .inl (cI, 15, .inl mHe)), (m10, .inl (cI, 384, .inl mFw)), (m11, .inl (cI, 5, .inl mRo)), (m12, .inl (cI, 5, .inl mBe))] H → va_D (va_A (wM cI cC cG m0 m1 m2 m3 m4 m5 m6 m7 m8 m9 m10 m11 m12 mTy mKn mKe mCa mSe mAt mFi mSc mTx mTo mDr mSt mPa mIm mWi mSn mHe mFw mRo mBe) sz) [(m0, .inr (9, [.ref m1, .int (nI mTy), .ref m2, .ref m3, .ref m4, .ref m5, .int (nI mKn), .ref m6, .int (nI mKe), .ref m7, .int (nI mCa), .ref m8, .int (nI mSe), .int (nI (g_X9_reads_mAt mTy mFi mSc mTx mDr)), .int (g_X9_reads_mFi mTy mFi mSc mTx mDr), .int (g_X9_reads_mSc mTy mFi mSc mTx mDr), .ref m9, .ref m10, .ref m11, .ref m12])), (m1, .inl (cI, 200, .inl mTx)), (m2, .inl (cI, 37, .inl mTo)), (m3, .inl (cI, 37, .inl (g_X9_reads_mDr mTy mFi mSc mTx mDr))), (m4, .inl (cI, 15, .inl mSt)), (m5, .inl (cI, 120, .inl mPa)), (m6, .inl (cI, 30, .inl mIm)), (m7, .inl (cI, 5, .inl mWi)), (m8, .inl (cI, 6, .inl mSn)), (m9, .inl (cI, 15, .inl mHe)), (m10, .inl (cI, 384, .inl mFw)), (m11, .inl (cI, 5, .inl mRo)), (m12, .inl (cI, 5, .inl mBe))] → va_S (va_A (wM cI cC cG m0 m1 m2 m3 m4 m5 m6 m7 m8 m9 m10 m11 m12 mTy mKn mKe mCa mSe mAt mFi mSc mTx mTo mDr mSt mPa mIm mWi mSn mHe mFw mRo mBe) sz) s.heap H locs → ∀ ls : Array Slot, lv_has ls 3 [(0, .ref m0), (1, .int a26_0), (2, .int (nI j26_))] → W p l e rm_X9_lay s m ([.ref m0] : List Value).toArray below meth c H locs 0 0 (MQ below (q_QWi D (wM cI cC cG m0 m1 m2 m3 m4 m5 m6 m7 m8 m9 m10 m11 m12 mTy mKn mKe mCa mSe mAt mFi mSc mTx mTo mDr mSt mPa mIm mWi mSn mHe mFw mRo mBe) (wM cI cC cG m0 m1 m2 m3 m4 m5 m6 m7 m8 m9 m10 m11 m12 mTy (g_X9_lay_mKn mTy mKn mFi mSc mTx mDr) (g_X9_lay_mKe mTy mKe mFi mSc mTx mDr) (g_X9_lay_mCa mTy mCa mFi mSc mTx mDr) (g_X9_lay_mSe mTy mSe mFi mSc mTx mDr) (g_X9_lay_mAt mTy mFi mSc mTx mDr) (g_X9_lay_mFi mTy mFi mSc mTx mDr) (g_X9_lay_mSc mTy mFi mSc mTx mDr) mTx (g_X9_lay_mTo mTy mFi mSc mTx mTo mDr) (g_X9_lay_mDr mTy mFi mSc mTx mDr) (g_X9_lay_mSt mTy mFi mSc mTx mTo mDr mSt) mPa mIm mWi mSn mHe mFw mRo mBe) sz (f_X9_lay mTy mFi mSc mTx mTo mDr)) ([.ref m0] : List Value).toArray s 0 0 (va_A (wM cI cC cG m0 m1 m2 m3 m4 m5 m6 m7 m8 m9 m10 m11 m12 mTy mKn mKe mCa mSe mAt mFi mSc mTx mTo mDr mSt mPa mIm mWi mSn mHe mFw mRo mBe) sz)) (F0 m 26 ls []) := by
      intro n26_
      induction n26_ with
      | zero =>
        intro j26_ a26_0 hj26_ hv26_ H locs hP hD hS ls hl
        obtain rfl : j26_ = (Int32.toNatClampNeg ((g_X9_reads_mDr mTy mFi mSc mTx mDr) 0)) := by omega
        refine lv_iload_n hx hb dX9_lay_26 rfl (lv_at hl 2 rfl) ?_
        refine lv_aload_n hx hb dX9_lay_27 rfl (lv_at hl 0 rfl) ?_
        refine va_get (D := D) (ci := 9) (v := .ref m3) (C := RX9) (T := TX9) (N := 20) hx hb hts hinX9 hown hK hP 0 rfl rfl 3 (by decide) hf16 (fun _ h9 => h9) rfl dX9_lay_28 ?_
        refine lv_iconst (v := 0) hx hb dX9_lay_31 (by decide) ?_
        refine q_iald hx hb hK hP 3 0 rfl rfl (vp_in_nI (n := 0) (N := 37) (by decide) (by decide)) 0 (by decide) dX9_lay_32 ?_
        refine lv_icmp_ge (tgt := 69) hx hb dX9_lay_33 (by decide) (fun c_54 => ?_) (fun c_54 => ?_)
        rotate_left
        · exact absurd k_ge c_54
        have e_55 : a26_0 = (L_X9_lay_26 (g_X9_reads_mDr mTy mFi mSc mTx mDr) (Int32.toNatClampNeg ((g_X9_reads_mDr mTy mFi mSc mTx mDr) 0)) 0 0) := by rw [← hv26_]; simp only [L_X9_lay_26]
        have e_56 : a26_0 = (L_X9_lay_26 (g_X9_reads_mDr mTy mFi mSc mTx mDr) (Int32.toNatClampNeg ((g_X9_reads_mDr mTy mFi mSc mTx mDr) 0)) 0 0) := e_55
        exact K26_ _ _ hP hD hS _ (by rw [← e_56]; exact (lv_sub hl [0, 1] rfl))
      | succ n26_ ih26_ =>
        intro j26_ a26_0 hj26_ hv26_ H locs hP hD hS ls hl
        refine lv_iload_n hx hb dX9_lay_26 rfl (lv_at hl 2 rfl) ?_
        refine lv_aload_n hx hb dX9_lay_27 rfl (lv_at hl 0 rfl) ?_
        refine va_get (D := D) (ci := 9) (v := .ref m3) (C := RX9) (T := TX9) (N := 20) hx hb hts hinX9 hown hK hP 0 rfl rfl 3 (by decide) hf16 (fun _ h9 => h9) rfl dX9_lay_28 ?_
        refine lv_iconst (v := 0) hx hb dX9_lay_31 (by decide) ?_
        refine q_iald hx hb hK hP 3 0 rfl rfl (vp_in_nI (n := 0) (N := 37) (by decide) (by decide)) 0 (by decide) dX9_lay_32 ?_
        refine lv_icmp_ge (tgt := 69) hx hb dX9_lay_33 (by decide) (fun c_57 => ?_) (fun c_57 => ?_)
        · exact absurd c_57 (k_le (by omega))
        refine lv_iload_n hx hb dX9_lay_36 rfl (lv_at hl 1 rfl) ?_
        refine lv_if_eq (tgt := 69) hx hb dX9_lay_37 (by decide) (fun c_58 => ?_) (fun c_58 => ?_)
        · have e_59 : a26_0 = (L_X9_lay_26 (g_X9_reads_mDr mTy mFi mSc mTx mDr) (Int32.toNatClampNeg ((g_X9_reads_mDr mTy mFi mSc mTx mDr) 0)) 0 0) := by rw [← hv26_]; simp only [L_X9_lay_26, if_pos c_58]
          have e_60 : a26_0 = (L_X9_lay_26 (g_X9_reads_mDr mTy mFi mSc mTx mDr) (Int32.toNatClampNeg ((g_X9_reads_mDr mTy mFi mSc mTx mDr) 0)) 0 0) := e_59
          exact K26_ _ _ hP hD hS _ (by rw [← e_60]; exact (lv_sub hl [0, 1] rfl))
        refine lv_aload_n hx hb dX9_lay_40 rfl (lv_at hl 0 rfl) ?_
        refine va_get (D := D) (ci := 9) (v := .ref m3) (C := RX9) (T := TX9) (N := 20) hx hb hts hinX9 hown hK hP 0 rfl rfl 3 (by decide) hf16 (fun _ h9 => h9) rfl dX9_lay_41 ?_
        refine lv_iconst (v := 3) hx hb dX9_lay_44 (by decide) ?_
        refine lv_iload_n hx hb dX9_lay_45 rfl (lv_at hl 2 rfl) ?_
        refine q_iaddN (a := 3) (b := j26_) hx hb dX9_lay_46 ?_
        refine q_iald hx hb hK hP 3 0 rfl rfl (vp_in_nI (by omega) (by decide)) (3 + j26_) (nI_clamp (by omega)) dX9_lay_47 ?_
        refine lv_aload_n hx hb dX9_lay_48 rfl (lv_at hl 0 rfl) ?_
        refine va_get (D := D) (ci := 9) (v := .ref m3) (C := RX9) (T := TX9) (N := 20) hx hb hts hinX9 hown hK hP 0 rfl rfl 3 (by decide) hf16 (fun _ h9 => h9) rfl dX9_lay_49 ?_
        refine lv_iconst (v := 2) hx hb dX9_lay_52 (by decide) ?_
        refine q_iald hx hb hK hP 3 0 rfl rfl (vp_in_nI (n := 2) (N := 37) (by decide) (by decide)) 2 (by decide) dX9_lay_53 ?_
        refine lv_icmp_ge (tgt := 61) hx hb dX9_lay_54 (by decide) (fun c_61 => ?_) (fun c_61 => ?_)
        · refine lv_iconst (v := 0) hx hb dX9_lay_61 (by decide) ?_
          refine lv_istore_n (lv' := [(1, .int 0), (0, .ref m0), (2, .int (nI j26_))]) hx hb dX9_lay_62 rfl hl (by decide) rfl (fun ls hl => ?_)
          refine lv_iinc (v := (nI (j26_ + 1))) (lv' := [(2, .int (nI (j26_ + 1))), (1, .int 0), (0, .ref m0)]) hx hb dX9_lay_63 hl (k := 2) rfl (nI_1 _) (by decide) rfl (fun ls hl => ?_)
          refine lv_goto (tgt := 26) hx hb dX9_lay_66 (by decide) ?_
          exact ih26_ (j26_ + 1) 0 (by omega) (by rw [← hv26_]; simp only [L_X9_lay_26, if_neg c_58, if_pos c_61]) _ _ hP hD hS _ (lv_sub hl [2, 1, 0] rfl)
        refine lv_iconst (v := 1) hx hb dX9_lay_57 (by decide) ?_
        refine lv_goto (tgt := 62) hx hb dX9_lay_58 (by decide) ?_
        refine lv_istore_n (lv' := [(1, .int 1), (0, .ref m0), (2, .int (nI j26_))]) hx hb dX9_lay_62 rfl hl (by decide) rfl (fun ls hl => ?_)
        refine lv_iinc (v := (nI (j26_ + 1))) (lv' := [(2, .int (nI (j26_ + 1))), (1, .int 1), (0, .ref m0)]) hx hb dX9_lay_63 hl (k := 2) rfl (nI_1 _) (by decide) rfl (fun ls hl => ?_)
        refine lv_goto (tgt := 26) hx hb dX9_lay_66 (by decide) ?_
        exact ih26_ (j26_ + 1) 1 (by omega) (by rw [← hv26_]; simp only [L_X9_lay_26, if_neg c_58, if_neg c_61]) _ _ hP hD hS _ (lv_sub hl [2, 1, 0] rfl)
    exact loop26_ (Int32.toNatClampNeg ((g_X9_reads_mDr mTy mFi mSc mTx mDr) 0)) 0 0 (by omega) rfl _ _ hP hD hS _ (lv_sub hl [2, 1, 0] rfl)
  refine lv_iconst (v := 1) hx hb dX9_lay_18 (by decide) ?_
  refine lv_goto (tgt := 23) hx hb dX9_lay_19 (by decide) ?_
  refine lv_istore_n (lv' := [(1, .int 1), (0, .ref m0)]) hx hb dX9_lay_23 rfl hl (by decide) rfl (fun ls hl => ?_)
  refine lv_iconst (v := 0) hx hb dX9_lay_24 (by decide) ?_
  refine lv_istore_n (lv' := [(2, .int 0), (1, .int 1), (0, .ref m0)]) hx hb dX9_lay_25 rfl hl (by decide) rfl (fun ls hl => ?_)
  have K26_ : ∀ (H : Heap) (locs : List Loc), va_P D vwCl [(m0, .inr (9, [.ref m1, .int (nI mTy), .ref m2, .ref m3, .ref m4, .ref m5, .int (nI mKn), .ref m6, .int (nI mKe), .ref m7, .int (nI mCa), .ref m8, .int (nI mSe), .int (nI (g_X9_reads_mAt mTy mFi mSc mTx mDr)), .int (g_X9_reads_mFi mTy mFi mSc mTx mDr), .int (g_X9_reads_mSc mTy mFi mSc mTx mDr), .ref m9, .ref m10, .ref m11, .ref m12])), (m1, .inl (cI, 200, .inl mTx)), (m2, .inl (cI, 37, .inl mTo)), (m3, .inl (cI, 37, .inl (g_X9_reads_mDr mTy mFi mSc mTx mDr))), (m4, .inl (cI, 15, .inl mSt)), (m5, .inl (cI, 120, .inl mPa)), (m6, .inl (cI, 30, .inl mIm)), (m7, .inl (cI, 5, .inl mWi)), (m8, .inl (cI, 6, .inl mSn)), (m9, .inl (cI, 15, .inl mHe)), (m10, .inl (cI, 384, .inl mFw)), (m11, .inl (cI, 5, .inl mRo)), (m12, .inl (cI, 5, .inl mBe))] H → va_D (va_A (wM cI cC cG m0 m1 m2 m3 m4 m5 m6 m7 m8 m9 m10 m11 m12 mTy mKn mKe mCa mSe mAt mFi mSc mTx mTo mDr mSt mPa mIm mWi mSn mHe mFw mRo mBe) sz) [(m0, .inr (9, [.ref m1, .int (nI mTy), .ref m2, .ref m3, .ref m4, .ref m5, .int (nI mKn), .ref m6, .int (nI mKe), .ref m7, .int (nI mCa), .ref m8, .int (nI mSe), .int (nI (g_X9_reads_mAt mTy mFi mSc mTx mDr)), .int (g_X9_reads_mFi mTy mFi mSc mTx mDr), .int (g_X9_reads_mSc mTy mFi mSc mTx mDr), .ref m9, .ref m10, .ref m11, .ref m12])), (m1, .inl (cI, 200, .inl mTx)), (m2, .inl (cI, 37, .inl mTo)), (m3, .inl (cI, 37, .inl (g_X9_reads_mDr mTy mFi mSc mTx mDr))), (m4, .inl (cI, 15, .inl mSt)), (m5, .inl (cI, 120, .inl mPa)), (m6, .inl (cI, 30, .inl mIm)), (m7, .inl (cI, 5, .inl mWi)), (m8, .inl (cI, 6, .inl mSn)), (m9, .inl (cI, 15, .inl mHe)), (m10, .inl (cI, 384, .inl mFw)), (m11, .inl (cI, 5, .inl mRo)), (m12, .inl (cI, 5, .inl mBe))] → va_S (va_A (wM cI cC cG m0 m1 m2 m3 m4 m5 m6 m7 m8 m9 m10 m11 m12 mTy mKn mKe mCa mSe mAt mFi mSc mTx mTo mDr mSt mPa mIm mWi mSn mHe mFw mRo mBe) sz) s.heap H locs → ∀ ls : Array Slot, lv_has ls 3 [(0, .ref m0), (1, .int (L_X9_lay_26 (g_X9_reads_mDr mTy mFi mSc mTx mDr) (Int32.toNatClampNeg ((g_X9_reads_mDr mTy mFi mSc mTx mDr) 0)) 0 1))] → W p l e rm_X9_lay s m ([.ref m0] : List Value).toArray below meth c H locs 0 0 (MQ below (q_QWi D (wM cI cC cG m0 m1 m2 m3 m4 m5 m6 m7 m8 m9 m10 m11 m12 mTy mKn mKe mCa mSe mAt mFi mSc mTx mTo mDr mSt mPa mIm mWi mSn mHe mFw mRo mBe) (wM cI cC cG m0 m1 m2 m3 m4 m5 m6 m7 m8 m9 m10 m11 m12 mTy (g_X9_lay_mKn mTy mKn mFi mSc mTx mDr) (g_X9_lay_mKe mTy mKe mFi mSc mTx mDr) (g_X9_lay_mCa mTy mCa mFi mSc mTx mDr) (g_X9_lay_mSe mTy mSe mFi mSc mTx mDr) (g_X9_lay_mAt mTy mFi mSc mTx mDr) (g_X9_lay_mFi mTy mFi mSc mTx mDr) (g_X9_lay_mSc mTy mFi mSc mTx mDr) mTx (g_X9_lay_mTo mTy mFi mSc mTx mTo mDr) (g_X9_lay_mDr mTy mFi mSc mTx mDr) (g_X9_lay_mSt mTy mFi mSc mTx mTo mDr mSt) mPa mIm mWi mSn mHe mFw mRo mBe) sz (f_X9_lay mTy mFi mSc mTx mTo mDr)) ([.ref m0] : List Value).toArray s 0 0 (va_A (wM cI cC cG m0 m1 m2 m3 m4 m5 m6 m7 m8 m9 m10 m11 m12 mTy mKn mKe mCa mSe mAt mFi mSc mTx mTo mDr mSt mPa mIm mWi mSn mHe mFw mRo mBe) sz)) (F0 m 69 ls []) := by
    intro H locs hP hD hS ls hl
    refine lv_iload_n hx hb dX9_lay_69 rfl (lv_at hl 1 rfl) ?_
    refine lv_if_ne (tgt := 76) hx hb dX9_lay_70 (by decide) (fun c_62 => ?_) (fun c_62 => ?_)
    · refine lv_aload_n hx hb dX9_lay_76 rfl (lv_at hl 0 rfl) ?_
      refine rw_v0 (va_runV (As := []) (rest := []) ⟨hx, hb, hml, hown, hts⟩ (c_X9_lays l D cI cC cG m0 m1 m2 m3 m4 m5 m6 m7 m8 m9 m10 m11 m12 mTy mKn mKe mCa mSe (g_X9_reads_mAt mTy mFi mSc mTx mDr) (g_X9_reads_mFi mTy mFi mSc mTx mDr) (g_X9_reads_mSc mTy mFi mSc mTx mDr) mTx mTo (g_X9_reads_mDr mTy mFi mSc mTx mDr) mSt mPa mIm mWi mSn mHe mFw mRo mBe H.size) (cwV 0 hts gX9_lay_X9_lays rfl rfl rfl (by decide +kernel) ⟨Nat.le_of_ble_eq_true rfl, Nat.le_of_ble_eq_true rfl⟩) (q_preWV hK hP hD hN [0, 1, 2, 3, 4, 5, 6, 7, 8, 9, 10, 11, 12] (by decide) rfl rfl (ci := 9) (q0 := 0) rfl rfl) rfl rfl hl.1 rfl (lv_room (Nat.le_of_ble_eq_true rfl)) dX9_lay_77 ⟨Nat.zero_le _, Nat.zero_le _⟩) hS hA hD (fun H locs hP hD hS => ?_)
      have hP : va_P D vwCl [(m0, .inr (9, [.ref m1, .int (nI mTy), .ref m2, .ref m3, .ref m4, .ref m5, .int (nI g_X9_lays_mKn), .ref m6, .int (nI g_X9_lays_mKe), .ref m7, .int (nI g_X9_lays_mCa), .ref m8, .int (nI g_X9_lays_mSe), .int (nI (g_X9_reads_mAt mTy mFi mSc mTx mDr)), .int (g_X9_reads_mFi mTy mFi mSc mTx mDr), .int (g_X9_reads_mSc mTy mFi mSc mTx mDr), .ref m9, .ref m10, .ref m11, .ref m12])), (m1, .inl (cI, 200, .inl mTx)), (m2, .inl (cI, 37, .inl (g_X9_lays_mTo mTo (g_X9_reads_mDr mTy mFi mSc mTx mDr)))), (m3, .inl (cI, 37, .inl (g_X9_reads_mDr mTy mFi mSc mTx mDr))), (m4, .inl (cI, 15, .inl (g_X9_lays_mSt mTo (g_X9_reads_mDr mTy mFi mSc mTx mDr) mSt))), (m5, .inl (cI, 120, .inl mPa)), (m6, .inl (cI, 30, .inl mIm)), (m7, .inl (cI, 5, .inl mWi)), (m8, .inl (cI, 6, .inl mSn)), (m9, .inl (cI, 15, .inl mHe)), (m10, .inl (cI, 384, .inl mFw)), (m11, .inl (cI, 5, .inl mRo)), (m12, .inl (cI, 5, .inl mBe))] H := hP
      have hD : va_D (va_A (wM cI cC cG m0 m1 m2 m3 m4 m5 m6 m7 m8 m9 m10 m11 m12 mTy mKn mKe mCa mSe mAt mFi mSc mTx mTo mDr mSt mPa mIm mWi mSn mHe mFw mRo mBe) sz) [(m0, .inr (9, [.ref m1, .int (nI mTy), .ref m2, .ref m3, .ref m4, .ref m5, .int (nI g_X9_lays_mKn), .ref m6, .int (nI g_X9_lays_mKe), .ref m7, .int (nI g_X9_lays_mCa), .ref m8, .int (nI g_X9_lays_mSe), .int (nI (g_X9_reads_mAt mTy mFi mSc mTx mDr)), .int (g_X9_reads_mFi mTy mFi mSc mTx mDr), .int (g_X9_reads_mSc mTy mFi mSc mTx mDr), .ref m9, .ref m10, .ref m11, .ref m12])), (m1, .inl (cI, 200, .inl mTx)), (m2, .inl (cI, 37, .inl (g_X9_lays_mTo mTo (g_X9_reads_mDr mTy mFi mSc mTx mDr)))), (m3, .inl (cI, 37, .inl (g_X9_reads_mDr mTy mFi mSc mTx mDr))), (m4, .inl (cI, 15, .inl (g_X9_lays_mSt mTo (g_X9_reads_mDr mTy mFi mSc mTx mDr) mSt))), (m5, .inl (cI, 120, .inl mPa)), (m6, .inl (cI, 30, .inl mIm)), (m7, .inl (cI, 5, .inl mWi)), (m8, .inl (cI, 6, .inl mSn)), (m9, .inl (cI, 15, .inl mHe)), (m10, .inl (cI, 384, .inl mFw)), (m11, .inl (cI, 5, .inl mRo)), (m12, .inl (cI, 5, .inl mBe))] := hD
      refine lv_aload_n hx hb dX9_lay_80 rfl (lv_at hl 0 rfl) ?_
      refine va_get (D := D) (ci := 9) (v := .ref m2) (C := RX9) (T := TX9) (N := 20) hx hb hts hinX9 hown hK hP 0 rfl rfl 2 (by decide) hf13 (fun _ h9 => h9) rfl dX9_lay_81 ?_
      refine lv_iconst (v := 0) hx hb dX9_lay_84 (by decide) ?_
      refine q_iald hx hb hK hP 2 0 rfl rfl (vp_in_nI (n := 0) (N := 37) (by decide) (by decide)) 0 (by decide) dX9_lay_85 ?_
      have e_63 : (g_X9_lay_mKn mTy mKn mFi mSc mTx mDr) = g_X9_lays_mKn := by simp only [g_X9_lay_mKn, if_pos c_2, if_neg c_32, if_neg c_62]
      have e_64 : (g_X9_lay_mKe mTy mKe mFi mSc mTx mDr) = g_X9_lays_mKe := by simp only [g_X9_lay_mKe, if_pos c_2, if_neg c_32, if_neg c_62]
      have e_65 : (g_X9_lay_mCa mTy mCa mFi mSc mTx mDr) = g_X9_lays_mCa := by simp only [g_X9_lay_mCa, if_pos c_2, if_neg c_32, if_neg c_62]
      have e_66 : (g_X9_lay_mSe mTy mSe mFi mSc mTx mDr) = g_X9_lays_mSe := by simp only [g_X9_lay_mSe, if_pos c_2, if_neg c_32, if_neg c_62]
      have e_67 : (g_X9_lay_mAt mTy mFi mSc mTx mDr) = (g_X9_reads_mAt mTy mFi mSc mTx mDr) := by simp only [g_X9_lay_mAt, if_pos c_2, if_neg c_32, if_neg c_62]
      have e_68 : (g_X9_lay_mFi mTy mFi mSc mTx mDr) = (g_X9_reads_mFi mTy mFi mSc mTx mDr) := by simp only [g_X9_lay_mFi, if_pos c_2, if_neg c_32, if_neg c_62]
      have e_69 : (g_X9_lay_mSc mTy mFi mSc mTx mDr) = (g_X9_reads_mSc mTy mFi mSc mTx mDr) := by simp only [g_X9_lay_mSc, if_pos c_2, if_neg c_32, if_neg c_62]
      have e_70 : (g_X9_lay_mTo mTy mFi mSc mTx mTo mDr) = (g_X9_lays_mTo mTo (g_X9_reads_mDr mTy mFi mSc mTx mDr)) := by simp only [g_X9_lay_mTo, if_pos c_2, if_neg c_32, if_neg c_62]
      have e_71 : (g_X9_lay_mDr mTy mFi mSc mTx mDr) = (g_X9_reads_mDr mTy mFi mSc mTx mDr) := by simp only [g_X9_lay_mDr, if_pos c_2, if_neg c_32, if_neg c_62]
      have e_72 : (g_X9_lay_mSt mTy mFi mSc mTx mTo mDr mSt) = (g_X9_lays_mSt mTo (g_X9_reads_mDr mTy mFi mSc mTx mDr) mSt) := by simp only [g_X9_lay_mSt, if_pos c_2, if_neg c_32, if_neg c_62]
      exact rw_iret hx hb hr hlocks hP hD hS (by simp only [f_X9_lay, if_pos c_2, if_neg c_32, if_neg c_62]) (by rw [e_63, e_64, e_65, e_66, e_67, e_68, e_69, e_70, e_71, e_72] <;> rfl) dX9_lay_86
    refine lv_bipush (v := (-2)) hx hb dX9_lay_73 (by decide) ?_
    have e_73 : (g_X9_lay_mKn mTy mKn mFi mSc mTx mDr) = mKn := by simp only [g_X9_lay_mKn, if_pos c_2, if_neg c_32, if_pos c_62]
    have e_74 : (g_X9_lay_mKe mTy mKe mFi mSc mTx mDr) = mKe := by simp only [g_X9_lay_mKe, if_pos c_2, if_neg c_32, if_pos c_62]
    have e_75 : (g_X9_lay_mCa mTy mCa mFi mSc mTx mDr) = mCa := by simp only [g_X9_lay_mCa, if_pos c_2, if_neg c_32, if_pos c_62]
    have e_76 : (g_X9_lay_mSe mTy mSe mFi mSc mTx mDr) = mSe := by simp only [g_X9_lay_mSe, if_pos c_2, if_neg c_32, if_pos c_62]
    have e_77 : (g_X9_lay_mAt mTy mFi mSc mTx mDr) = (g_X9_reads_mAt mTy mFi mSc mTx mDr) := by simp only [g_X9_lay_mAt, if_pos c_2, if_neg c_32, if_pos c_62]
    have e_78 : (g_X9_lay_mFi mTy mFi mSc mTx mDr) = (g_X9_reads_mFi mTy mFi mSc mTx mDr) := by simp only [g_X9_lay_mFi, if_pos c_2, if_neg c_32, if_pos c_62]
    have e_79 : (g_X9_lay_mSc mTy mFi mSc mTx mDr) = (g_X9_reads_mSc mTy mFi mSc mTx mDr) := by simp only [g_X9_lay_mSc, if_pos c_2, if_neg c_32, if_pos c_62]
    have e_80 : (g_X9_lay_mTo mTy mFi mSc mTx mTo mDr) = mTo := by simp only [g_X9_lay_mTo, if_pos c_2, if_neg c_32, if_pos c_62]
    have e_81 : (g_X9_lay_mDr mTy mFi mSc mTx mDr) = (g_X9_reads_mDr mTy mFi mSc mTx mDr) := by simp only [g_X9_lay_mDr, if_pos c_2, if_neg c_32, if_pos c_62]
    have e_82 : (g_X9_lay_mSt mTy mFi mSc mTx mTo mDr mSt) = mSt := by simp only [g_X9_lay_mSt, if_pos c_2, if_neg c_32, if_pos c_62]
    exact rw_iret hx hb hr hlocks hP hD hS (by simp only [f_X9_lay, if_pos c_2, if_neg c_32, if_pos c_62]) (by rw [e_73, e_74, e_75, e_76, e_77, e_78, e_79, e_80, e_81, e_82] <;> rfl) dX9_lay_75
  have loop26_ : ∀ (n26_ j26_ : Nat) (a26_0 : Int32), j26_ + n26_ = (Int32.toNatClampNeg ((g_X9_reads_mDr mTy mFi mSc mTx mDr) 0)) → (L_X9_lay_26 (g_X9_reads_mDr mTy mFi mSc mTx mDr) n26_ j26_ a26_0) = (L_X9_lay_26 (g_X9_reads_mDr mTy mFi mSc mTx mDr) (Int32.toNatClampNeg ((g_X9_reads_mDr mTy mFi mSc mTx mDr) 0)) 0 1) → ∀ (H : Heap) (locs : List Loc), va_P D vwCl [(m0, .inr (9, [.ref m1, .int (nI mTy), .ref m2, .ref m3, .ref m4, .ref m5, .int (nI mKn), .ref m6, .int (nI mKe), .ref m7, .int (nI mCa), .ref m8, .int (nI mSe), .int (nI (g_X9_reads_mAt mTy mFi mSc mTx mDr)), .int (g_X9_reads_mFi mTy mFi mSc mTx mDr), .int (g_X9_reads_mSc mTy mFi mSc mTx mDr), .ref m9, .ref m10, .ref m11, .ref m12])), (m1, .inl (cI, 200, .inl mTx)), (m2, .inl (cI, 37, .inl mTo)), (m3, .inl (cI, 37, .inl (g_X9_reads_mDr mTy mFi mSc mTx mDr))), (m4, .inl (cI, 15, .inl mSt)), (m5, .inl (cI, 120, .inl mPa)), (m6, .inl (cI, 30, .inl mIm)), (m7, .inl (cI, 5, .inl mWi)), (m8, .inl (cI, 6, .inl mSn)), (m9, .inl (cI, 15, .inl mHe)), (m10, .inl (cI, 384, .inl mFw)), (m11, .inl (cI, 5, .inl mRo)), (m12, .inl (cI, 5, .inl mBe))] H → va_D (va_A (wM cI cC cG m0 m1 m2 m3 m4 m5 m6 m7 m8 m9 m10 m11 m12 mTy mKn mKe mCa mSe mAt mFi mSc mTx mTo mDr mSt mPa mIm mWi mSn mHe mFw mRo mBe) sz) [(m0, .inr (9, [.ref m1, .int (nI mTy), .ref m2, .ref m3, .ref m4, .ref m5, .int (nI mKn), .ref m6, .int (nI mKe), .ref m7, .int (nI mCa), .ref m8, .int (nI mSe), .int (nI (g_X9_reads_mAt mTy mFi mSc mTx mDr)), .int (g_X9_reads_mFi mTy mFi mSc mTx mDr), .int (g_X9_reads_mSc mTy mFi mSc mTx mDr), .ref m9, .ref m10, .ref m11, .ref m12])), (m1, .inl (cI, 200, .inl mTx)), (m2, .inl (cI, 37, .inl mTo)), (m3, .inl (cI, 37, .inl (g_X9_reads_mDr mTy mFi mSc mTx mDr))), (m4, .inl (cI, 15, .inl mSt)), (m5, .inl (cI, 120, .inl mPa)), (m6, .inl (cI, 30, .inl mIm)), (m7, .inl (cI, 5, .inl mWi)), (m8, .inl (cI, 6, .inl mSn)), (m9, .inl (cI, 15, .inl mHe)), (m10, .inl (cI, 384, .inl mFw)), (m11, .inl (cI, 5, .inl mRo)), (m12, .inl (cI, 5, .inl mBe))] → va_S (va_A (wM cI cC cG m0 m1 m2 m3 m4 m5 m6 m7 m8 m9 m10 m11 m12 mTy mKn mKe mCa mSe mAt mFi mSc mTx mTo mDr mSt mPa mIm mWi mSn mHe mFw mRo mBe) sz) s.heap H locs → ∀ ls : Array Slot, lv_has ls 3 [(0, .ref m0), (1, .int a26_0), (2, .int (nI j26_))] → W p l e rm_X9_lay s m ([.ref m0] : List Value).toArray below meth c H locs 0 0 (MQ below (q_QWi D (wM cI cC cG m0 m1 m2 m3 m4 m5 m6 m7 m8 m9 m10 m11 m12 mTy mKn mKe mCa mSe mAt mFi mSc mTx mTo mDr mSt mPa mIm mWi mSn mHe mFw mRo mBe) (wM cI cC cG m0 m1 m2 m3 m4 m5 m6 m7 m8 m9 m10 m11 m12 mTy (g_X9_lay_mKn mTy mKn mFi mSc mTx mDr) (g_X9_lay_mKe mTy mKe mFi mSc mTx mDr) (g_X9_lay_mCa mTy mCa mFi mSc mTx mDr) (g_X9_lay_mSe mTy mSe mFi mSc mTx mDr) (g_X9_lay_mAt mTy mFi mSc mTx mDr) (g_X9_lay_mFi mTy mFi mSc mTx mDr) (g_X9_lay_mSc mTy mFi mSc mTx mDr) mTx (g_X9_lay_mTo mTy mFi mSc mTx mTo mDr) (g_X9_lay_mDr mTy mFi mSc mTx mDr) (g_X9_lay_mSt mTy mFi mSc mTx mTo mDr mSt) mPa mIm mWi mSn mHe mFw mRo mBe) sz (f_X9_lay mTy mFi mSc mTx mTo mDr)) ([.ref m0] : List Value).toArray s 0 0 (va_A (wM cI cC cG m0 m1 m2 m3 m4 m5 m6 m7 m8 m9 m10 m11 m12 mTy mKn mKe mCa mSe mAt mFi mSc mTx mTo mDr mSt mPa mIm mWi mSn mHe mFw mRo mBe) sz)) (F0 m 26 ls []) := by
    intro n26_
    induction n26_ with
    | zero =>
      intro j26_ a26_0 hj26_ hv26_ H locs hP hD hS ls hl
      obtain rfl : j26_ = (Int32.toNatClampNeg ((g_X9_reads_mDr mTy mFi mSc mTx mDr) 0)) := by omega
      refine lv_iload_n hx hb dX9_lay_26 rfl (lv_at hl 2 rfl) ?_
      refine lv_aload_n hx hb dX9_lay_27 rfl (lv_at hl 0 rfl) ?_
      refine va_get (D := D) (ci := 9) (v := .ref m3) (C := RX9) (T := TX9) (N := 20) hx hb hts hinX9 hown hK hP 0 rfl rfl 3 (by decide) hf16 (fun _ h9 => h9) rfl dX9_lay_28 ?_
      refine lv_iconst (v := 0) hx hb dX9_lay_31 (by decide) ?_
      refine q_iald hx hb hK hP 3 0 rfl rfl (vp_in_nI (n := 0) (N := 37) (by decide) (by decide)) 0 (by decide) dX9_lay_32 ?_
      refine lv_icmp_ge (tgt := 69) hx hb dX9_lay_33 (by decide) (fun c_83 => ?_) (fun c_83 => ?_)
      rotate_left
      · exact absurd k_ge c_83
      have e_84 : a26_0 = (L_X9_lay_26 (g_X9_reads_mDr mTy mFi mSc mTx mDr) (Int32.toNatClampNeg ((g_X9_reads_mDr mTy mFi mSc mTx mDr) 0)) 0 1) := by rw [← hv26_]; simp only [L_X9_lay_26]
      have e_85 : a26_0 = (L_X9_lay_26 (g_X9_reads_mDr mTy mFi mSc mTx mDr) (Int32.toNatClampNeg ((g_X9_reads_mDr mTy mFi mSc mTx mDr) 0)) 0 1) := e_84
      exact K26_ _ _ hP hD hS _ (by rw [← e_85]; exact (lv_sub hl [0, 1] rfl))
    | succ n26_ ih26_ =>
      intro j26_ a26_0 hj26_ hv26_ H locs hP hD hS ls hl
      refine lv_iload_n hx hb dX9_lay_26 rfl (lv_at hl 2 rfl) ?_
      refine lv_aload_n hx hb dX9_lay_27 rfl (lv_at hl 0 rfl) ?_
      refine va_get (D := D) (ci := 9) (v := .ref m3) (C := RX9) (T := TX9) (N := 20) hx hb hts hinX9 hown hK hP 0 rfl rfl 3 (by decide) hf16 (fun _ h9 => h9) rfl dX9_lay_28 ?_
      refine lv_iconst (v := 0) hx hb dX9_lay_31 (by decide) ?_
      refine q_iald hx hb hK hP 3 0 rfl rfl (vp_in_nI (n := 0) (N := 37) (by decide) (by decide)) 0 (by decide) dX9_lay_32 ?_
      refine lv_icmp_ge (tgt := 69) hx hb dX9_lay_33 (by decide) (fun c_86 => ?_) (fun c_86 => ?_)
      · exact absurd c_86 (k_le (by omega))
      refine lv_iload_n hx hb dX9_lay_36 rfl (lv_at hl 1 rfl) ?_
      refine lv_if_eq (tgt := 69) hx hb dX9_lay_37 (by decide) (fun c_87 => ?_) (fun c_87 => ?_)
      · have e_88 : a26_0 = (L_X9_lay_26 (g_X9_reads_mDr mTy mFi mSc mTx mDr) (Int32.toNatClampNeg ((g_X9_reads_mDr mTy mFi mSc mTx mDr) 0)) 0 1) := by rw [← hv26_]; simp only [L_X9_lay_26, if_pos c_87]
        have e_89 : a26_0 = (L_X9_lay_26 (g_X9_reads_mDr mTy mFi mSc mTx mDr) (Int32.toNatClampNeg ((g_X9_reads_mDr mTy mFi mSc mTx mDr) 0)) 0 1) := e_88
        exact K26_ _ _ hP hD hS _ (by rw [← e_89]; exact (lv_sub hl [0, 1] rfl))
      refine lv_aload_n hx hb dX9_lay_40 rfl (lv_at hl 0 rfl) ?_
      refine va_get (D := D) (ci := 9) (v := .ref m3) (C := RX9) (T := TX9) (N := 20) hx hb hts hinX9 hown hK hP 0 rfl rfl 3 (by decide) hf16 (fun _ h9 => h9) rfl dX9_lay_41 ?_
      refine lv_iconst (v := 3) hx hb dX9_lay_44 (by decide) ?_
      refine lv_iload_n hx hb dX9_lay_45 rfl (lv_at hl 2 rfl) ?_
      refine q_iaddN (a := 3) (b := j26_) hx hb dX9_lay_46 ?_
      refine q_iald hx hb hK hP 3 0 rfl rfl (vp_in_nI (by omega) (by decide)) (3 + j26_) (nI_clamp (by omega)) dX9_lay_47 ?_
      refine lv_aload_n hx hb dX9_lay_48 rfl (lv_at hl 0 rfl) ?_
      refine va_get (D := D) (ci := 9) (v := .ref m3) (C := RX9) (T := TX9) (N := 20) hx hb hts hinX9 hown hK hP 0 rfl rfl 3 (by decide) hf16 (fun _ h9 => h9) rfl dX9_lay_49 ?_
      refine lv_iconst (v := 2) hx hb dX9_lay_52 (by decide) ?_
      refine q_iald hx hb hK hP 3 0 rfl rfl (vp_in_nI (n := 2) (N := 37) (by decide) (by decide)) 2 (by decide) dX9_lay_53 ?_
      refine lv_icmp_ge (tgt := 61) hx hb dX9_lay_54 (by decide) (fun c_90 => ?_) (fun c_90 => ?_)
      · refine lv_iconst (v := 0) hx hb dX9_lay_61 (by decide) ?_
        refine lv_istore_n (lv' := [(1, .int 0), (0, .ref m0), (2, .int (nI j26_))]) hx hb dX9_lay_62 rfl hl (by decide) rfl (fun ls hl => ?_)
        refine lv_iinc (v := (nI (j26_ + 1))) (lv' := [(2, .int (nI (j26_ + 1))), (1, .int 0), (0, .ref m0)]) hx hb dX9_lay_63 hl (k := 2) rfl (nI_1 _) (by decide) rfl (fun ls hl => ?_)
        refine lv_goto (tgt := 26) hx hb dX9_lay_66 (by decide) ?_
        exact ih26_ (j26_ + 1) 0 (by omega) (by rw [← hv26_]; simp only [L_X9_lay_26, if_neg c_87, if_pos c_90]) _ _ hP hD hS _ (lv_sub hl [2, 1, 0] rfl)
      refine lv_iconst (v := 1) hx hb dX9_lay_57 (by decide) ?_
      refine lv_goto (tgt := 62) hx hb dX9_lay_58 (by decide) ?_
      refine lv_istore_n (lv' := [(1, .int 1), (0, .ref m0), (2, .int (nI j26_))]) hx hb dX9_lay_62 rfl hl (by decide) rfl (fun ls hl => ?_)
      refine lv_iinc (v := (nI (j26_ + 1))) (lv' := [(2, .int (nI (j26_ + 1))), (1, .int 1), (0, .ref m0)]) hx hb dX9_lay_63 hl (k := 2) rfl (nI_1 _) (by decide) rfl (fun ls hl => ?_)
      refine lv_goto (tgt := 26) hx hb dX9_lay_66 (by decide) ?_
      exact ih26_ (j26_ + 1) 1 (by omega) (by rw [← hv26_]; simp only [L_X9_lay_26, if_neg c_87, if_neg c_90]) _ _ hP hD hS _ (lv_sub hl [2, 1, 0] rfl)
  exact loop26_ (Int32.toNatClampNeg ((g_X9_reads_mDr mTy mFi mSc mTx mDr) 0)) 0 1 (by omega) rfl _ _ hP hD hS _ (lv_sub hl [2, 1, 0] rfl)
