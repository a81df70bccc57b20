theorem in_addn {x : Int32} {n N : Nat} (h : vp_in x n) (c : Nat) (hN : n + c ≤ N) (h31 : N < 2 ^ 31) : vp_in (x + nI c) N := by
  obtain ⟨j, hj, rfl⟩ := vp_in_of h (by omega)
  rw [nI_add]
  exact vp_in_nI (by omega) h31
theorem txin {k n : Nat} (h : n ≤ 200) (hk : k < 2000) (hl : ¬ nI n ≤ nI k) : vp_in (nI k) 200 := vp_in_nI (by have := k_leF (by omega) (by omega) hl; omega) (by decide)
theorem txin2 {k : Int32} {n : Nat} (h : n ≤ 200) (hk : vp_in k 2000) (hl : ¬ nI n ≤ k) : vp_in k 200 := by
  obtain ⟨j, hj, rfl⟩ := vp_in_of hk (by decide)
  exact txin h hj hl
theorem in_below {x d : Int32} (h0 : ¬ x < 0) (h : ¬ d ≤ x) (hd : vp_in d 7) : vp_in x 6 := by
  obtain ⟨j, hj, rfl⟩ := nI_of h0
  obtain ⟨q, hq, rfl⟩ := vp_in_of hd (by decide)
  have := k_leF (by omega) (by omega) h
  exact vp_in_nI (by omega) (by decide)
def f_X9_letterAt (mTy : Nat) (mTx : Nat → Int32) (p0 : Int32) : Int32 := (if (nI mTy) ≤ p0 then (-1) else (mTx (Int32.toNatClampNeg p0)))
abbrev rm_X9_letterAt : Room := { frames := 0, cells := 0, slots := 0, locals := 0 }
set_option maxRecDepth 100000 in
set_option maxHeartbeats 4000000 in
theorem c_X9_letterAt (l : Launch) (D : va_G) (cI cC cG : ClassId) (m0 : Nat) (m1 : Nat) (m2 : Nat) (m3 : Nat) (m4 : Nat) (m5 : Nat) (m6 : Nat) (m7 : Nat) (m8 : Nat) (m9 : Nat) (m10 : Nat) (m11 : Nat) (m12 : Nat) (mTy : Nat) (mKn : Nat) (mKe : Nat) (mCa : Nat) (mSe : Nat) (mAt : Nat) (mFi : Int32) (mSc : Int32) (mTx : Nat → Int32) (mTo : Nat → Int32) (mDr : Nat → Int32) (mSt : Nat → Int32) (mPa : Nat → Int32) (mIm : Nat → Int32) (mWi : Nat → Int32) (mSn : Nat → Int32) (mHe : Nat → Int32) (mFw : Nat → Int32) (mRo : Nat → Int32) (mBe : Nat → Int32) (p0 : Int32) (hty : mTy ≤ 200) (hk0 : vp_in p0 2000) : RoI l yX9_letterAt wsX9_letterAt rm_X9_letterAt D (q_t cI cC cG) (wM cI cC cG m0 m1 m2 m3 m4 m5 m6 m7 m8 m9 m10 m11 m12 mTy mKn mKe mCa mSe mAt mFi mSc mTx mTo mDr mSt mPa mIm mWi mSn mHe mFw mRo mBe) [.ref m0, .int p0] (f_X9_letterAt mTy mTx p0) := by
  refine ro_enter (cc := cX9_letterAt) (maxL := 2) (ret := (some .int)) (by decide) rfl (Nat.le_of_ble_eq_true rfl) ?_
  intro p e s m below meth c ls B hP hK hl
  obtain ⟨hx, hb, hr, hlocks, hml, hown, hts, hN⟩ := B
  have hS : va_S q_no s.heap s.heap [] := va_S.rf
  have hown : s.vm.findClass RX9 = some m.cls := hown
  have hl : lv_has ls 2 [(0, .ref m0), (1, .int p0)] := hl
  have hf66 := hts (.fieldLink RX9 66 "OlderByABlushModel" "typed" "I") (by decide +kernel)
  have hinX9 : ∀ w ∈ u_ws RX9 TX9 20, w ∈ wsX9_letterAt := by decide +kernel
  have hf7 := hts (.fieldLink RX9 7 "OlderByABlushModel" "text" "[I") (by decide +kernel)
  refine lv_iload_n hx hb dX9_letterAt_0 rfl (lv_at hl 1 rfl) ?_
  refine lv_aload_n hx hb dX9_letterAt_1 rfl (lv_at hl 0 rfl) ?_
  refine va_get (D := D) (ci := 9) (v := .int (nI mTy)) (C := RX9) (T := TX9) (N := 20) hx hb hts hinX9 hown hK hP 0 rfl rfl 1 (by decide) hf66 (fun _ h9 => h9) rfl dX9_letterAt_2 ?_
  refine lv_icmp_ge (tgt := 17) hx hb dX9_letterAt_5 (by decide) (fun c_1 => ?_) (fun c_1 => ?_)
  · refine lv_iconst (v := (-1)) hx hb dX9_letterAt_17 (by decide) ?_
    exact ro_iret hx hb hr hlocks hS (by simp only [f_X9_letterAt, if_pos c_1]) dX9_letterAt_18
  refine lv_aload_n hx hb dX9_letterAt_8 rfl (lv_at hl 0 rfl) ?_
  refine va_get (D := D) (ci := 9) (v := .ref m1) (C := RX9) (T := TX9) (N := 20) hx hb hts hinX9 hown hK hP 0 rfl rfl 0 (by decide) hf7 (fun _ h9 => h9) rfl dX9_letterAt_9 ?_
  refine lv_iload_n hx hb dX9_letterAt_12 rfl (lv_at hl 1 rfl) ?_
  refine q_iald hx hb hK hP 1 0 rfl rfl (txin2 hty hk0 c_1) (Int32.toNatClampNeg p0) rfl dX9_letterAt_13 ?_
  refine lv_goto (tgt := 18) hx hb dX9_letterAt_14 (by decide) ?_
  exact ro_iret hx hb hr hlocks hS (by simp only [f_X9_letterAt, if_neg c_1]) dX9_letterAt_18
def f_X9_number (mTy : Nat) (mAt : Nat) (mTx : Nat → Int32) : Int32 := (if (f_X9_isFigure (f_X9_letterAt mTy mTx (nI mAt))) = 0 then (-1) else (if (f_X9_isFigure (f_X9_letterAt mTy mTx (nI (mAt + 1)))) = 0 then ((f_X9_letterAt mTy mTx (nI mAt)) - 48) else (((10 * ((f_X9_letterAt mTy mTx (nI mAt)) - 48)) + (f_X9_letterAt mTy mTx (nI (mAt + 1)))) - 48)))
def g_X9_number_mAt (mTy : Nat) (mAt : Nat) (mTx : Nat → Int32) : Nat := (if (f_X9_isFigure (f_X9_letterAt mTy mTx (nI mAt))) = 0 then mAt else (if (f_X9_isFigure (f_X9_letterAt mTy mTx (nI (mAt + 1)))) = 0 then (mAt + 1) else ((mAt + 1) + 1)))
theorem number_at (mTy mAt : Nat) (mTx : Nat → Int32) : mAt ≤ g_X9_number_mAt mTy mAt mTx ∧ g_X9_number_mAt mTy mAt mTx ≤ mAt + 2 := by
  unfold g_X9_number_mAt
  repeat' split
  all_goals omega
abbrev rm_X9_number : Room := { frames := 2, cells := 0, slots := 0, locals := 42 }
set_option maxRecDepth 100000 in
set_option maxHeartbeats 4000000 in
theorem c_X9_number (l : Launch) (D : va_G) (cI cC cG : ClassId) (m0 : Nat) (m1 : Nat) (m2 : Nat) (m3 : Nat) (m4 : Nat) (m5 : Nat) (m6 : Nat) (m7 : Nat) (m8 : Nat) (m9 : Nat) (m10 : Nat) (m11 : Nat) (m12 : Nat) (mTy : Nat) (mKn : Nat) (mKe : Nat) (mCa : Nat) (mSe : Nat) (mAt : Nat) (mFi : Int32) (mSc : Int32) (mTx : Nat → Int32) (mTo : Nat → Int32) (mDr : Nat → Int32) (mSt : Nat → Int32) (mPa : Nat → Int32) (mIm : Nat → Int32) (mWi : Nat → Int32) (mSn : Nat → Int32) (mHe : Nat → Int32) (mFw : Nat → Int32) (mRo : Nat → Int32) (mBe : Nat → Int32) (sz : Nat) (hty : mTy ≤ 200) (hat : mAt ≤ 1000) : RwI l yX9_number wsX9_number rm_X9_number D (q_t cI cC cG) (wM cI cC cG m0 m1 m2 m3 m4 m5 m6 m7 m8 m9 m10 m11 m12 mTy mKn mKe mCa mSe mAt mFi mSc mTx mTo mDr mSt mPa mIm mWi mSn mHe mFw mRo mBe) (wM cI cC cG m0 m1 m2 m3 m4 m5 m6 m7 m8 m9 m10 m11 m12 mTy mKn mKe mCa mSe (g_X9_number_mAt mTy mAt mTx) mFi mSc mTx mTo mDr mSt mPa mIm mWi mSn mHe mFw mRo mBe) sz [.ref m0] (f_X9_number mTy mAt mTx) := by
  refine rw_enter (cc := cX9_number) (maxL := 2) (ret := (some .int)) (by decide) rfl (Nat.le_of_ble_eq_true rfl) ?_
  intro p e s m below meth c ls B hP hK hD hS hA hl
  obtain ⟨hx, hb, hr, hlocks, hml, hown, hts, hN⟩ := B
  have hown : s.vm.findClass RX9 = some m.cls := hown
  have hl : lv_has ls 2 [(0, .ref m0)] := hl
  have hf70 := hts (.fieldLink RX9 70 "OlderByABlushModel" "at" "I") (by decide +kernel)
  have hinX9 : ∀ w ∈ u_ws RX9 TX9 20, w ∈ wsX9_number := by decide +kernel
  refine lv_aload_n hx hb dX9_number_0 rfl (lv_at hl 0 rfl) ?_
  refine lv_aload_n hx hb dX9_number_1 rfl (lv_at hl 0 rfl) ?_
  refine va_get (D := D) (ci := 9) (v := .int (nI mAt)) (C := RX9) (T := TX9) (N := 20) hx hb hts hinX9 hown hK hP 0 rfl rfl 13 (by decide) hf70 (fun _ h9 => h9) rfl dX9_number_2 ?_
  refine ro_i (va_runV (As := [.int (nI mAt)]) (rest := []) ⟨hx, hb, hml, hown, hts⟩ (c_X9_letterAt l D cI cC cG m0 m1 m2 m3 m4 m5 m6 m7 m8 m9 m10 m11 m12 mTy mKn mKe mCa mSe mAt mFi mSc mTx mTo mDr mSt mPa mIm mWi mSn mHe mFw mRo mBe (nI mAt) (by omega) (vp_in_nI (by omega) (by decide))) (cwV 1 hts gX9_number_X9_letterAt rfl rfl rfl (by decide +kernel) ⟨Nat.le_of_ble_eq_true rfl, Nat.le_of_ble_eq_true rfl⟩) (q_preV hK hP hN [0, 1, 2, 3, 4, 5, 6, 7, 8, 9, 10, 11, 12] rfl (ci := 9) (q0 := 0) rfl rfl) rfl rfl hl.1 rfl (lv_room (Nat.le_of_ble_eq_true rfl)) dX9_number_5 ⟨Nat.zero_le _, Nat.zero_le _⟩) hS hP (fun H locs hP hS => ?_)
  refine ro_i (va_runS (As := [.int (f_X9_letterAt mTy mTx (nI mAt))]) (rest := []) ⟨hx, hb, hml, hown, hts⟩ (c_X9_isFigure l D cI cC cG (f_X9_letterAt mTy mTx (nI mAt))) (cwS 1 hts gX9_number_X9_isFigure rfl rfl rfl (by decide +kernel) ⟨Nat.le_of_ble_eq_true rfl, Nat.le_of_ble_eq_true rfl⟩) (q_preS hK hP hN [] rfl) rfl rfl hl.1 rfl (lv_room (Nat.le_of_ble_eq_true rfl)) dX9_number_8 ⟨Nat.zero_le _, Nat.zero_le _⟩) hS hP (fun H locs hP hS => ?_)
  refine lv_if_ne (tgt := 16) hx hb dX9_number_11 (by decide) (fun c_1 => ?_) (fun c_1 => ?_)
  · refine lv_aload_n hx hb dX9_number_16 rfl (lv_at hl 0 rfl) ?_
    refine lv_aload_n hx hb dX9_number_17 rfl (lv_at hl 0 rfl) ?_
    refine va_get (D := D) (ci := 9) (v := .int (nI mAt)) (C := RX9) (T := TX9) (N := 20) hx hb hts hinX9 hown hK hP 0 rfl rfl 13 (by decide) hf70 (fun _ h9 => h9) rfl dX9_number_18 ?_
    refine ro_i (va_runV (As := [.int (nI mAt)]) (rest := []) ⟨hx, hb, hml, hown, hts⟩ (c_X9_letterAt l D cI cC cG m0 m1 m2 m3 m4 m5 m6 m7 m8 m9 m10 m11 m12 mTy mKn mKe mCa mSe mAt mFi mSc mTx mTo mDr mSt mPa mIm mWi mSn mHe mFw mRo mBe (nI mAt) (by omega) (vp_in_nI (by omega) (by decide))) (cwV 1 hts gX9_number_X9_letterAt rfl rfl rfl (by decide +kernel) ⟨Nat.le_of_ble_eq_true rfl, Nat.le_of_ble_eq_true rfl⟩) (q_preV hK hP hN [0, 1, 2, 3, 4, 5, 6, 7, 8, 9, 10, 11, 12] rfl (ci := 9) (q0 := 0) rfl rfl) rfl rfl hl.1 rfl (lv_room (Nat.le_of_ble_eq_true rfl)) dX9_number_21 ⟨Nat.zero_le _, Nat.zero_le _⟩) hS hP (fun H locs hP hS => ?_)
    refine lv_bipush (v := 48) hx hb dX9_number_24 (by decide) ?_
    refine lv_isub hx hb dX9_number_26 ?_
    refine lv_istore_n (lv' := [(1, .int ((f_X9_letterAt mTy mTx (nI mAt)) - 48)), (0, .ref m0)]) hx hb dX9_number_27 rfl hl (by decide) rfl (fun ls hl => ?_)
    refine lv_aload_n hx hb dX9_number_28 rfl (lv_at hl 1 rfl) ?_
    refine lv_dup hx hb dX9_number_29 rfl ?_
    refine va_get (D := D) (ci := 9) (v := .int (nI mAt)) (C := RX9) (T := TX9) (N := 20) hx hb hts hinX9 hown hK hP 0 rfl rfl 13 (by decide) hf70 (fun _ h9 => h9) rfl dX9_number_30 ?_
    refine lv_iconst (v := 1) hx hb dX9_number_33 (by decide) ?_
    refine q_iaddN (a := mAt) (b := 1) hx hb dX9_number_34 ?_
    refine va_put (D := D) (ci := 9) (v := .int (nI (mAt + 1))) (ty := .int) (C := RX9) (T := TX9) (N := 20) hx hb hts hinX9 tyX9 tyX9_ok nmX9 hown hK hP hD hS 0 rfl rfl 13 (by decide) hf70 (fun _ h9 => h9) rfl (by decide +kernel) rfl rfl (Nat.le_of_ble_eq_true rfl) dX9_number_35 (fun H locs hP hD hS => ?_)
    have hP : va_P D vwCl [(m0, .inr (9, [.ref m1, .int (nI mTy), .ref m2, .ref m3, .ref m4, .ref m5, .int (nI mKn), .ref m6, .int (nI mKe), .ref m7, .int (nI mCa), .ref m8, .int (nI mSe), .int (nI (mAt + 1)), .int mFi, .int mSc, .ref m9, .ref m10, .ref m11, .ref m12])), (m1, .inl (cI, 200, .inl mTx)), (m2, .inl (cI, 37, .inl mTo)), (m3, .inl (cI, 37, .inl mDr)), (m4, .inl (cI, 15, .inl mSt)), (m5, .inl (cI, 120, .inl mPa)), (m6, .inl (cI, 30, .inl mIm)), (m7, .inl (cI, 5, .inl mWi)), (m8, .inl (cI, 6, .inl mSn)), (m9, .inl (cI, 15, .inl mHe)), (m10, .inl (cI, 384, .inl mFw)), (m11, .inl (cI, 5, .inl mRo)), (m12, .inl (cI, 5, .inl mBe))] H := hP
    have hD : va_D (va_A (wM cI cC cG m0 m1 m2 m3 m4 m5 m6 m7 m8 m9 m10 m11 m12 mTy mKn mKe mCa mSe mAt mFi mSc mTx mTo mDr mSt mPa mIm mWi mSn mHe mFw mRo mBe) sz) [(m0, .inr (9, [.ref m1, .int (nI mTy), .ref m2, .ref m3, .ref m4, .ref m5, .int (nI mKn), .ref m6, .int (nI mKe), .ref m7, .int (nI mCa), .ref m8, .int (nI mSe), .int (nI (mAt + 1)), .int mFi, .int mSc, .ref m9, .ref m10, .ref m11, .ref m12])), (m1, .inl (cI, 200, .inl mTx)), (m2, .inl (cI, 37, .inl mTo)), (m3, .inl (cI, 37, .inl mDr)), (m4, .inl (cI, 15, .inl mSt)), (m5, .inl (cI, 120, .inl mPa)), (m6, .inl (cI, 30, .inl mIm)), (m7, .inl (cI, 5, .inl mWi)), (m8, .inl (cI, 6, .inl mSn)), (m9, .inl (cI, 15, .inl mHe)), (m10, .inl (cI, 384, .inl mFw)), (m11, .inl (cI, 5, .inl mRo)), (m12, .inl (cI, 5, .inl mBe))] := hD
    refine lv_aload_n hx hb dX9_number_38 rfl (lv_at hl 1 rfl) ?_
    refine lv_aload_n hx hb dX9_number_39 rfl (lv_at hl 1 rfl) ?_
    refine va_get (D := D) (ci := 9) (v := .int (nI (mAt + 1))) (C := RX9) (T := TX9) (N := 20) hx hb hts hinX9 hown hK hP 0 rfl rfl 13 (by decide) hf70 (fun _ h9 => h9) rfl dX9_number_40 ?_
    refine ro_i (va_runV (As := [.int (nI (mAt + 1))]) (rest := []) ⟨hx, hb, hml, hown, hts⟩ (c_X9_letterAt l D cI cC cG m0 m1 m2 m3 m4 m5 m6 m7 m8 m9 m10 m11 m12 mTy mKn mKe mCa mSe (mAt + 1) mFi mSc mTx mTo mDr mSt mPa mIm mWi mSn mHe mFw mRo mBe (nI (mAt + 1)) (by omega) (vp_in_nI (by omega) (by decide))) (cwV 1 hts gX9_number_X9_letterAt rfl rfl rfl (by decide +kernel) ⟨Nat.le_of_ble_eq_true rfl, Nat.le_of_ble_eq_true rfl⟩) (q_preV hK hP hN [0, 1, 2, 3, 4, 5, 6, 7, 8, 9, 10, 11, 12] rfl (ci := 9) (q0 := 0) rfl rfl) rfl rfl hl.1 rfl (lv_room (Nat.le_of_ble_eq_true rfl)) dX9_number_43 ⟨Nat.zero_le _, Nat.zero_le _⟩) hS hP (fun H locs hP hS => ?_)
    refine ro_i (va_runS (As := [.int (f_X9_letterAt mTy mTx (nI (mAt + 1)))]) (rest := []) ⟨hx, hb, hml, hown, hts⟩ (c_X9_isFigure l D cI cC cG (f_X9_letterAt mTy mTx (nI (mAt + 1)))) (cwS 1 hts gX9_number_X9_isFigure rfl rfl rfl (by decide +kernel) ⟨Nat.le_of_ble_eq_true rfl, Nat.le_of_ble_eq_true rfl⟩) (q_preS hK hP hN [] rfl) rfl rfl hl.1 rfl (lv_room (Nat.le_of_ble_eq_true rfl)) dX9_number_46 ⟨Nat.zero_le _, Nat.zero_le _⟩) hS hP (fun H locs hP hS => ?_)
    refine lv_if_eq (tgt := 79) hx hb dX9_number_49 (by decide) (fun c_2 => ?_) (fun c_2 => ?_)
    · refine lv_iload_n hx hb dX9_number_79 rfl (lv_at hl 0 rfl) ?_
      have e_3 : (g_X9_number_mAt mTy mAt mTx) = (mAt + 1) := by simp only [g_X9_number_mAt, if_neg c_1, if_pos c_2]
      exact rw_iret hx hb hr hlocks hP hD hS (by simp only [f_X9_number, if_neg c_1, if_pos c_2]) (by rw [e_3] <;> rfl) dX9_number_80
    refine lv_bipush (v := 10) hx hb dX9_number_52 (by decide) ?_
    refine lv_iload_n hx hb dX9_number_54 rfl (lv_at hl 0 rfl) ?_
    refine lv_imul hx hb dX9_number_55 ?_
    refine lv_aload_n hx hb dX9_number_56 rfl (lv_at hl 1 rfl) ?_
    refine lv_aload_n hx hb dX9_number_57 rfl (lv_at hl 1 rfl) ?_
    refine va_get (D := D) (ci := 9) (v := .int (nI (mAt + 1))) (C := RX9) (T := TX9) (N := 20) hx hb hts hinX9 hown hK hP 0 rfl rfl 13 (by decide) hf70 (fun _ h9 => h9) rfl dX9_number_58 ?_
    refine ro_i (va_runV (As := [.int (nI (mAt + 1))]) (rest := [.int (10 * ((f_X9_letterAt mTy mTx (nI mAt)) - 48))]) ⟨hx, hb, hml, hown, hts⟩ (c_X9_letterAt l D cI cC cG m0 m1 m2 m3 m4 m5 m6 m7 m8 m9 m10 m11 m12 mTy mKn mKe mCa mSe (mAt + 1) mFi mSc mTx mTo mDr mSt mPa mIm mWi mSn mHe mFw mRo mBe (nI (mAt + 1)) (by omega) (vp_in_nI (by omega) (by decide))) (cwV 1 hts gX9_number_X9_letterAt rfl rfl rfl (by decide +kernel) ⟨Nat.le_of_ble_eq_true rfl, Nat.le_of_ble_eq_true rfl⟩) (q_preV hK hP hN [0, 1, 2, 3, 4, 5, 6, 7, 8, 9, 10, 11, 12] rfl (ci := 9) (q0 := 0) rfl rfl) rfl rfl hl.1 rfl (lv_room (Nat.le_of_ble_eq_true rfl)) dX9_number_61 ⟨Nat.zero_le _, Nat.zero_le _⟩) hS hP (fun H locs hP hS => ?_)
    refine lv_iadd hx hb dX9_number_64 ?_
    refine lv_bipush (v := 48) hx hb dX9_number_65 (by decide) ?_
    refine lv_isub hx hb dX9_number_67 ?_
    refine lv_istore_n (lv' := [(1, .int (((10 * ((f_X9_letterAt mTy mTx (nI mAt)) - 48)) + (f_X9_letterAt mTy mTx (nI (mAt + 1)))) - 48)), (0, .ref m0)]) hx hb dX9_number_68 rfl hl (by decide) rfl (fun ls hl => ?_)
    refine lv_aload_n hx hb dX9_number_69 rfl (lv_at hl 1 rfl) ?_
    refine lv_dup hx hb dX9_number_70 rfl ?_
    refine va_get (D := D) (ci := 9) (v := .int (nI (mAt + 1))) (C := RX9) (T := TX9) (N := 20) hx hb hts hinX9 hown hK hP 0 rfl rfl 13 (by decide) hf70 (fun _ h9 => h9) rfl dX9_number_71 ?_
    refine lv_iconst (v := 1) hx hb dX9_number_74 (by decide) ?_
    refine q_iaddN (a := (mAt + 1)) (b := 1) hx hb dX9_number_75 ?_
    refine va_put (D := D) (ci := 9) (v := .int (nI ((mAt + 1) + 1))) (ty := .int) (C := RX9) (T := TX9) (N := 20) hx hb hts hinX9 tyX9 tyX9_ok nmX9 hown hK hP hD hS 0 rfl rfl 13 (by decide) hf70 (fun _ h9 => h9) rfl (by decide +kernel) rfl rfl (Nat.le_of_ble_eq_true rfl) dX9_number_76 (fun H locs hP hD hS => ?_)
    have hP : va_P D vwCl [(m0, .inr (9, [.ref m1, .int (nI mTy), .ref m2, .ref m3, .ref m4, .ref m5, .int (nI mKn), .ref m6, .int (nI mKe), .ref m7, .int (nI mCa), .ref m8, .int (nI mSe), .int (nI ((mAt + 1) + 1)), .int mFi, .int mSc, .ref m9, .ref m10, .ref m11, .ref m12])), (m1, .inl (cI, 200, .inl mTx)), (m2, .inl (cI, 37, .inl mTo)), (m3, .inl (cI, 37, .inl mDr)), (m4, .inl (cI, 15, .inl mSt)), (m5, .inl (cI, 120, .inl mPa)), (m6, .inl (cI, 30, .inl mIm)), (m7, .inl (cI, 5, .inl mWi)), (m8, .inl (cI, 6, .inl mSn)), (m9, .inl (cI, 15, .inl mHe)), (m10, .inl (cI, 384, .inl mFw)), (m11, .inl (cI, 5, .inl mRo)), (m12, .inl (cI, 5, .inl mBe))] H := hP
    have hD : va_D (va_A (wM cI cC cG m0 m1 m2 m3 m4 m5 m6 m7 m8 m9 m10 m11 m12 mTy mKn mKe mCa mSe mAt mFi mSc mTx mTo mDr mSt mPa mIm mWi mSn mHe mFw mRo mBe) sz) [(m0, .inr (9, [.ref m1, .int (nI mTy), .ref m2, .ref m3, .ref m4, .ref m5, .int (nI mKn), .ref m6, .int (nI mKe), .ref m7, .int (nI mCa), .ref m8, .int (nI mSe), .int (nI ((mAt + 1) + 1)), .int mFi, .int mSc, .ref m9, .ref m10, .ref m11, .ref m12])), (m1, .inl (cI, 200, .inl mTx)), (m2, .inl (cI, 37, .inl mTo)), (m3, .inl (cI, 37, .inl mDr)), (m4, .inl (cI, 15, .inl mSt)), (m5, .inl (cI, 120, .inl mPa)), (m6, .inl (cI, 30, .inl mIm)), (m7, .inl (cI, 5, .inl mWi)), (m8, .inl (cI, 6, .inl mSn)), (m9, .inl (cI, 15, .inl mHe)), (m10, .inl (cI, 384, .inl mFw)), (m11, .inl (cI, 5, .inl mRo)), (m12, .inl (cI, 5, .inl mBe))] := hD
    refine lv_iload_n hx hb dX9_number_79 rfl (lv_at hl 0 rfl) ?_
    have e_4 : (g_X9_number_mAt mTy mAt mTx) = ((mAt + 1) + 1) := by simp only [g_X9_number_mAt, if_neg c_1, if_neg c_2]
    exact rw_iret hx hb hr hlocks hP hD hS (by simp only [f_X9_number, if_neg c_1, if_neg c_2]) (by rw [e_4] <;> rfl) dX9_number_80
  refine lv_iconst (v := (-1)) hx hb dX9_number_14 (by decide) ?_
  have e_5 : (g_X9_number_mAt mTy mAt mTx) = mAt := by simp only [g_X9_number_mAt, if_pos c_1]
  exact rw_iret hx hb hr hlocks hP hD hS (by simp only [f_X9_number, if_pos c_1]) (by rw [e_5] <;> rfl) dX9_number_15
def f_X9_sign (mTy : Nat) (mAt : Nat) (mTx : Nat → Int32) (p0 : Int32) : Int32 := (if (f_X9_letterAt mTy mTx (nI mAt)) = p0 then 1 else 0)
def g_X9_sign_mAt (mTy : Nat) (mAt : Nat) (mTx : Nat → Int32) (p0 : Int32) : Nat := (if (f_X9_letterAt mTy mTx (nI mAt)) = p0 then (mAt + 1) else (mAt + 0))
theorem sign_at (mTy mAt : Nat) (mTx : Nat → Int32) (p0 : Int32) : mAt ≤ g_X9_sign_mAt mTy mAt mTx p0 ∧ g_X9_sign_mAt mTy mAt mTx p0 ≤ mAt + 1 := by
  unfold g_X9_sign_mAt
  repeat' split
  all_goals omega
abbrev rm_X9_sign : Room := { frames := 1, cells := 0, slots := 0, locals := 21 }
set_option maxRecDepth 100000 in
set_option maxHeartbeats 4000000 in
theorem c_X9_sign (l : Launch) (D : va_G) (cI cC cG : ClassId) (m0 : Nat) (m1 : Nat) (m2 : Nat) (m3 : Nat) (m4 : Nat) (m5 : Nat) (m6 : Nat) (m7 : Nat) (m8 : Nat) (m9 : Nat) (m10 : Nat) (m11 : Nat) (m12 : Nat) (mTy : Nat) (mKn : Nat) (mKe : Nat) (mCa : Nat) (mSe : Nat) (mAt : Nat) (mFi : Int32) (mSc : Int32) (mTx : Nat → Int32) (mTo : Nat → Int32) (mDr : Nat → Int32) (mSt : Nat → Int32) (mPa : Nat → Int32) (mIm : Nat → Int32) (mWi : Nat → Int32) (mSn : Nat → Int32) (mHe : Nat → Int32) (mFw : Nat → Int32) (mRo : Nat → Int32) (mBe : Nat → Int32) (p0 : Int32) (sz : Nat) (hty : mTy ≤ 200) (hat : mAt ≤ 1000) : RwI l yX9_sign wsX9_sign rm_X9_sign D (q_t cI cC cG) (wM cI cC cG m0 m1 m2 m3 m4 m5 m6 m7 m8 m9 m10 m11 m12 mTy mKn mKe mCa mSe mAt mFi mSc mTx mTo mDr mSt mPa mIm mWi mSn mHe mFw mRo mBe) (wM cI cC cG m0 m1 m2 m3 m4 m5 m6 m7 m8 m9 m10 m11 m12 mTy mKn mKe mCa mSe (g_X9_sign_mAt mTy mAt mTx p0) mFi mSc mTx mTo mDr mSt mPa mIm mWi mSn mHe mFw mRo mBe) sz [.ref m0, .int p0] (f_X9_sign mTy mAt mTx p0) := by
  refine rw_enter (cc := cX9_sign) (maxL := 3) (ret := (some .boolean)) (by decide) rfl (Nat.le_of_ble_eq_true rfl) ?_
  intro p e s m below meth c ls B hP hK hD hS hA hl
  obtain ⟨hx, hb, hr, hlocks, hml, hown, hts, hN⟩ := B
  have hown : s.vm.findClass RX9 = some m.cls := hown
  have hl : lv_has ls 3 [(0, .ref m0), (1, .int p0)] := hl
  have hf70 := hts (.fieldLink RX9 70 "OlderByABlushModel" "at" "I") (by decide +kernel)
  have hinX9 : ∀ w ∈ u_ws RX9 TX9 20, w ∈ wsX9_sign := by decide +kernel
  refine lv_aload_n hx hb dX9_sign_0 rfl (lv_at hl 0 rfl) ?_
  refine lv_aload_n hx hb dX9_sign_1 rfl (lv_at hl 0 rfl) ?_
  refine va_get (D := D) (ci := 9) (v := .int (nI mAt)) (C := RX9) (T := TX9) (N := 20) hx hb hts hinX9 hown hK hP 0 rfl rfl 13 (by decide) hf70 (fun _ h9 => h9) rfl dX9_sign_2 ?_
  refine ro_i (va_runV (As := [.int (nI mAt)]) (rest := []) ⟨hx, hb, hml, hown, hts⟩ (c_X9_letterAt l D cI cC cG m0 m1 m2 m3 m4 m5 m6 m7 m8 m9 m10 m11 m12 mTy mKn mKe mCa mSe mAt mFi mSc mTx mTo mDr mSt mPa mIm mWi mSn mHe mFw mRo mBe (nI mAt) (by omega) (vp_in_nI (by omega) (by decide))) (cwV 1 hts gX9_sign_X9_letterAt rfl rfl rfl (by decide +kernel) ⟨Nat.le_of_ble_eq_true rfl, Nat.le_of_ble_eq_true rfl⟩) (q_preV hK hP hN [0, 1, 2, 3, 4, 5, 6, 7, 8, 9, 10, 11, 12] rfl (ci := 9) (q0 := 0) rfl rfl) rfl rfl hl.1 rfl (lv_room (Nat.le_of_ble_eq_true rfl)) dX9_sign_5 ⟨Nat.zero_le _, Nat.zero_le _⟩) hS hP (fun H locs hP hS => ?_)
  refine lv_iload_n hx hb dX9_sign_8 rfl (lv_at hl 1 rfl) ?_
  refine lv_icmp_ne (tgt := 16) hx hb dX9_sign_9 (by decide) (fun c_1 => ?_) (fun c_1 => ?_)
  · refine lv_iconst (v := 0) hx hb dX9_sign_16 (by decide) ?_
    refine lv_istore_n (lv' := [(2, .int 0), (0, .ref m0), (1, .int p0)]) hx hb dX9_sign_17 rfl hl (by decide) rfl (fun ls hl => ?_)
    refine lv_aload_n hx hb dX9_sign_18 rfl (lv_at hl 1 rfl) ?_
    refine lv_dup hx hb dX9_sign_19 rfl ?_
    refine va_get (D := D) (ci := 9) (v := .int (nI mAt)) (C := RX9) (T := TX9) (N := 20) hx hb hts hinX9 hown hK hP 0 rfl rfl 13 (by decide) hf70 (fun _ h9 => h9) rfl dX9_sign_20 ?_
    refine lv_iload_n hx hb dX9_sign_23 rfl (lv_at hl 0 rfl) ?_
    refine lv_if_eq (tgt := 31) hx hb dX9_sign_24 (by decide) (fun c_2 => ?_) (fun c_2 => ?_)
    rotate_left
    · exact absurd (by decide : ((0 : Int32) = 0)) c_2
    refine lv_iconst (v := 0) hx hb dX9_sign_31 (by decide) ?_
    refine q_iaddN (a := mAt) (b := 0) hx hb dX9_sign_32 ?_
    refine va_put (D := D) (ci := 9) (v := .int (nI (mAt + 0))) (ty := .int) (C := RX9) (T := TX9) (N := 20) hx hb hts hinX9 tyX9 tyX9_ok nmX9 hown hK hP hD hS 0 rfl rfl 13 (by decide) hf70 (fun _ h9 => h9) rfl (by decide +kernel) rfl rfl (Nat.le_of_ble_eq_true rfl) dX9_sign_33 (fun H locs hP hD hS => ?_)
    have hP : va_P D vwCl [(m0, .inr (9, [.ref m1, .int (nI mTy), .ref m2, .ref m3, .ref m4, .ref m5, .int (nI mKn), .ref m6, .int (nI mKe), .ref m7, .int (nI mCa), .ref m8, .int (nI mSe), .int (nI (mAt + 0)), .int mFi, .int mSc, .ref m9, .ref m10, .ref m11, .ref m12])), (m1, .inl (cI, 200, .inl mTx)), (m2, .inl (cI, 37, .inl mTo)), (m3, .inl (cI, 37, .inl mDr)), (m4, .inl (cI, 15, .inl mSt)), (m5, .inl (cI, 120, .inl mPa)), (m6, .inl (cI, 30, .inl mIm)), (m7, .inl (cI, 5, .inl mWi)), (m8, .inl (cI, 6, .inl mSn)), (m9, .inl (cI, 15, .inl mHe)), (m10, .inl (cI, 384, .inl mFw)), (m11, .inl (cI, 5, .inl mRo)), (m12, .inl (cI, 5, .inl mBe))] H := hP
    have hD : va_D (va_A (wM cI cC cG m0 m1 m2 m3 m4 m5 m6 m7 m8 m9 m10 m11 m12 mTy mKn mKe mCa mSe mAt mFi mSc mTx mTo mDr mSt mPa mIm mWi mSn mHe mFw mRo mBe) sz) [(m0, .inr (9, [.ref m1, .int (nI mTy), .ref m2, .ref m3, .ref m4, .ref m5, .int (nI mKn), .ref m6, .int (nI mKe), .ref m7, .int (nI mCa), .ref m8, .int (nI mSe), .int (nI (mAt + 0)), .int mFi, .int mSc, .ref m9, .ref m10, .ref m11, .ref m12])), (m1, .inl (cI, 200, .inl mTx)), (m2, .inl (cI, 37, .inl mTo)), (m3, .inl (cI, 37, .inl mDr)), (m4, .inl (cI, 15, .inl mSt)), (m5, .inl (cI, 120, .inl mPa)), (m6, .inl (cI, 30, .inl mIm)), (m7, .inl (cI, 5, .inl mWi)), (m8, .inl (cI, 6, .inl mSn)), (m9, .inl (cI, 15, .inl mHe)), (m10, .inl (cI, 384, .inl mFw)), (m11, .inl (cI, 5, .inl mRo)), (m12, .inl (cI, 5, .inl mBe))] := hD
    refine lv_iload_n hx hb dX9_sign_36 rfl (lv_at hl 0 rfl) ?_
    have e_3 : (g_X9_sign_mAt mTy mAt mTx p0) = (mAt + 0) := by simp only [g_X9_sign_mAt, if_neg c_1, if_pos (by decide : ((0 : Int32) = 0)), if_pos trivial, if_neg not_false]
    exact rw_zret hx hb hr (by rfl) hlocks hP hD hS (by simp only [f_X9_sign, if_neg c_1, if_pos (by decide : ((0 : Int32) = 0)), if_pos trivial, if_neg not_false]) (by rw [e_3] <;> rfl) dX9_sign_37
  refine lv_iconst (v := 1) hx hb dX9_sign_12 (by decide) ?_
  refine lv_goto (tgt := 17) hx hb dX9_sign_13 (by decide) ?_
  refine lv_istore_n (lv' := [(2, .int 1), (0, .ref m0), (1, .int p0)]) hx hb dX9_sign_17 rfl hl (by decide) rfl (fun ls hl => ?_)
  refine lv_aload_n hx hb dX9_sign_18 rfl (lv_at hl 1 rfl) ?_
  refine lv_dup hx hb dX9_sign_19 rfl ?_
  refine va_get (D := D) (ci := 9) (v := .int (nI mAt)) (C := RX9) (T := TX9) (N := 20) hx hb hts hinX9 hown hK hP 0 rfl rfl 13 (by decide) hf70 (fun _ h9 => h9) rfl dX9_sign_20 ?_
  refine lv_iload_n hx hb dX9_sign_23 rfl (lv_at hl 0 rfl) ?_
  refine lv_if_eq (tgt := 31) hx hb dX9_sign_24 (by decide) (fun c_4 => ?_) (fun c_4 => ?_)
  · exact absurd c_4 (by decide : ¬ ((1 : Int32) = 0))
  refine lv_iconst (v := 1) hx hb dX9_sign_27 (by decide) ?_
  refine lv_goto (tgt := 32) hx hb dX9_sign_28 (by decide) ?_
  refine q_iaddN (a := mAt) (b := 1) hx hb dX9_sign_32 ?_
  refine va_put (D := D) (ci := 9) (v := .int (nI (mAt + 1))) (ty := .int) (C := RX9) (T := TX9) (N := 20) hx hb hts hinX9 tyX9 tyX9_ok nmX9 hown hK hP hD hS 0 rfl rfl 13 (by decide) hf70 (fun _ h9 => h9) rfl (by decide +kernel) rfl rfl (Nat.le_of_ble_eq_true rfl) dX9_sign_33 (fun H locs hP hD hS => ?_)
  have hP : va_P D vwCl [(m0, .inr (9, [.ref m1, .int (nI mTy), .ref m2, .ref m3, .ref m4, .ref m5, .int (nI mKn), .ref m6, .int (nI mKe), .ref m7, .int (nI mCa), .ref m8, .int (nI mSe), .int (nI (mAt + 1)), .int mFi, .int mSc, .ref m9, .ref m10, .ref m11, .ref m12])), (m1, .inl (cI, 200, .inl mTx)), (m2, .inl (cI, 37, .inl mTo)), (m3, .inl (cI, 37, .inl mDr)), (m4, .inl (cI, 15, .inl mSt)), (m5, .inl (cI, 120, .inl mPa)), (m6, .inl (cI, 30, .inl mIm)), (m7, .inl (cI, 5, .inl mWi)), (m8, .inl (cI, 6, .inl mSn)), (m9, .inl (cI, 15, .inl mHe)), (m10, .inl (cI, 384, .inl mFw)), (m11, .inl (cI, 5, .inl mRo)), (m12, .inl (cI, 5, .inl mBe))] H := hP
  have hD : va_D (va_A (wM cI cC cG m0 m1 m2 m3 m4 m5 m6 m7 m8 m9 m10 m11 m12 mTy mKn mKe mCa mSe mAt mFi mSc mTx mTo mDr mSt mPa mIm mWi mSn mHe mFw mRo mBe) sz) [(m0, .inr (9, [.ref m1, .int (nI mTy), .ref m2, .ref m3, .ref m4, .ref m5, .int (nI mKn), .ref m6, .int (nI mKe), .ref m7, .int (nI mCa), .ref m8, .int (nI mSe), .int (nI (mAt + 1)), .int mFi, .int mSc, .ref m9, .ref m10, .ref m11, .ref m12])), (m1, .inl (cI, 200, .inl mTx)), (m2, .inl (cI, 37, .inl mTo)), (m3, .inl (cI, 37, .inl mDr)), (m4, .inl (cI, 15, .inl mSt)), (m5, .inl (cI, 120, .inl mPa)), (m6, .inl (cI, 30, .inl mIm)), (m7, .inl (cI, 5, .inl mWi)), (m8, .inl (cI, 6, .inl mSn)), (m9, .inl (cI, 15, .inl mHe)), (m10, .inl (cI, 384, .inl mFw)), (m11, .inl (cI, 5, .inl mRo)), (m12, .inl (cI, 5, .inl mBe))] := hD
  refine lv_iload_n hx hb dX9_sign_36 rfl (lv_at hl 0 rfl) ?_
  have e_5 : (g_X9_sign_mAt mTy mAt mTx p0) = (mAt + 1) := by simp only [g_X9_sign_mAt, if_pos c_1, if_neg (by decide : ¬ ((1 : Int32) = 0)), if_pos trivial, if_neg not_false]
  exact rw_zret hx hb hr (by rfl) hlocks hP hD hS (by simp only [f_X9_sign, if_pos c_1, if_neg (by decide : ¬ ((1 : Int32) = 0)), if_pos trivial, if_neg not_false]) (by rw [e_5] <;> rfl) dX9_sign_37
def f_X9_two (mTy : Nat) (mAt : Nat) (mTx : Nat → Int32) : Int32 := (if (f_X9_number mTy mAt mTx) < 0 then 0 else (if (f_X9_sign mTy (g_X9_number_mAt mTy mAt mTx) mTx 44) = 0 then 0 else (if (f_X9_number mTy (g_X9_sign_mAt mTy (g_X9_number_mAt mTy mAt mTx) mTx 44) mTx) < 0 then 0 else (if (f_X9_sign mTy (g_X9_number_mAt mTy (g_X9_sign_mAt mTy (g_X9_number_mAt mTy mAt mTx) mTx 44) mTx) mTx 59) = 0 then 0 else 1))))
def g_X9_two_mAt (mTy : Nat) (mAt : Nat) (mTx : Nat → Int32) : Nat := (if (f_X9_number mTy mAt mTx) < 0 then (g_X9_number_mAt mTy mAt mTx) else (if (f_X9_sign mTy (g_X9_number_mAt mTy mAt mTx) mTx 44) = 0 then (g_X9_sign_mAt mTy (g_X9_number_mAt mTy mAt mTx) mTx 44) else (if (f_X9_number mTy (g_X9_sign_mAt mTy (g_X9_number_mAt mTy mAt mTx) mTx 44) mTx) < 0 then (g_X9_number_mAt mTy (g_X9_sign_mAt mTy (g_X9_number_mAt mTy mAt mTx) mTx 44) mTx) else (g_X9_sign_mAt mTy (g_X9_number_mAt mTy (g_X9_sign_mAt mTy (g_X9_number_mAt mTy mAt mTx) mTx 44) mTx) mTx 59))))
def g_X9_two_mFi (mTy : Nat) (mAt : Nat) (mTx : Nat → Int32) : Int32 := (f_X9_number mTy mAt mTx)
def g_X9_two_mSc (mTy : Nat) (mAt : Nat) (mSc : Int32) (mTx : Nat → Int32) : Int32 := (if (f_X9_number mTy mAt mTx) < 0 then mSc else (if (f_X9_sign mTy (g_X9_number_mAt mTy mAt mTx) mTx 44) = 0 then mSc else (f_X9_number mTy (g_X9_sign_mAt mTy (g_X9_number_mAt mTy mAt mTx) mTx 44) mTx)))
theorem two_at (mTy mAt : Nat) (mTx : Nat → Int32) : mAt ≤ g_X9_two_mAt mTy mAt mTx ∧ g_X9_two_mAt mTy mAt mTx ≤ mAt + 6 := by
  have h1 := number_at mTy mAt mTx
  have h2 := sign_at mTy (g_X9_number_mAt mTy mAt mTx) mTx 44
  have h3 := number_at mTy (g_X9_sign_mAt mTy (g_X9_number_mAt mTy mAt mTx) mTx 44) mTx
  have h4 := sign_at mTy (g_X9_number_mAt mTy (g_X9_sign_mAt mTy (g_X9_number_mAt mTy mAt mTx) mTx 44) mTx) mTx 59
  unfold g_X9_two_mAt
  repeat' split
  all_goals omega
theorem two_nn {mTy mAt : Nat} {mTx : Nat → Int32} (mSc : Int32) (h : ¬ f_X9_two mTy mAt mTx = 0) : ¬ g_X9_two_mFi mTy mAt mTx < 0 ∧ ¬ g_X9_two_mSc mTy mAt mSc mTx < 0 := by
  unfold f_X9_two at h
  unfold g_X9_two_mFi g_X9_two_mSc
  by_cases c1 : f_X9_number mTy mAt mTx < 0
  · rw [if_pos c1] at h
    exact absurd rfl h
  · rw [if_neg c1] at h
    by_cases c2 : f_X9_sign mTy (g_X9_number_mAt mTy mAt mTx) mTx 44 = 0
    · rw [if_pos c2] at h
      exact absurd rfl h
    · rw [if_neg c2] at h
      rw [if_neg c1, if_neg c2]
      by_cases c3 : f_X9_number mTy (g_X9_sign_mAt mTy (g_X9_number_mAt mTy mAt mTx) mTx 44) mTx < 0
      · rw [if_pos c3] at h
        exact absurd rfl h
      · exact ⟨c1, c3⟩
abbrev rm_X9_two : Room := { frames := 3, cells := 0, slots := 0, locals := 63 }
set_option maxRecDepth 100000 in
set_option maxHeartbeats 4000000 in
theorem c_X9_two (l : Launch) (D : va_G) (cI cC cG : ClassId) (m0 : Nat) (m1 : Nat) (m2 : Nat) (m3 : Nat) (m4 : Nat) (m5 : Nat) (m6 : Nat) (m7 : Nat) (m8 : Nat) (m9 : Nat) (m10 : Nat) (m11 : Nat) (m12 : Nat) (mTy : Nat) (mKn : Nat) (mKe : Nat) (mCa : Nat) (mSe : Nat) (mAt : Nat) (mFi : Int32) (mSc : Int32) (mTx : Nat → Int32) (mTo : Nat → Int32) (mDr : Nat → Int32) (mSt : Nat → Int32) (mPa : Nat → Int32) (mIm : Nat → Int32) (mWi : Nat → Int32) (mSn : Nat → Int32) (mHe : Nat → Int32) (mFw : Nat → Int32) (mRo : Nat → Int32) (mBe : Nat → Int32) (sz : Nat) (hty : mTy ≤ 200) (hat : mAt ≤ 900) : RwI l yX9_two wsX9_two rm_X9_two D (q_t cI cC cG) (wM cI cC cG m0 m1 m2 m3 m4 m5 m6 m7 m8 m9 m10 m11 m12 mTy mKn mKe mCa mSe mAt mFi mSc mTx mTo mDr mSt mPa mIm mWi mSn mHe mFw mRo mBe) (wM cI cC cG m0 m1 m2 m3 m4 m5 m6 m7 m8 m9 m10 m11 m12 mTy mKn mKe mCa mSe (g_X9_two_mAt mTy mAt mTx) (g_X9_two_mFi mTy mAt mTx) (g_X9_two_mSc mTy mAt mSc mTx) mTx mTo mDr mSt mPa mIm mWi mSn mHe mFw mRo mBe) sz [.ref m0] (f_X9_two mTy mAt mTx) := by
  refine rw_enter (cc := cX9_two) (maxL := 1) (ret := (some .boolean)) (by decide) rfl (Nat.le_of_ble_eq_true rfl) ?_
  intro p e s m below meth c ls B hP hK hD hS hA hl
  obtain ⟨hx, hb, hr, hlocks, hml, hown, hts, hN⟩ := B
  have hown : s.vm.findClass RX9 = some m.cls := hown
  have hl : lv_has ls 1 [(0, .ref m0)] := hl
  have hf85 := hts (.fieldLink RX9 85 "OlderByABlushModel" "first" "I") (by decide +kernel)
  have hinX9 : ∀ w ∈ u_ws RX9 TX9 20, w ∈ wsX9_two := by decide +kernel
  have hf91 := hts (.fieldLink RX9 91 "OlderByABlushModel" "second" "I") (by decide +kernel)
  refine lv_aload_n hx hb dX9_two_0 rfl (lv_at hl 0 rfl) ?_
  refine lv_aload_n hx hb dX9_two_1 rfl (lv_at hl 0 rfl) ?_
  refine rw_i0 (va_runV (As := []) (rest := [.ref m0]) ⟨hx, hb, hml, hown, hts⟩ (c_X9_number l D cI cC cG m0 m1 m2 m3 m4 m5 m6 m7 m8 m9 m10 m11 m12 mTy mKn mKe mCa mSe mAt mFi mSc mTx mTo mDr mSt mPa mIm mWi mSn mHe mFw mRo mBe s.heap.size (by omega) (by omega)) (cwV 0 hts gX9_two_X9_number rfl rfl rfl (by decide +kernel) ⟨Nat.le_of_ble_eq_true rfl, Nat.le_of_ble_eq_true rfl⟩) (q_preWV hK hP hD hN [0, 1, 2, 3, 4, 5, 6, 7, 8, 9, 10, 11, 12] (by decide) rfl rfl (ci := 9) (q0 := 0) rfl rfl) rfl rfl hl.1 rfl (lv_room (Nat.le_of_ble_eq_true rfl)) dX9_two_2 ⟨Nat.zero_le _, Nat.zero_le _⟩) hS hA hD (fun H locs hP hD hS => ?_)
  have hP : va_P D vwCl [(m0, .inr (9, [.ref m1, .int (nI mTy), .ref m2, .ref m3, .ref m4, .ref m5, .int (nI mKn), .ref m6, .int (nI mKe), .ref m7, .int (nI mCa), .ref m8, .int (nI mSe), .int (nI (g_X9_number_mAt mTy mAt mTx)), .int mFi, .int mSc, .ref m9, .ref m10, .ref m11, .ref m12])), (m1, .inl (cI, 200, .inl mTx)), (m2, .inl (cI, 37, .inl mTo)), (m3, .inl (cI, 37, .inl mDr)), (m4, .inl (cI, 15, .inl mSt)), (m5, .inl (cI, 120, .inl mPa)), (m6, .inl (cI, 30, .inl mIm)), (m7, .inl (cI, 5, .inl mWi)), (m8, .inl (cI, 6, .inl mSn)), (m9, .inl (cI, 15, .inl mHe)), (m10, .inl (cI, 384, .inl mFw)), (m11, .inl (cI, 5, .inl mRo)), (m12, .inl (cI, 5, .inl mBe))] H := hP
  have hD : va_D (va_A (wM cI cC cG m0 m1 m2 m3 m4 m5 m6 m7 m8 m9 m10 m11 m12 mTy mKn mKe mCa mSe mAt mFi mSc mTx mTo mDr mSt mPa mIm mWi mSn mHe mFw mRo mBe) sz) [(m0, .inr (9, [.ref m1, .int (nI mTy), .ref m2, .ref m3, .ref m4, .ref m5, .int (nI mKn), .ref m6, .int (nI mKe), .ref m7, .int (nI mCa), .ref m8, .int (nI mSe), .int (nI (g_X9_number_mAt mTy mAt mTx)), .int mFi, .int mSc, .ref m9, .ref m10, .ref m11, .ref m12])), (m1, .inl (cI, 200, .inl mTx)), (m2, .inl (cI, 37, .inl mTo)), (m3, .inl (cI, 37, .inl mDr)), (m4, .inl (cI, 15, .inl mSt)), (m5, .inl (cI, 120, .inl mPa)), (m6, .inl (cI, 30, .inl mIm)), (m7, .inl (cI, 5, .inl mWi)), (m8, .inl (cI, 6, .inl mSn)), (m9, .inl (cI, 15, .inl mHe)), (m10, .inl (cI, 384, .inl mFw)), (m11, .inl (cI, 5, .inl mRo)), (m12, .inl (cI, 5, .inl mBe))] := hD
  have hp_1 := number_at mTy mAt mTx
  refine va_put (D := D) (ci := 9) (v := .int (f_X9_number mTy mAt mTx)) (ty := .int) (C := RX9) (T := TX9) (N := 20) hx hb hts hinX9 tyX9 tyX9_ok nmX9 hown hK hP hD hS 0 rfl rfl 14 (by decide) hf85 (fun _ h9 => h9) rfl (by decide +kernel) rfl rfl (Nat.le_of_ble_eq_true rfl) dX9_two_5 (fun H locs hP hD hS => ?_)
  have hP : va_P D vwCl [(m0, .inr (9, [.ref m1, .int (nI mTy), .ref m2, .ref m3, .ref m4, .ref m5, .int (nI mKn), .ref m6, .int (nI mKe), .ref m7, .int (nI mCa), .ref m8, .int (nI mSe), .int (nI (g_X9_number_mAt mTy mAt mTx)), .int (f_X9_number mTy mAt mTx), .int mSc, .ref m9, .ref m10, .ref m11, .ref m12])), (m1, .inl (cI, 200, .inl mTx)), (m2, .inl (cI, 37, .inl mTo)), (m3, .inl (cI, 37, .inl mDr)), (m4, .inl (cI, 15, .inl mSt)), (m5, .inl (cI, 120, .inl mPa)), (m6, .inl (cI, 30, .inl mIm)), (m7, .inl (cI, 5, .inl mWi)), (m8, .inl (cI, 6, .inl mSn)), (m9, .inl (cI, 15, .inl mHe)), (m10, .inl (cI, 384, .inl mFw)), (m11, .inl (cI, 5, .inl mRo)), (m12, .inl (cI, 5, .inl mBe))] H := hP
  have hD : va_D (va_A (wM cI cC cG m0 m1 m2 m3 m4 m5 m6 m7 m8 m9 m10 m11 m12 mTy mKn mKe mCa mSe mAt mFi mSc mTx mTo mDr mSt mPa mIm mWi mSn mHe mFw mRo mBe) sz) [(m0, .inr (9, [.ref m1, .int (nI mTy), .ref m2, .ref m3, .ref m4, .ref m5, .int (nI mKn), .ref m6, .int (nI mKe), .ref m7, .int (nI mCa), .ref m8, .int (nI mSe), .int (nI (g_X9_number_mAt mTy mAt mTx)), .int (f_X9_number mTy mAt mTx), .int mSc, .ref m9, .ref m10, .ref m11, .ref m12])), (m1, .inl (cI, 200, .inl mTx)), (m2, .inl (cI, 37, .inl mTo)), (m3, .inl (cI, 37, .inl mDr)), (m4, .inl (cI, 15, .inl mSt)), (m5, .inl (cI, 120, .inl mPa)), (m6, .inl (cI, 30, .inl mIm)), (m7, .inl (cI, 5, .inl mWi)), (m8, .inl (cI, 6, .inl mSn)), (m9, .inl (cI, 15, .inl mHe)), (m10, .inl (cI, 384, .inl mFw)), (m11, .inl (cI, 5, .inl mRo)), (m12, .inl (cI, 5, .inl mBe))] := hD
  refine lv_aload_n hx hb dX9_two_8 rfl (lv_at hl 0 rfl) ?_
  refine va_get (D := D) (ci := 9) (v := .int (f_X9_number mTy mAt mTx)) (C := RX9) (T := TX9) (N := 20) hx hb hts hinX9 hown hK hP 0 rfl rfl 14 (by decide) hf85 (fun _ h9 => h9) rfl dX9_two_9 ?_
  refine lv_if_lt (tgt := 24) hx hb dX9_two_12 (by decide) (fun c_2 => ?_) (fun c_2 => ?_)
  · refine lv_iconst (v := 0) hx hb dX9_two_24 (by decide) ?_
    have e_3 : (g_X9_two_mAt mTy mAt mTx) = (g_X9_number_mAt mTy mAt mTx) := by simp only [g_X9_two_mAt, if_pos c_2]
    have e_4 : (g_X9_two_mFi mTy mAt mTx) = (f_X9_number mTy mAt mTx) := by simp only [g_X9_two_mFi, if_pos c_2]
    have e_5 : (g_X9_two_mSc mTy mAt mSc mTx) = mSc := by simp only [g_X9_two_mSc, if_pos c_2]
    exact rw_zret hx hb hr (by rfl) hlocks hP hD hS (by simp only [f_X9_two, if_pos c_2]) (by rw [e_3, e_4, e_5] <;> rfl) dX9_two_25
  refine lv_aload_n hx hb dX9_two_15 rfl (lv_at hl 0 rfl) ?_
  refine lv_bipush (v := 44) hx hb dX9_two_16 (by decide) ?_
  refine rw_i0 (va_runV (As := [.int 44]) (rest := []) ⟨hx, hb, hml, hown, hts⟩ (c_X9_sign l D cI cC cG m0 m1 m2 m3 m4 m5 m6 m7 m8 m9 m10 m11 m12 mTy mKn mKe mCa mSe (g_X9_number_mAt mTy mAt mTx) (f_X9_number mTy mAt mTx) mSc mTx mTo mDr mSt mPa mIm mWi mSn mHe mFw mRo mBe 44 H.size (by omega) (by omega)) (cwV 1 hts gX9_two_X9_sign rfl rfl rfl (by decide +kernel) ⟨Nat.le_of_ble_eq_true rfl, Nat.le_of_ble_eq_true rfl⟩) (q_preWV hK hP hD hN [0, 1, 2, 3, 4, 5, 6, 7, 8, 9, 10, 11, 12] (by decide) rfl rfl (ci := 9) (q0 := 0) rfl rfl) rfl rfl hl.1 rfl (lv_room (Nat.le_of_ble_eq_true rfl)) dX9_two_18 ⟨Nat.zero_le _, Nat.zero_le _⟩) hS hA hD (fun H locs hP hD hS => ?_)
  have hP : va_P D vwCl [(m0, .inr (9, [.ref m1, .int (nI mTy), .ref m2, .ref m3, .ref m4, .ref m5, .int (nI mKn), .ref m6, .int (nI mKe), .ref m7, .int (nI mCa), .ref m8, .int (nI mSe), .int (nI (g_X9_sign_mAt mTy (g_X9_number_mAt mTy mAt mTx) mTx 44)), .int (f_X9_number mTy mAt mTx), .int mSc, .ref m9, .ref m10, .ref m11, .ref m12])), (m1, .inl (cI, 200, .inl mTx)), (m2, .inl (cI, 37, .inl mTo)), (m3, .inl (cI, 37, .inl mDr)), (m4, .inl (cI, 15, .inl mSt)), (m5, .inl (cI, 120, .inl mPa)), (m6, .inl (cI, 30, .inl mIm)), (m7, .inl (cI, 5, .inl mWi)), (m8, .inl (cI, 6, .inl mSn)), (m9, .inl (cI, 15, .inl mHe)), (m10, .inl (cI, 384, .inl mFw)), (m11, .inl (cI, 5, .inl mRo)), (m12, .inl (cI, 5, .inl mBe))] H := hP
  have hD : va_D (va_A (wM cI cC cG m0 m1 m2 m3 m4 m5 m6 m7 m8 m9 m10 m11 m12 mTy mKn mKe mCa mSe mAt mFi mSc mTx mTo mDr mSt mPa mIm mWi mSn mHe mFw mRo mBe) sz) [(m0, .inr (9, [.ref m1, .int (nI mTy), .ref m2, .ref m3, .ref m4, .ref m5, .int (nI mKn), .ref m6, .int (nI mKe), .ref m7, .int (nI mCa), .ref m8, .int (nI mSe), .int (nI (g_X9_sign_mAt mTy (g_X9_number_mAt mTy mAt mTx) mTx 44)), .int (f_X9_number mTy mAt mTx), .int mSc, .ref m9, .ref m10, .ref m11, .ref m12])), (m1, .inl (cI, 200, .inl mTx)), (m2, .inl (cI, 37, .inl mTo)), (m3, .inl (cI, 37, .inl mDr)), (m4, .inl (cI, 15, .inl mSt)), (m5, .inl (cI, 120, .inl mPa)), (m6, .inl (cI, 30, .inl mIm)), (m7, .inl (cI, 5, .inl mWi)), (m8, .inl (cI, 6, .inl mSn)), (m9, .inl (cI, 15, .inl mHe)), (m10, .inl (cI, 384, .inl mFw)), (m11, .inl (cI, 5, .inl mRo)), (m12, .inl (cI, 5, .inl mBe))] := hD
  have hp_6 := sign_at mTy (g_X9_number_mAt mTy mAt mTx) mTx 44
  refine lv_if_ne (tgt := 26) hx hb dX9_two_21 (by decide) (fun c_7 => ?_) (fun c_7 => ?_)
  · refine lv_aload_n hx hb dX9_two_26 rfl (lv_at hl 0 rfl) ?_
    refine lv_aload_n hx hb dX9_two_27 rfl (lv_at hl 0 rfl) ?_
    refine rw_i0 (va_runV (As := []) (rest := [.ref m0]) ⟨hx, hb, hml, hown, hts⟩ (c_X9_number l D cI cC cG m0 m1 m2 m3 m4 m5 m6 m7 m8 m9 m10 m11 m12 mTy mKn mKe mCa mSe (g_X9_sign_mAt mTy (g_X9_number_mAt mTy mAt mTx) mTx 44) (f_X9_number mTy mAt mTx) mSc mTx mTo mDr mSt mPa mIm mWi mSn mHe mFw mRo mBe H.size (by omega) (by omega)) (cwV 0 hts gX9_two_X9_number rfl rfl rfl (by decide +kernel) ⟨Nat.le_of_ble_eq_true rfl, Nat.le_of_ble_eq_true rfl⟩) (q_preWV hK hP hD hN [0, 1, 2, 3, 4, 5, 6, 7, 8, 9, 10, 11, 12] (by decide) rfl rfl (ci := 9) (q0 := 0) rfl rfl) rfl rfl hl.1 rfl (lv_room (Nat.le_of_ble_eq_true rfl)) dX9_two_28 ⟨Nat.zero_le _, Nat.zero_le _⟩) hS hA hD (fun H locs hP hD hS => ?_)
    have hP : va_P D vwCl [(m0, .inr (9, [.ref m1, .int (nI mTy), .ref m2, .ref m3, .ref m4, .ref m5, .int (nI mKn), .ref m6, .int (nI mKe), .ref m7, .int (nI mCa), .ref m8, .int (nI mSe), .int (nI (g_X9_number_mAt mTy (g_X9_sign_mAt mTy (g_X9_number_mAt mTy mAt mTx) mTx 44) mTx)), .int (f_X9_number mTy mAt mTx), .int mSc, .ref m9, .ref m10, .ref m11, .ref m12])), (m1, .inl (cI, 200, .inl mTx)), (m2, .inl (cI, 37, .inl mTo)), (m3, .inl (cI, 37, .inl mDr)), (m4, .inl (cI, 15, .inl mSt)), (m5, .inl (cI, 120, .inl mPa)), (m6, .inl (cI, 30, .inl mIm)), (m7, .inl (cI, 5, .inl mWi)), (m8, .inl (cI, 6, .inl mSn)), (m9, .inl (cI, 15, .inl mHe)), (m10, .inl (cI, 384, .inl mFw)), (m11, .inl (cI, 5, .inl mRo)), (m12, .inl (cI, 5, .inl mBe))] H := hP
    have hD : va_D (va_A (wM cI cC cG m0 m1 m2 m3 m4 m5 m6 m7 m8 m9 m10 m11 m12 mTy mKn mKe mCa mSe mAt mFi mSc mTx mTo mDr mSt mPa mIm mWi mSn mHe mFw mRo mBe) sz) [(m0, .inr (9, [.ref m1, .int (nI mTy), .ref m2, .ref m3, .ref m4, .ref m5, .int (nI mKn), .ref m6, .int (nI mKe), .ref m7, .int (nI mCa), .ref m8, .int (nI mSe), .int (nI (g_X9_number_mAt mTy (g_X9_sign_mAt mTy (g_X9_number_mAt mTy mAt mTx) mTx 44) mTx)), .int (f_X9_number mTy mAt mTx), .int mSc, .ref m9, .ref m10, .ref m11, .ref m12])), (m1, .inl (cI, 200, .inl mTx)), (m2, .inl (cI, 37, .inl mTo)), (m3, .inl (cI, 37, .inl mDr)), (m4, .inl (cI, 15, .inl mSt)), (m5, .inl (cI, 120, .inl mPa)), (m6, .inl (cI, 30, .inl mIm)), (m7, .inl (cI, 5, .inl mWi)), (m8, .inl (cI, 6, .inl mSn)), (m9, .inl (cI, 15, .inl mHe)), (m10, .inl (cI, 384, .inl mFw)), (m11, .inl (cI, 5, .inl mRo)), (m12, .inl (cI, 5, .inl mBe))] := hD
    have hp_8 := number_at mTy (g_X9_sign_mAt mTy (g_X9_number_mAt mTy mAt mTx) mTx 44) mTx
    refine va_put (D := D) (ci := 9) (v := .int (f_X9_number mTy (g_X9_sign_mAt mTy (g_X9_number_mAt mTy mAt mTx) mTx 44) mTx)) (ty := .int) (C := RX9) (T := TX9) (N := 20) hx hb hts hinX9 tyX9 tyX9_ok nmX9 hown hK hP hD hS 0 rfl rfl 15 (by decide) hf91 (fun _ h9 => h9) rfl (by decide +kernel) rfl rfl (Nat.le_of_ble_eq_true rfl) dX9_two_31 (fun H locs hP hD hS => ?_)
    have hP : va_P D vwCl [(m0, .inr (9, [.ref m1, .int (nI mTy), .ref m2, .ref m3, .ref m4, .ref m5, .int (nI mKn), .ref m6, .int (nI mKe), .ref m7, .int (nI mCa), .ref m8, .int (nI mSe), .int (nI (g_X9_number_mAt mTy (g_X9_sign_mAt mTy (g_X9_number_mAt mTy mAt mTx) mTx 44) mTx)), .int (f_X9_number mTy mAt mTx), .int (f_X9_number mTy (g_X9_sign_mAt mTy (g_X9_number_mAt mTy mAt mTx) mTx 44) mTx), .ref m9, .ref m10, .ref m11, .ref m12])), (m1, .inl (cI, 200, .inl mTx)), (m2, .inl (cI, 37, .inl mTo)), (m3, .inl (cI, 37, .inl mDr)), (m4, .inl (cI, 15, .inl mSt)), (m5, .inl (cI, 120, .inl mPa)), (m6, .inl (cI, 30, .inl mIm)), (m7, .inl (cI, 5, .inl mWi)), (m8, .inl (cI, 6, .inl mSn)), (m9, .inl (cI, 15, .inl mHe)), (m10, .inl (cI, 384, .inl mFw)), (m11, .inl (cI, 5, .inl mRo)), (m12, .inl (cI, 5, .inl mBe))] H := hP
    have hD : va_D (va_A (wM cI cC cG m0 m1 m2 m3 m4 m5 m6 m7 m8 m9 m10 m11 m12 mTy mKn mKe mCa mSe mAt mFi mSc mTx mTo mDr mSt mPa mIm mWi mSn mHe mFw mRo mBe) sz) [(m0, .inr (9, [.ref m1, .int (nI mTy), .ref m2, .ref m3, .ref m4, .ref m5, .int (nI mKn), .ref m6, .int (nI mKe), .ref m7, .int (nI mCa), .ref m8, .int (nI mSe), .int (nI (g_X9_number_mAt mTy (g_X9_sign_mAt mTy (g_X9_number_mAt mTy mAt mTx) mTx 44) mTx)), .int (f_X9_number mTy mAt mTx), .int (f_X9_number mTy (g_X9_sign_mAt mTy (g_X9_number_mAt mTy mAt mTx) mTx 44) mTx), .ref m9, .ref m10, .ref m11, .ref m12])), (m1, .inl (cI, 200, .inl mTx)), (m2, .inl (cI, 37, .inl mTo)), (m3, .inl (cI, 37, .inl mDr)), (m4, .inl (cI, 15, .inl mSt)), (m5, .inl (cI, 120, .inl mPa)), (m6, .inl (cI, 30, .inl mIm)), (m7, .inl (cI, 5, .inl mWi)), (m8, .inl (cI, 6, .inl mSn)), (m9, .inl (cI, 15, .inl mHe)), (m10, .inl (cI, 384, .inl mFw)), (m11, .inl (cI, 5, .inl mRo)), (m12, .inl (cI, 5, .inl mBe))] := hD
    refine lv_aload_n hx hb dX9_two_34 rfl (lv_at hl 0 rfl) ?_
    refine va_get (D := D) (ci := 9) (v := .int (f_X9_number mTy (g_X9_sign_mAt mTy (g_X9_number_mAt mTy mAt mTx) mTx 44) mTx)) (C := RX9) (T := TX9) (N := 20) hx hb hts hinX9 hown hK hP 0 rfl rfl 15 (by decide) hf91 (fun _ h9 => h9) rfl dX9_two_35 ?_
    refine lv_if_lt (tgt := 54) hx hb dX9_two_38 (by decide) (fun c_9 => ?_) (fun c_9 => ?_)
    · refine lv_iconst (v := 0) hx hb dX9_two_54 (by decide) ?_
      have e_10 : (g_X9_two_mAt mTy mAt mTx) = (g_X9_number_mAt mTy (g_X9_sign_mAt mTy (g_X9_number_mAt mTy mAt mTx) mTx 44) mTx) := by simp only [g_X9_two_mAt, if_neg c_2, if_neg c_7, if_pos c_9]
      have e_11 : (g_X9_two_mFi mTy mAt mTx) = (f_X9_number mTy mAt mTx) := by simp only [g_X9_two_mFi, if_neg c_2, if_neg c_7, if_pos c_9]
      have e_12 : (g_X9_two_mSc mTy mAt mSc mTx) = (f_X9_number mTy (g_X9_sign_mAt mTy (g_X9_number_mAt mTy mAt mTx) mTx 44) mTx) := by simp only [g_X9_two_mSc, if_neg c_2, if_neg c_7, if_pos c_9]
      exact rw_zret hx hb hr (by rfl) hlocks hP hD hS (by simp only [f_X9_two, if_neg c_2, if_neg c_7, if_pos c_9]) (by rw [e_10, e_11, e_12] <;> rfl) dX9_two_55
    refine lv_aload_n hx hb dX9_two_41 rfl (lv_at hl 0 rfl) ?_
    refine lv_bipush (v := 59) hx hb dX9_two_42 (by decide) ?_
    refine rw_i0 (va_runV (As := [.int 59]) (rest := []) ⟨hx, hb, hml, hown, hts⟩ (c_X9_sign l D cI cC cG m0 m1 m2 m3 m4 m5 m6 m7 m8 m9 m10 m11 m12 mTy mKn mKe mCa mSe (g_X9_number_mAt mTy (g_X9_sign_mAt mTy (g_X9_number_mAt mTy mAt mTx) mTx 44) mTx) (f_X9_number mTy mAt mTx) (f_X9_number mTy (g_X9_sign_mAt mTy (g_X9_number_mAt mTy mAt mTx) mTx 44) mTx) mTx mTo mDr mSt mPa mIm mWi mSn mHe mFw mRo mBe 59 H.size (by omega) (by omega)) (cwV 1 hts gX9_two_X9_sign rfl rfl rfl (by decide +kernel) ⟨Nat.le_of_ble_eq_true rfl, Nat.le_of_ble_eq_true rfl⟩) (q_preWV hK hP hD hN [0, 1, 2, 3, 4, 5, 6, 7, 8, 9, 10, 11, 12] (by decide) rfl rfl (ci := 9) (q0 := 0) rfl rfl) rfl rfl hl.1 rfl (lv_room (Nat.le_of_ble_eq_true rfl)) dX9_two_44 ⟨Nat.zero_le _, Nat.zero_le _⟩) hS hA hD (fun H locs hP hD hS => ?_)
    have hP : va_P D vwCl [(m0, .inr (9, [.ref m1, .int (nI mTy), .ref m2, .ref m3, .ref m4, .ref m5, .int (nI mKn), .ref m6, .int (nI mKe), .ref m7, .int (nI mCa), .ref m8, .int (nI mSe), .int (nI (g_X9_sign_mAt mTy (g_X9_number_mAt mTy (g_X9_sign_mAt mTy (g_X9_number_mAt mTy mAt mTx) mTx 44) mTx) mTx 59)), .int (f_X9_number mTy mAt mTx), .int (f_X9_number mTy (g_X9_sign_mAt mTy (g_X9_number_mAt mTy mAt mTx) mTx 44) mTx), .ref m9, .ref m10, .ref m11, .ref m12])), (m1, .inl (cI, 200, .inl mTx)), (m2, .inl (cI, 37, .inl mTo)), (m3, .inl (cI, 37, .inl mDr)), (m4, .inl (cI, 15, .inl mSt)), (m5, .inl (cI, 120, .inl mPa)), (m6, .inl (cI, 30, .inl mIm)), (m7, .inl (cI, 5, .inl mWi)), (m8, .inl (cI, 6, .inl mSn)), (m9, .inl (cI, 15, .inl mHe)), (m10, .inl (cI, 384, .inl mFw)), (m11, .inl (cI, 5, .inl mRo)), (m12, .inl (cI, 5, .inl mBe))] H := hP
    have hD : va_D (va_A (wM cI cC cG m0 m1 m2 m3 m4 m5 m6 m7 m8 m9 m10 m11 m12 mTy mKn mKe mCa mSe mAt mFi mSc mTx mTo mDr mSt mPa mIm mWi mSn mHe mFw mRo mBe) sz) [(m0, .inr (9, [.ref m1, .int (nI mTy), .ref m2, .ref m3, .ref m4, .ref m5, .int (nI mKn), .ref m6, .int (nI mKe), .ref m7, .int (nI mCa), .ref m8, .int (nI mSe), .int (nI (g_X9_sign_mAt mTy (g_X9_number_mAt mTy (g_X9_sign_mAt mTy (g_X9_number_mAt mTy mAt mTx) mTx 44) mTx) mTx 59)), .int (f_X9_number mTy mAt mTx), .int (f_X9_number mTy (g_X9_sign_mAt mTy (g_X9_number_mAt mTy mAt mTx) mTx 44) mTx), .ref m9, .ref m10, .ref m11, .ref m12])), (m1, .inl (cI, 200, .inl mTx)), (m2, .inl (cI, 37, .inl mTo)), (m3, .inl (cI, 37, .inl mDr)), (m4, .inl (cI, 15, .inl mSt)), (m5, .inl (cI, 120, .inl mPa)), (m6, .inl (cI, 30, .inl mIm)), (m7, .inl (cI, 5, .inl mWi)), (m8, .inl (cI, 6, .inl mSn)), (m9, .inl (cI, 15, .inl mHe)), (m10, .inl (cI, 384, .inl mFw)), (m11, .inl (cI, 5, .inl mRo)), (m12, .inl (cI, 5, .inl mBe))] := hD
    have hp_13 := sign_at mTy (g_X9_number_mAt mTy (g_X9_sign_mAt mTy (g_X9_number_mAt mTy mAt mTx) mTx 44) mTx) mTx 59
    refine lv_if_eq (tgt := 54) hx hb dX9_two_47 (by decide) (fun c_14 => ?_) (fun c_14 => ?_)
    · refine lv_iconst (v := 0) hx hb dX9_two_54 (by decide) ?_
      have e_15 : (g_X9_two_mAt mTy mAt mTx) = (g_X9_sign_mAt mTy (g_X9_number_mAt mTy (g_X9_sign_mAt mTy (g_X9_number_mAt mTy mAt mTx) mTx 44) mTx) mTx 59) := by simp only [g_X9_two_mAt, if_neg c_2, if_neg c_7, if_neg c_9, if_pos c_14]
      have e_16 : (g_X9_two_mFi mTy mAt mTx) = (f_X9_number mTy mAt mTx) := by simp only [g_X9_two_mFi, if_neg c_2, if_neg c_7, if_neg c_9, if_pos c_14]
      have e_17 : (g_X9_two_mSc mTy mAt mSc mTx) = (f_X9_number mTy (g_X9_sign_mAt mTy (g_X9_number_mAt mTy mAt mTx) mTx 44) mTx) := by simp only [g_X9_two_mSc, if_neg c_2, if_neg c_7, if_neg c_9, if_pos c_14]
      exact rw_zret hx hb hr (by rfl) hlocks hP hD hS (by simp only [f_X9_two, if_neg c_2, if_neg c_7, if_neg c_9, if_pos c_14]) (by rw [e_15, e_16, e_17] <;> rfl) dX9_two_55
    refine lv_iconst (v := 1) hx hb dX9_two_50 (by decide) ?_
    refine lv_goto (tgt := 55) hx hb dX9_two_51 (by decide) ?_
    have e_18 : (g_X9_two_mAt mTy mAt mTx) = (g_X9_sign_mAt mTy (g_X9_number_mAt mTy (g_X9_sign_mAt mTy (g_X9_number_mAt mTy mAt mTx) mTx 44) mTx) mTx 59) := by simp only [g_X9_two_mAt, if_neg c_2, if_neg c_7, if_neg c_9, if_neg c_14]
    have e_19 : (g_X9_two_mFi mTy mAt mTx) = (f_X9_number mTy mAt mTx) := by simp only [g_X9_two_mFi, if_neg c_2, if_neg c_7, if_neg c_9, if_neg c_14]
    have e_20 : (g_X9_two_mSc mTy mAt mSc mTx) = (f_X9_number mTy (g_X9_sign_mAt mTy (g_X9_number_mAt mTy mAt mTx) mTx 44) mTx) := by simp only [g_X9_two_mSc, if_neg c_2, if_neg c_7, if_neg c_9, if_neg c_14]
    exact rw_zret hx hb hr (by rfl) hlocks hP hD hS (by simp only [f_X9_two, if_neg c_2, if_neg c_7, if_neg c_9, if_neg c_14]) (by rw [e_18, e_19, e_20] <;> rfl) dX9_two_55
  refine lv_iconst (v := 0) hx hb dX9_two_24 (by decide) ?_
  have e_21 : (g_X9_two_mAt mTy mAt mTx) = (g_X9_sign_mAt mTy (g_X9_number_mAt mTy mAt mTx) mTx 44) := by simp only [g_X9_two_mAt, if_neg c_2, if_pos c_7]
  have e_22 : (g_X9_two_mFi mTy mAt mTx) = (f_X9_number mTy mAt mTx) := by simp only [g_X9_two_mFi, if_neg c_2, if_pos c_7]
  have e_23 : (g_X9_two_mSc mTy mAt mSc mTx) = mSc := by simp only [g_X9_two_mSc, if_neg c_2, if_pos c_7]
  exact rw_zret hx hb hr (by rfl) hlocks hP hD hS (by simp only [f_X9_two, if_neg c_2, if_pos c_7]) (by rw [e_21, e_22, e_23] <;> rfl) dX9_two_25
def F_X9_begins_2 (i0_ : Nat → Int32) : Nat → (Nat → Int32)
  | 0 => i0_
  | j2_ + 1 => (upd (F_X9_begins_2 i0_ j2_) j2_ 0)
def g_X9_begins_mDr (mDr : Nat → Int32) : Nat → Int32 := (upd (F_X9_begins_2 mDr 37) 2 80)
abbrev rm_X9_begins : Room := { frames := 0, cells := 0, slots := 0, locals := 0 }
set_option maxRecDepth 100000 in
set_option maxHeartbeats 4000000 in
theorem c_X9_begins (l : Launch) (D : va_G) (cI cC cG : ClassId) (m0 : Nat) (m1 : Nat) (m2 : Nat) (m3 : Nat) (m4 : Nat) (m5 : Nat) (m6 : Nat) (m7 : Nat) (m8 : Nat) (m9 : Nat) (m10 : Nat) (m11 : Nat) (m12 : Nat) (mTy : Nat) (mKn : Nat) (mKe : Nat) (mCa : Nat) (mSe : Nat) (mAt : Nat) (mFi : Int32) (mSc : Int32) (mTx : Nat → Int32) (mTo : Nat → Int32) (mDr : Nat → Int32) (mSt : Nat → Int32) (mPa : Nat → Int32) (mIm : Nat → Int32) (mWi : Nat → Int32) (mSn : Nat → Int32) (mHe : Nat → Int32) (mFw : Nat → Int32) (mRo : Nat → Int32) (mBe : Nat → Int32) (sz : Nat) : RwV l yX9_begins wsX9_begins rm_X9_begins D (q_t cI cC cG) (wM cI cC cG m0 m1 m2 m3 m4 m5 m6 m7 m8 m9 m10 m11 m12 mTy mKn mKe mCa mSe mAt mFi mSc mTx mTo mDr mSt mPa mIm mWi mSn mHe mFw mRo mBe) (wM cI cC cG m0 m1 m2 m3 m4 m5 m6 m7 m8 m9 m10 m11 m12 mTy mKn mKe mCa mSe mAt mFi mSc mTx mTo (g_X9_begins_mDr mDr) mSt mPa mIm mWi mSn mHe mFw mRo mBe) sz [.ref m0] := by
  refine rw_enter (cc := cX9_begins) (maxL := 2) (ret := none) (by decide) rfl (Nat.le_of_ble_eq_true rfl) ?_
  intro p e s m below meth c ls B hP hK hD hS hA hl
  obtain ⟨hx, hb, hr, hlocks, hml, hown, hts, hN⟩ := B
  have hown : s.vm.findClass RX9 = some m.cls := hown
  have hl : lv_has ls 2 [(0, .ref m0)] := hl
  have hf16 := hts (.fieldLink RX9 16 "OlderByABlushModel" "draft" "[I") (by decide +kernel)
  have hinX9 : ∀ w ∈ u_ws RX9 TX9 20, w ∈ wsX9_begins := by decide +kernel
  refine lv_iconst (v := 0) hx hb dX9_begins_0 (by decide) ?_
  refine lv_istore_n (lv' := [(1, .int 0), (0, .ref m0)]) hx hb dX9_begins_1 rfl hl (by decide) rfl (fun ls hl => ?_)
  have K2_ : ∀ (H : Heap) (locs : List Loc), va_P D vwCl [(m0, .inr (9, [.ref m1, .int (nI mTy), .ref m2, .ref m3, .ref m4, .ref m5, .int (nI mKn), .ref m6, .int (nI mKe), .ref m7, .int (nI mCa), .ref m8, .int (nI mSe), .int (nI mAt), .int mFi, .int mSc, .ref m9, .ref m10, .ref m11, .ref m12])), (m1, .inl (cI, 200, .inl mTx)), (m2, .inl (cI, 37, .inl mTo)), (m3, .inl (cI, 37, .inl (F_X9_begins_2 mDr 37))), (m4, .inl (cI, 15, .inl mSt)), (m5, .inl (cI, 120, .inl mPa)), (m6, .inl (cI, 30, .inl mIm)), (m7, .inl (cI, 5, .inl mWi)), (m8, .inl (cI, 6, .inl mSn)), (m9, .inl (cI, 15, .inl mHe)), (m10, .inl (cI, 384, .inl mFw)), (m11, .inl (cI, 5, .inl mRo)), (m12, .inl (cI, 5, .inl mBe))] H → va_D (va_A (wM cI cC cG m0 m1 m2 m3 m4 m5 m6 m7 m8 m9 m10 m11 m12 mTy mKn mKe mCa mSe mAt mFi mSc mTx mTo mDr mSt mPa mIm mWi mSn mHe mFw mRo mBe) sz) [(m0, .inr (9, [.ref m1, .int (nI mTy), .ref m2, .ref m3, .ref m4, .ref m5, .int (nI mKn), .ref m6, .int (nI mKe), .ref m7, .int (nI mCa), .ref m8, .int (nI mSe), .int (nI mAt), .int mFi, .int mSc, .ref m9, .ref m10, .ref m11, .ref m12])), (m1, .inl (cI, 200, .inl mTx)), (m2, .inl (cI, 37, .inl mTo)), (m3, .inl (cI, 37, .inl (F_X9_begins_2 mDr 37))), (m4, .inl (cI, 15, .inl mSt)), (m5, .inl (cI, 120, .inl mPa)), (m6, .inl (cI, 30, .inl mIm)), (m7, .inl (cI, 5, .inl mWi)), (m8, .inl (cI, 6, .inl mSn)), (m9, .inl (cI, 15, .inl mHe)), (m10, .inl (cI, 384, .inl mFw)), (m11, .inl (cI, 5, .inl mRo)), (m12, .inl (cI, 5, .inl mBe))] → va_S (va_A (wM cI cC cG m0 m1 m2 m3 m4 m5 m6 m7 m8 m9 m10 m11 m12 mTy mKn mKe mCa mSe mAt mFi mSc mTx mTo mDr mSt mPa mIm mWi mSn mHe mFw mRo mBe) sz) s.heap H locs → ∀ ls : Array Slot, lv_has ls 2 [(0, .ref m0)] → W p l e rm_X9_begins s m ([.ref m0] : List Value).toArray below meth c H locs 0 0 (MQ below (q_QWv D (wM cI cC cG m0 m1 m2 m3 m4 m5 m6 m7 m8 m9 m10 m11 m12 mTy mKn mKe mCa mSe mAt mFi mSc mTx mTo mDr mSt mPa mIm mWi mSn mHe mFw mRo mBe) (wM cI cC cG m0 m1 m2 m3 m4 m5 m6 m7 m8 m9 m10 m11 m12 mTy mKn mKe mCa mSe mAt mFi mSc mTx mTo (g_X9_begins_mDr mDr) mSt mPa mIm mWi mSn mHe mFw mRo mBe) sz) ([.ref m0] : List Value).toArray s 0 0 (va_A (wM cI cC cG m0 m1 m2 m3 m4 m5 m6 m7 m8 m9 m10 m11 m12 mTy mKn mKe mCa mSe mAt mFi mSc mTx mTo mDr mSt mPa mIm mWi mSn mHe mFw mRo mBe) sz)) (F0 m 21 ls []) := by
    intro H locs hP hD hS ls hl
    refine lv_aload_n hx hb dX9_begins_21 rfl (lv_at hl 0 rfl) ?_
    refine va_get (D := D) (ci := 9) (v := .ref m3) (C := RX9) (T := TX9) (N := 20) hx hb hts hinX9 hown hK hP 0 rfl rfl 3 (by decide) hf16 (fun _ h9 => h9) rfl dX9_begins_22 ?_
    refine lv_iconst (v := 2) hx hb dX9_begins_25 (by decide) ?_
    refine lv_bipush (v := 80) hx hb dX9_begins_26 (by decide) ?_
    refine q_iast hx hb hK hP hD hS 3 0 rfl rfl (vp_in_nI (n := 2) (N := 37) (by decide) (by decide)) 2 (by decide) dX9_begins_28 (fun H locs hP hD hS => ?_)
    have hP : va_P D vwCl [(m0, .inr (9, [.ref m1, .int (nI mTy), .ref m2, .ref m3, .ref m4, .ref m5, .int (nI mKn), .ref m6, .int (nI mKe), .ref m7, .int (nI mCa), .ref m8, .int (nI mSe), .int (nI mAt), .int mFi, .int mSc, .ref m9, .ref m10, .ref m11, .ref m12])), (m1, .inl (cI, 200, .inl mTx)), (m2, .inl (cI, 37, .inl mTo)), (m3, .inl (cI, 37, .inl (upd (F_X9_begins_2 mDr 37) 2 80))), (m4, .inl (cI, 15, .inl mSt)), (m5, .inl (cI, 120, .inl mPa)), (m6, .inl (cI, 30, .inl mIm)), (m7, .inl (cI, 5, .inl mWi)), (m8, .inl (cI, 6, .inl mSn)), (m9, .inl (cI, 15, .inl mHe)), (m10, .inl (cI, 384, .inl mFw)), (m11, .inl (cI, 5, .inl mRo)), (m12, .inl (cI, 5, .inl mBe))] H := hP
    have hD : va_D (va_A (wM cI cC cG m0 m1 m2 m3 m4 m5 m6 m7 m8 m9 m10 m11 m12 mTy mKn mKe mCa mSe mAt mFi mSc mTx mTo mDr mSt mPa mIm mWi mSn mHe mFw mRo mBe) sz) [(m0, .inr (9, [.ref m1, .int (nI mTy), .ref m2, .ref m3, .ref m4, .ref m5, .int (nI mKn), .ref m6, .int (nI mKe), .ref m7, .int (nI mCa), .ref m8, .int (nI mSe), .int (nI mAt), .int mFi, .int mSc, .ref m9, .ref m10, .ref m11, .ref m12])), (m1, .inl (cI, 200, .inl mTx)), (m2, .inl (cI, 37, .inl mTo)), (m3, .inl (cI, 37, .inl (upd (F_X9_begins_2 mDr 37) 2 80))), (m4, .inl (cI, 15, .inl mSt)), (m5, .inl (cI, 120, .inl mPa)), (m6, .inl (cI, 30, .inl mIm)), (m7, .inl (cI, 5, .inl mWi)), (m8, .inl (cI, 6, .inl mSn)), (m9, .inl (cI, 15, .inl mHe)), (m10, .inl (cI, 384, .inl mFw)), (m11, .inl (cI, 5, .inl mRo)), (m12, .inl (cI, 5, .inl mBe))] := hD
    have e_1 : (g_X9_begins_mDr mDr) = (upd (F_X9_begins_2 mDr 37) 2 80) := by simp only [g_X9_begins_mDr]
    exact rw_vret hx hb hr hlocks hP hD hS (by rw [e_1] <;> rfl) dX9_begins_29
  have loop2_ : ∀ (n2_ j2_ : Nat), j2_ + n2_ = 37 → ∀ (H : Heap) (locs : List Loc), va_P D vwCl [(m0, .inr (9, [.ref m1, .int (nI mTy), .ref m2, .ref m3, .ref m4, .ref m5, .int (nI mKn), .ref m6, .int (nI mKe), .ref m7, .int (nI mCa), .ref m8, .int (nI mSe), .int (nI mAt), .int mFi, .int mSc, .ref m9, .ref m10, .ref m11, .ref m12])), (m1, .inl (cI, 200, .inl mTx)), (m2, .inl (cI, 37, .inl mTo)), (m3, .inl (cI, 37, .inl (F_X9_begins_2 mDr j2_))), (m4, .inl (cI, 15, .inl mSt)), (m5, .inl (cI, 120, .inl mPa)), (m6, .inl (cI, 30, .inl mIm)), (m7, .inl (cI, 5, .inl mWi)), (m8, .inl (cI, 6, .inl mSn)), (m9, .inl (cI, 15, .inl mHe)), (m10, .inl (cI, 384, .inl mFw)), (m11, .inl (cI, 5, .inl mRo)), (m12, .inl (cI, 5, .inl mBe))] H → va_D (va_A (wM cI cC cG m0 m1 m2 m3 m4 m5 m6 m7 m8 m9 m10 m11 m12 mTy mKn mKe mCa mSe mAt mFi mSc mTx mTo mDr mSt mPa mIm mWi mSn mHe mFw mRo mBe) sz) [(m0, .inr (9, [.ref m1, .int (nI mTy), .ref m2, .ref m3, .ref m4, .ref m5, .int (nI mKn), .ref m6, .int (nI mKe), .ref m7, .int (nI mCa), .ref m8, .int (nI mSe), .int (nI mAt), .int mFi, .int mSc, .ref m9, .ref m10, .ref m11, .ref m12])), (m1, .inl (cI, 200, .inl mTx)), (m2, .inl (cI, 37, .inl mTo)), (m3, .inl (cI, 37, .inl (F_X9_begins_2 mDr j2_))), (m4, .inl (cI, 15, .inl mSt)), (m5, .inl (cI, 120, .inl mPa)), (m6, .inl (cI, 30, .inl mIm)), (m7, .inl (cI, 5, .inl mWi)), (m8, .inl (cI, 6, .inl mSn)), (m9, .inl (cI, 15, .inl mHe)), (m10, .inl (cI, 384, .inl mFw)), (m11, .inl (cI, 5, .inl mRo)), (m12, .inl (cI, 5, .inl mBe))] → va_S (va_A (wM cI cC cG m0 m1 m2 m3 m4 m5 m6 m7 m8 m9 m10 m11 m12 mTy mKn mKe mCa mSe mAt mFi mSc mTx mTo mDr mSt mPa mIm mWi mSn mHe mFw mRo mBe) sz) s.heap H locs → ∀ ls : Array Slot, lv_has ls 2 [(0, .ref m0), (1, .int (nI j2_))] → W p l e rm_X9_begins s m ([.ref m0] : List Value).toArray below meth c H locs 0 0 (MQ below (q_QWv D (wM cI cC cG m0 m1 m2 m3 m4 m5 m6 m7 m8 m9 m10 m11 m12 mTy mKn mKe mCa mSe mAt mFi mSc mTx mTo mDr mSt mPa mIm mWi mSn mHe mFw mRo mBe) (wM cI cC cG m0 m1 m2 m3 m4 m5 m6 m7 m8 m9 m10 m11 m12 mTy mKn mKe mCa mSe mAt mFi mSc mTx mTo (g_X9_begins_mDr mDr) mSt mPa mIm mWi mSn mHe mFw mRo mBe) sz) ([.ref m0] : List Value).toArray s 0 0 (va_A (wM cI cC cG m0 m1 m2 m3 m4 m5 m6 m7 m8 m9 m10 m11 m12 mTy mKn mKe mCa mSe mAt mFi mSc mTx mTo mDr mSt mPa mIm mWi mSn mHe mFw mRo mBe) sz)) (F0 m 2 ls []) := by
    intro n2_
    induction n2_ with
    | zero =>
      intro j2_ hj2_ H locs hP hD hS ls hl
      obtain rfl : j2_ = 37 := by omega
      refine lv_iload_n hx hb dX9_begins_2 rfl (lv_at hl 1 rfl) ?_
      refine lv_bipush (v := 37) hx hb dX9_begins_3 (by decide) ?_
      refine lv_icmp_ge (tgt := 21) hx hb dX9_begins_5 (by decide) (fun c_2 => ?_) (fun c_2 => ?_)
      rotate_left
      · exact absurd (nI_le (Nat.le_refl 37) (by decide)) c_2
      exact K2_ _ _ hP hD hS _ (lv_sub hl [0] rfl)
    | succ n2_ ih2_ =>
      intro j2_ hj2_ H locs hP hD hS ls hl
      refine lv_iload_n hx hb dX9_begins_2 rfl (lv_at hl 1 rfl) ?_
      refine lv_bipush (v := 37) hx hb dX9_begins_3 (by decide) ?_
      refine lv_icmp_ge (tgt := 21) hx hb dX9_begins_5 (by decide) (fun c_3 => ?_) (fun c_3 => ?_)
      · exact absurd c_3 (nI_ge (b := 37) (by omega) (by decide))
      refine lv_aload_n hx hb dX9_begins_8 rfl (lv_at hl 0 rfl) ?_
      refine va_get (D := D) (ci := 9) (v := .ref m3) (C := RX9) (T := TX9) (N := 20) hx hb hts hinX9 hown hK hP 0 rfl rfl 3 (by decide) hf16 (fun _ h9 => h9) rfl dX9_begins_9 ?_
      refine lv_iload_n hx hb dX9_begins_12 rfl (lv_at hl 1 rfl) ?_
      refine lv_iconst (v := 0) hx hb dX9_begins_13 (by decide) ?_
      refine q_iast hx hb hK hP hD hS 3 0 rfl rfl (vp_in_nI (by omega) (by decide)) j2_ (nI_clamp (by omega)) dX9_begins_14 (fun H locs hP hD hS => ?_)
      have hP : va_P D vwCl [(m0, .inr (9, [.ref m1, .int (nI mTy), .ref m2, .ref m3, .ref m4, .ref m5, .int (nI mKn), .ref m6, .int (nI mKe), .ref m7, .int (nI mCa), .ref m8, .int (nI mSe), .int (nI mAt), .int mFi, .int mSc, .ref m9, .ref m10, .ref m11, .ref m12])), (m1, .inl (cI, 200, .inl mTx)), (m2, .inl (cI, 37, .inl mTo)), (m3, .inl (cI, 37, .inl (upd (F_X9_begins_2 mDr j2_) j2_ 0))), (m4, .inl (cI, 15, .inl mSt)), (m5, .inl (cI, 120, .inl mPa)), (m6, .inl (cI, 30, .inl mIm)), (m7, .inl (cI, 5, .inl mWi)), (m8, .inl (cI, 6, .inl mSn)), (m9, .inl (cI, 15, .inl mHe)), (m10, .inl (cI, 384, .inl mFw)), (m11, .inl (cI, 5, .inl mRo)), (m12, .inl (cI, 5, .inl mBe))] H := hP
      have hD : va_D (va_A (wM cI cC cG m0 m1 m2 m3 m4 m5 m6 m7 m8 m9 m10 m11 m12 mTy mKn mKe mCa mSe mAt mFi mSc mTx mTo mDr mSt mPa mIm mWi mSn mHe mFw mRo mBe) sz) [(m0, .inr (9, [.ref m1, .int (nI mTy), .ref m2, .ref m3, .ref m4, .ref m5, .int (nI mKn), .ref m6, .int (nI mKe), .ref m7, .int (nI mCa), .ref m8, .int (nI mSe), .int (nI mAt), .int mFi, .int mSc, .ref m9, .ref m10, .ref m11, .ref m12])), (m1, .inl (cI, 200, .inl mTx)), (m2, .inl (cI, 37, .inl mTo)), (m3, .inl (cI, 37, .inl (upd (F_X9_begins_2 mDr j2_) j2_ 0))), (m4, .inl (cI, 15, .inl mSt)), (m5, .inl (cI, 120, .inl mPa)), (m6, .inl (cI, 30, .inl mIm)), (m7, .inl (cI, 5, .inl mWi)), (m8, .inl (cI, 6, .inl mSn)), (m9, .inl (cI, 15, .inl mHe)), (m10, .inl (cI, 384, .inl mFw)), (m11, .inl (cI, 5, .inl mRo)), (m12, .inl (cI, 5, .inl mBe))] := hD
      refine lv_iinc (v := (nI (j2_ + 1))) (lv' := [(1, .int (nI (j2_ + 1))), (0, .ref m0)]) hx hb dX9_begins_15 hl (k := 1) rfl (nI_1 _) (by decide) rfl (fun ls hl => ?_)
      refine lv_goto (tgt := 2) hx hb dX9_begins_18 (by decide) ?_
      have e_4 : (F_X9_begins_2 mDr (j2_ + 1)) = (upd (F_X9_begins_2 mDr j2_) j2_ 0) := by simp only [F_X9_begins_2]
      exact ih2_ (j2_ + 1) (by omega) _ _ (by rw [e_4]; exact hP) (by rw [e_4]; exact hD) hS _ (lv_sub hl [1, 0] rfl)
  exact loop2_ 37 0 (by omega) _ _ hP hD hS _ (lv_sub hl [1, 0] rfl)
def g_X9_adds_mDr (mDr : Nat → Int32) (p0 : Int32) (p1 : Int32) : Nat → Int32 := (upd (upd (upd mDr (3 + (Int32.toNatClampNeg (mDr 0))) p0) (9 + (Int32.toNatClampNeg (mDr 0))) p1) 0 ((mDr 0) + 1))
abbrev rm_X9_adds : Room := { frames := 0, cells := 0, slots := 0, locals := 0 }
set_option maxRecDepth 100000 in
set_option maxHeartbeats 4000000 in
theorem c_X9_adds (l : Launch) (D : va_G) (cI cC cG : ClassId) (m0 : Nat) (m1 : Nat) (m2 : Nat) (m3 : Nat) (m4 : Nat) (m5 : Nat) (m6 : Nat) (m7 : Nat) (m8 : Nat) (m9 : Nat) (m10 : Nat) (m11 : Nat) (m12 : Nat) (mTy : Nat) (mKn : Nat) (mKe : Nat) (mCa : Nat) (mSe : Nat) (mAt : Nat) (mFi : Int32) (mSc : Int32) (mTx : Nat → Int32) (mTo : Nat → Int32) (mDr : Nat → Int32) (mSt : Nat → Int32) (mPa : Nat → Int32) (mIm : Nat → Int32) (mWi : Nat → Int32) (mSn : Nat → Int32) (mHe : Nat → Int32) (mFw : Nat → Int32) (mRo : Nat → Int32) (mBe : Nat → Int32) (p0 : Int32) (p1 : Int32) (sz : Nat) (hd0 : vp_in (mDr 0) 6) : RwV l yX9_adds wsX9_adds rm_X9_adds D (q_t cI cC cG) (wM cI cC cG m0 m1 m2 m3 m4 m5 m6 m7 m8 m9 m10 m11 m12 mTy mKn mKe mCa mSe mAt mFi mSc mTx mTo mDr mSt mPa mIm mWi mSn mHe mFw mRo mBe) (wM cI cC cG m0 m1 m2 m3 m4 m5 m6 m7 m8 m9 m10 m11 m12 mTy mKn mKe mCa mSe mAt mFi mSc mTx mTo (g_X9_adds_mDr mDr p0 p1) mSt mPa mIm mWi mSn mHe mFw mRo mBe) sz [.ref m0, .int p0, .int p1] := by
  refine rw_enter (cc := cX9_adds) (maxL := 3) (ret := none) (by decide) rfl (Nat.le_of_ble_eq_true rfl) ?_
  intro p e s m below meth c ls B hP hK hD hS hA hl
  obtain ⟨hx, hb, hr, hlocks, hml, hown, hts, hN⟩ := B
  have hown : s.vm.findClass RX9 = some m.cls := hown
  have hl : lv_has ls 3 [(0, .ref m0), (1, .int p0), (2, .int p1)] := hl
  have hf16 := hts (.fieldLink RX9 16 "OlderByABlushModel" "draft" "[I") (by decide +kernel)
  have hinX9 : ∀ w ∈ u_ws RX9 TX9 20, w ∈ wsX9_adds := by decide +kernel
  refine lv_aload_n hx hb dX9_adds_0 rfl (lv_at hl 0 rfl) ?_
  refine va_get (D := D) (ci := 9) (v := .ref m3) (C := RX9) (T := TX9) (N := 20) hx hb hts hinX9 hown hK hP 0 rfl rfl 3 (by decide) hf16 (fun _ h9 => h9) rfl dX9_adds_1 ?_
  refine lv_iconst (v := 3) hx hb dX9_adds_4 (by decide) ?_
  refine lv_aload_n hx hb dX9_adds_5 rfl (lv_at hl 0 rfl) ?_
  refine va_get (D := D) (ci := 9) (v := .ref m3) (C := RX9) (T := TX9) (N := 20) hx hb hts hinX9 hown hK hP 0 rfl rfl 3 (by decide) hf16 (fun _ h9 => h9) rfl dX9_adds_6 ?_
  refine lv_iconst (v := 0) hx hb dX9_adds_9 (by decide) ?_
  refine q_iald hx hb hK hP 3 0 rfl rfl (vp_in_nI (n := 0) (N := 37) (by decide) (by decide)) 0 (by decide) dX9_adds_10 ?_
  refine lv_iadd hx hb dX9_adds_11 ?_
  refine lv_iload_n hx hb dX9_adds_12 rfl (lv_at hl 1 rfl) ?_
  refine q_iast hx hb hK hP hD hS 3 0 rfl rfl (in_add 3 (n := 6) hd0 (by decide) (by decide)) (3 + (Int32.toNatClampNeg (mDr 0))) (in_addc 3 (n := 6) (N := 1000) hd0 (by decide) (by decide)) dX9_adds_13 (fun H locs hP hD hS => ?_)
  have hP : va_P D vwCl [(m0, .inr (9, [.ref m1, .int (nI mTy), .ref m2, .ref m3, .ref m4, .ref m5, .int (nI mKn), .ref m6, .int (nI mKe), .ref m7, .int (nI mCa), .ref m8, .int (nI mSe), .int (nI mAt), .int mFi, .int mSc, .ref m9, .ref m10, .ref m11, .ref m12])), (m1, .inl (cI, 200, .inl mTx)), (m2, .inl (cI, 37, .inl mTo)), (m3, .inl (cI, 37, .inl (upd mDr (3 + (Int32.toNatClampNeg (mDr 0))) p0))), (m4, .inl (cI, 15, .inl mSt)), (m5, .inl (cI, 120, .inl mPa)), (m6, .inl (cI, 30, .inl mIm)), (m7, .inl (cI, 5, .inl mWi)), (m8, .inl (cI, 6, .inl mSn)), (m9, .inl (cI, 15, .inl mHe)), (m10, .inl (cI, 384, .inl mFw)), (m11, .inl (cI, 5, .inl mRo)), (m12, .inl (cI, 5, .inl mBe))] H := hP
  have hD : va_D (va_A (wM cI cC cG m0 m1 m2 m3 m4 m5 m6 m7 m8 m9 m10 m11 m12 mTy mKn mKe mCa mSe mAt mFi mSc mTx mTo mDr mSt mPa mIm mWi mSn mHe mFw mRo mBe) sz) [(m0, .inr (9, [.ref m1, .int (nI mTy), .ref m2, .ref m3, .ref m4, .ref m5, .int (nI mKn), .ref m6, .int (nI mKe), .ref m7, .int (nI mCa), .ref m8, .int (nI mSe), .int (nI mAt), .int mFi, .int mSc, .ref m9, .ref m10, .ref m11, .ref m12])), (m1, .inl (cI, 200, .inl mTx)), (m2, .inl (cI, 37, .inl mTo)), (m3, .inl (cI, 37, .inl (upd mDr (3 + (Int32.toNatClampNeg (mDr 0))) p0))), (m4, .inl (cI, 15, .inl mSt)), (m5, .inl (cI, 120, .inl mPa)), (m6, .inl (cI, 30, .inl mIm)), (m7, .inl (cI, 5, .inl mWi)), (m8, .inl (cI, 6, .inl mSn)), (m9, .inl (cI, 15, .inl mHe)), (m10, .inl (cI, 384, .inl mFw)), (m11, .inl (cI, 5, .inl mRo)), (m12, .inl (cI, 5, .inl mBe))] := hD
  refine lv_aload_n hx hb dX9_adds_14 rfl (lv_at hl 0 rfl) ?_
  refine va_get (D := D) (ci := 9) (v := .ref m3) (C := RX9) (T := TX9) (N := 20) hx hb hts hinX9 hown hK hP 0 rfl rfl 3 (by decide) hf16 (fun _ h9 => h9) rfl dX9_adds_15 ?_
  refine lv_bipush (v := 9) hx hb dX9_adds_18 (by decide) ?_
  refine lv_aload_n hx hb dX9_adds_20 rfl (lv_at hl 0 rfl) ?_
  refine va_get (D := D) (ci := 9) (v := .ref m3) (C := RX9) (T := TX9) (N := 20) hx hb hts hinX9 hown hK hP 0 rfl rfl 3 (by decide) hf16 (fun _ h9 => h9) rfl dX9_adds_21 ?_
  refine lv_iconst (v := 0) hx hb dX9_adds_24 (by decide) ?_
  refine q_ialdV (v := (mDr 0)) hx hb hK hP 3 0 rfl rfl (vp_in_nI (n := 0) (N := 37) (by decide) (by decide)) 0 (by decide) (by rw [pk_un (by omega)]) dX9_adds_25 ?_
  refine lv_iadd hx hb dX9_adds_26 ?_
  refine lv_iload_n hx hb dX9_adds_27 rfl (lv_at hl 2 rfl) ?_
  refine q_iast hx hb hK hP hD hS 3 0 rfl rfl (in_add 9 (n := 6) hd0 (by decide) (by decide)) (9 + (Int32.toNatClampNeg (mDr 0))) (in_addc 9 (n := 6) (N := 1000) hd0 (by decide) (by decide)) dX9_adds_28 (fun H locs hP hD hS => ?_)
  have hP : va_P D vwCl [(m0, .inr (9, [.ref m1, .int (nI mTy), .ref m2, .ref m3, .ref m4, .ref m5, .int (nI mKn), .ref m6, .int (nI mKe), .ref m7, .int (nI mCa), .ref m8, .int (nI mSe), .int (nI mAt), .int mFi, .int mSc, .ref m9, .ref m10, .ref m11, .ref m12])), (m1, .inl (cI, 200, .inl mTx)), (m2, .inl (cI, 37, .inl mTo)), (m3, .inl (cI, 37, .inl (upd (upd mDr (3 + (Int32.toNatClampNeg (mDr 0))) p0) (9 + (Int32.toNatClampNeg (mDr 0))) p1))), (m4, .inl (cI, 15, .inl mSt)), (m5, .inl (cI, 120, .inl mPa)), (m6, .inl (cI, 30, .inl mIm)), (m7, .inl (cI, 5, .inl mWi)), (m8, .inl (cI, 6, .inl mSn)), (m9, .inl (cI, 15, .inl mHe)), (m10, .inl (cI, 384, .inl mFw)), (m11, .inl (cI, 5, .inl mRo)), (m12, .inl (cI, 5, .inl mBe))] H := hP
  have hD : va_D (va_A (wM cI cC cG m0 m1 m2 m3 m4 m5 m6 m7 m8 m9 m10 m11 m12 mTy mKn mKe mCa mSe mAt mFi mSc mTx mTo mDr mSt mPa mIm mWi mSn mHe mFw mRo mBe) sz) [(m0, .inr (9, [.ref m1, .int (nI mTy), .ref m2, .ref m3, .ref m4, .ref m5, .int (nI mKn), .ref m6, .int (nI mKe), .ref m7, .int (nI mCa), .ref m8, .int (nI mSe), .int (nI mAt), .int mFi, .int mSc, .ref m9, .ref m10, .ref m11, .ref m12])), (m1, .inl (cI, 200, .inl mTx)), (m2, .inl (cI, 37, .inl mTo)), (m3, .inl (cI, 37, .inl (upd (upd mDr (3 + (Int32.toNatClampNeg (mDr 0))) p0) (9 + (Int32.toNatClampNeg (mDr 0))) p1))), (m4, .inl (cI, 15, .inl mSt)), (m5, .inl (cI, 120, .inl mPa)), (m6, .inl (cI, 30, .inl mIm)), (m7, .inl (cI, 5, .inl mWi)), (m8, .inl (cI, 6, .inl mSn)), (m9, .inl (cI, 15, .inl mHe)), (m10, .inl (cI, 384, .inl mFw)), (m11, .inl (cI, 5, .inl mRo)), (m12, .inl (cI, 5, .inl mBe))] := hD
  refine lv_aload_n hx hb dX9_adds_29 rfl (lv_at hl 0 rfl) ?_
  refine va_get (D := D) (ci := 9) (v := .ref m3) (C := RX9) (T := TX9) (N := 20) hx hb hts hinX9 hown hK hP 0 rfl rfl 3 (by decide) hf16 (fun _ h9 => h9) rfl dX9_adds_30 ?_
  refine lv_iconst (v := 0) hx hb dX9_adds_33 (by decide) ?_
  refine lv_dup2_11 hx hb dX9_adds_34 rfl rfl ?_
  refine q_ialdV (v := (mDr 0)) hx hb hK hP 3 0 rfl rfl (vp_in_nI (n := 0) (N := 37) (by decide) (by decide)) 0 (by decide) (by rw [pk_un (by omega), pk_un (by omega)]) dX9_adds_35 ?_
  refine lv_iconst (v := 1) hx hb dX9_adds_36 (by decide) ?_
  refine lv_iadd hx hb dX9_adds_37 ?_
  refine q_iast hx hb hK hP hD hS 3 0 rfl rfl (vp_in_nI (n := 0) (N := 37) (by decide) (by decide)) 0 (by decide) dX9_adds_38 (fun H locs hP hD hS => ?_)
  have hP : va_P D vwCl [(m0, .inr (9, [.ref m1, .int (nI mTy), .ref m2, .ref m3, .ref m4, .ref m5, .int (nI mKn), .ref m6, .int (nI mKe), .ref m7, .int (nI mCa), .ref m8, .int (nI mSe), .int (nI mAt), .int mFi, .int mSc, .ref m9, .ref m10, .ref m11, .ref m12])), (m1, .inl (cI, 200, .inl mTx)), (m2, .inl (cI, 37, .inl mTo)), (m3, .inl (cI, 37, .inl (upd (upd (upd mDr (3 + (Int32.toNatClampNeg (mDr 0))) p0) (9 + (Int32.toNatClampNeg (mDr 0))) p1) 0 ((mDr 0) + 1)))), (m4, .inl (cI, 15, .inl mSt)), (m5, .inl (cI, 120, .inl mPa)), (m6, .inl (cI, 30, .inl mIm)), (m7, .inl (cI, 5, .inl mWi)), (m8, .inl (cI, 6, .inl mSn)), (m9, .inl (cI, 15, .inl mHe)), (m10, .inl (cI, 384, .inl mFw)), (m11, .inl (cI, 5, .inl mRo)), (m12, .inl (cI, 5, .inl mBe))] H := hP
  have hD : va_D (va_A (wM cI cC cG m0 m1 m2 m3 m4 m5 m6 m7 m8 m9 m10 m11 m12 mTy mKn mKe mCa mSe mAt mFi mSc mTx mTo mDr mSt mPa mIm mWi mSn mHe mFw mRo mBe) sz) [(m0, .inr (9, [.ref m1, .int (nI mTy), .ref m2, .ref m3, .ref m4, .ref m5, .int (nI mKn), .ref m6, .int (nI mKe), .ref m7, .int (nI mCa), .ref m8, .int (nI mSe), .int (nI mAt), .int mFi, .int mSc, .ref m9, .ref m10, .ref m11, .ref m12])), (m1, .inl (cI, 200, .inl mTx)), (m2, .inl (cI, 37, .inl mTo)), (m3, .inl (cI, 37, .inl (upd (upd (upd mDr (3 + (Int32.toNatClampNeg (mDr 0))) p0) (9 + (Int32.toNatClampNeg (mDr 0))) p1) 0 ((mDr 0) + 1)))), (m4, .inl (cI, 15, .inl mSt)), (m5, .inl (cI, 120, .inl mPa)), (m6, .inl (cI, 30, .inl mIm)), (m7, .inl (cI, 5, .inl mWi)), (m8, .inl (cI, 6, .inl mSn)), (m9, .inl (cI, 15, .inl mHe)), (m10, .inl (cI, 384, .inl mFw)), (m11, .inl (cI, 5, .inl mRo)), (m12, .inl (cI, 5, .inl mBe))] := hD
  have e_1 : (g_X9_adds_mDr mDr p0 p1) = (upd (upd (upd mDr (3 + (Int32.toNatClampNeg (mDr 0))) p0) (9 + (Int32.toNatClampNeg (mDr 0))) p1) 0 ((mDr 0) + 1)) := by simp only [g_X9_adds_mDr]
  exact rw_vret hx hb hr hlocks hP hD hS (by rw [e_1] <;> rfl) dX9_adds_39
def g_X9_meets_mDr (mDr : Nat → Int32) (p0 : Int32) (p1 : Int32) : Nat → Int32 := (upd (upd mDr (15 + (Int32.toNatClampNeg p0)) ((mDr (15 + (Int32.toNatClampNeg p0))) ||| ((1 : Int32) <<< (p1 &&& 31)))) (15 + (Int32.toNatClampNeg p1)) (((upd mDr (15 + (Int32.toNatClampNeg p0)) ((mDr (15 + (Int32.toNatClampNeg p0))) ||| ((1 : Int32) <<< (p1 &&& 31)))) (15 + (Int32.toNatClampNeg p1))) ||| ((1 : Int32) <<< (p0 &&& 31))))
abbrev rm_X9_meets : Room := { frames := 0, cells := 0, slots := 0, locals := 0 }
set_option maxRecDepth 100000 in
set_option maxHeartbeats 4000000 in
theorem c_X9_meets (l : Launch) (D : va_G) (cI cC cG : ClassId) (m0 : Nat) (m1 : Nat) (m2 : Nat) (m3 : Nat) (m4 : Nat) (m5 : Nat) (m6 : Nat) (m7 : Nat) (m8 : Nat) (m9 : Nat) (m10 : Nat) (m11 : Nat) (m12 : Nat) (mTy : Nat) (mKn : Nat) (mKe : Nat) (mCa : Nat) (mSe : Nat) (mAt : Nat) (mFi : Int32) (mSc : Int32) (mTx : Nat → Int32) (mTo : Nat → Int32) (mDr : Nat → Int32) (mSt : Nat → Int32) (mPa : Nat → Int32) (mIm : Nat → Int32) (mWi : Nat → Int32) (mSn : Nat → Int32) (mHe : Nat → Int32) (mFw : Nat → Int32) (mRo : Nat → Int32) (mBe : Nat → Int32) (p0 : Int32) (p1 : Int32) (sz : Nat) (hi : vp_in p0 6) (hj : vp_in p1 6) : RwV l yX9_meets wsX9_meets rm_X9_meets D (q_t cI cC cG) (wM cI cC cG m0 m1 m2 m3 m4 m5 m6 m7 m8 m9 m10 m11 m12 mTy mKn mKe mCa mSe mAt mFi mSc mTx mTo mDr mSt mPa mIm mWi mSn mHe mFw mRo mBe) (wM cI cC cG m0 m1 m2 m3 m4 m5 m6 m7 m8 m9 m10 m11 m12 mTy mKn mKe mCa mSe mAt mFi mSc mTx mTo (g_X9_meets_mDr mDr p0 p1) mSt mPa mIm mWi mSn mHe mFw mRo mBe) sz [.ref m0, .int p0, .int p1] := by
  refine rw_enter (cc := cX9_meets) (maxL := 3) (ret := none) (by decide) rfl (Nat.le_of_ble_eq_true rfl) ?_
  intro p e s m below meth c ls B hP hK hD hS hA hl
  obtain ⟨hx, hb, hr, hlocks, hml, hown, hts, hN⟩ := B
  have hown : s.vm.findClass RX9 = some m.cls := hown
  have hl : lv_has ls 3 [(0, .ref m0), (1, .int p0), (2, .int p1)] := hl
  have hf16 := hts (.fieldLink RX9 16 "OlderByABlushModel" "draft" "[I") (by decide +kernel)
  have hinX9 : ∀ w ∈ u_ws RX9 TX9 20, w ∈ wsX9_meets := by decide +kernel
  refine lv_aload_n hx hb dX9_meets_0 rfl (lv_at hl 0 rfl) ?_
  refine va_get (D := D) (ci := 9) (v := .ref m3) (C := RX9) (T := TX9) (N := 20) hx hb hts hinX9 hown hK hP 0 rfl rfl 3 (by decide) hf16 (fun _ h9 => h9) rfl dX9_meets_1 ?_
  refine lv_bipush (v := 15) hx hb dX9_meets_4 (by decide) ?_
  refine lv_iload_n hx hb dX9_meets_6 rfl (lv_at hl 1 rfl) ?_
  refine lv_iadd hx hb dX9_meets_7 ?_
  refine lv_dup2_11 hx hb dX9_meets_8 rfl rfl ?_
  refine q_iald hx hb hK hP 3 0 rfl rfl (in_add 15 (n := 6) hi (by decide) (by decide)) (15 + (Int32.toNatClampNeg p0)) (in_addc 15 (n := 6) (N := 1000) hi (by decide) (by decide)) dX9_meets_9 ?_
  refine lv_iconst (v := 1) hx hb dX9_meets_10 (by decide) ?_
  refine lv_iload_n hx hb dX9_meets_11 rfl (lv_at hl 2 rfl) ?_
  refine lv_ishl hx hb dX9_meets_12 ?_
  refine lv_ior hx hb dX9_meets_13 ?_
  refine q_iast hx hb hK hP hD hS 3 0 rfl rfl (in_add 15 (n := 6) hi (by decide) (by decide)) (15 + (Int32.toNatClampNeg p0)) (in_addc 15 (n := 6) (N := 1000) hi (by decide) (by decide)) dX9_meets_14 (fun H locs hP hD hS => ?_)
  have hP : va_P D vwCl [(m0, .inr (9, [.ref m1, .int (nI mTy), .ref m2, .ref m3, .ref m4, .ref m5, .int (nI mKn), .ref m6, .int (nI mKe), .ref m7, .int (nI mCa), .ref m8, .int (nI mSe), .int (nI mAt), .int mFi, .int mSc, .ref m9, .ref m10, .ref m11, .ref m12])), (m1, .inl (cI, 200, .inl mTx)), (m2, .inl (cI, 37, .inl mTo)), (m3, .inl (cI, 37, .inl (upd mDr (15 + (Int32.toNatClampNeg p0)) ((mDr (15 + (Int32.toNatClampNeg p0))) ||| ((1 : Int32) <<< (p1 &&& 31)))))), (m4, .inl (cI, 15, .inl mSt)), (m5, .inl (cI, 120, .inl mPa)), (m6, .inl (cI, 30, .inl mIm)), (m7, .inl (cI, 5, .inl mWi)), (m8, .inl (cI, 6, .inl mSn)), (m9, .inl (cI, 15, .inl mHe)), (m10, .inl (cI, 384, .inl mFw)), (m11, .inl (cI, 5, .inl mRo)), (m12, .inl (cI, 5, .inl mBe))] H := hP
  have hD : va_D (va_A (wM cI cC cG m0 m1 m2 m3 m4 m5 m6 m7 m8 m9 m10 m11 m12 mTy mKn mKe mCa mSe mAt mFi mSc mTx mTo mDr mSt mPa mIm mWi mSn mHe mFw mRo mBe) sz) [(m0, .inr (9, [.ref m1, .int (nI mTy), .ref m2, .ref m3, .ref m4, .ref m5, .int (nI mKn), .ref m6, .int (nI mKe), .ref m7, .int (nI mCa), .ref m8, .int (nI mSe), .int (nI mAt), .int mFi, .int mSc, .ref m9, .ref m10, .ref m11, .ref m12])), (m1, .inl (cI, 200, .inl mTx)), (m2, .inl (cI, 37, .inl mTo)), (m3, .inl (cI, 37, .inl (upd mDr (15 + (Int32.toNatClampNeg p0)) ((mDr (15 + (Int32.toNatClampNeg p0))) ||| ((1 : Int32) <<< (p1 &&& 31)))))), (m4, .inl (cI, 15, .inl mSt)), (m5, .inl (cI, 120, .inl mPa)), (m6, .inl (cI, 30, .inl mIm)), (m7, .inl (cI, 5, .inl mWi)), (m8, .inl (cI, 6, .inl mSn)), (m9, .inl (cI, 15, .inl mHe)), (m10, .inl (cI, 384, .inl mFw)), (m11, .inl (cI, 5, .inl mRo)), (m12, .inl (cI, 5, .inl mBe))] := hD
  refine lv_aload_n hx hb dX9_meets_15 rfl (lv_at hl 0 rfl) ?_
  refine va_get (D := D) (ci := 9) (v := .ref m3) (C := RX9) (T := TX9) (N := 20) hx hb hts hinX9 hown hK hP 0 rfl rfl 3 (by decide) hf16 (fun _ h9 => h9) rfl dX9_meets_16 ?_
  refine lv_bipush (v := 15) hx hb dX9_meets_19 (by decide) ?_
  refine lv_iload_n hx hb dX9_meets_21 rfl (lv_at hl 2 rfl) ?_
  refine lv_iadd hx hb dX9_meets_22 ?_
  refine lv_dup2_11 hx hb dX9_meets_23 rfl rfl ?_
  refine q_iald hx hb hK hP 3 0 rfl rfl (in_add 15 (n := 6) hj (by decide) (by decide)) (15 + (Int32.toNatClampNeg p1)) (in_addc 15 (n := 6) (N := 1000) hj (by decide) (by decide)) dX9_meets_24 ?_
  refine lv_iconst (v := 1) hx hb dX9_meets_25 (by decide) ?_
  refine lv_iload_n hx hb dX9_meets_26 rfl (lv_at hl 1 rfl) ?_
  refine lv_ishl hx hb dX9_meets_27 ?_
  refine lv_ior hx hb dX9_meets_28 ?_
  refine q_iast hx hb hK hP hD hS 3 0 rfl rfl (in_add 15 (n := 6) hj (by decide) (by decide)) (15 + (Int32.toNatClampNeg p1)) (in_addc 15 (n := 6) (N := 1000) hj (by decide) (by decide)) dX9_meets_29 (fun H locs hP hD hS => ?_)
  have hP : va_P D vwCl [(m0, .inr (9, [.ref m1, .int (nI mTy), .ref m2, .ref m3, .ref m4, .ref m5, .int (nI mKn), .ref m6, .int (nI mKe), .ref m7, .int (nI mCa), .ref m8, .int (nI mSe), .int (nI mAt), .int mFi, .int mSc, .ref m9, .ref m10, .ref m11, .ref m12])), (m1, .inl (cI, 200, .inl mTx)), (m2, .inl (cI, 37, .inl mTo)), (m3, .inl (cI, 37, .inl (upd (upd mDr (15 + (Int32.toNatClampNeg p0)) ((mDr (15 + (Int32.toNatClampNeg p0))) ||| ((1 : Int32) <<< (p1 &&& 31)))) (15 + (Int32.toNatClampNeg p1)) (((upd mDr (15 + (Int32.toNatClampNeg p0)) ((mDr (15 + (Int32.toNatClampNeg p0))) ||| ((1 : Int32) <<< (p1 &&& 31)))) (15 + (Int32.toNatClampNeg p1))) ||| ((1 : Int32) <<< (p0 &&& 31)))))), (m4, .inl (cI, 15, .inl mSt)), (m5, .inl (cI, 120, .inl mPa)), (m6, .inl (cI, 30, .inl mIm)), (m7, .inl (cI, 5, .inl mWi)), (m8, .inl (cI, 6, .inl mSn)), (m9, .inl (cI, 15, .inl mHe)), (m10, .inl (cI, 384, .inl mFw)), (m11, .inl (cI, 5, .inl mRo)), (m12, .inl (cI, 5, .inl mBe))] H := hP
  have hD : va_D (va_A (wM cI cC cG m0 m1 m2 m3 m4 m5 m6 m7 m8 m9 m10 m11 m12 mTy mKn mKe mCa mSe mAt mFi mSc mTx mTo mDr mSt mPa mIm mWi mSn mHe mFw mRo mBe) sz) [(m0, .inr (9, [.ref m1, .int (nI mTy), .ref m2, .ref m3, .ref m4, .ref m5, .int (nI mKn), .ref m6, .int (nI mKe), .ref m7, .int (nI mCa), .ref m8, .int (nI mSe), .int (nI mAt), .int mFi, .int mSc, .ref m9, .ref m10, .ref m11, .ref m12])), (m1, .inl (cI, 200, .inl mTx)), (m2, .inl (cI, 37, .inl mTo)), (m3, .inl (cI, 37, .inl (upd (upd mDr (15 + (Int32.toNatClampNeg p0)) ((mDr (15 + (Int32.toNatClampNeg p0))) ||| ((1 : Int32) <<< (p1 &&& 31)))) (15 + (Int32.toNatClampNeg p1)) (((upd mDr (15 + (Int32.toNatClampNeg p0)) ((mDr (15 + (Int32.toNatClampNeg p0))) ||| ((1 : Int32) <<< (p1 &&& 31)))) (15 + (Int32.toNatClampNeg p1))) ||| ((1 : Int32) <<< (p0 &&& 31)))))), (m4, .inl (cI, 15, .inl mSt)), (m5, .inl (cI, 120, .inl mPa)), (m6, .inl (cI, 30, .inl mIm)), (m7, .inl (cI, 5, .inl mWi)), (m8, .inl (cI, 6, .inl mSn)), (m9, .inl (cI, 15, .inl mHe)), (m10, .inl (cI, 384, .inl mFw)), (m11, .inl (cI, 5, .inl mRo)), (m12, .inl (cI, 5, .inl mBe))] := hD
  have e_1 : (g_X9_meets_mDr mDr p0 p1) = (upd (upd mDr (15 + (Int32.toNatClampNeg p0)) ((mDr (15 + (Int32.toNatClampNeg p0))) ||| ((1 : Int32) <<< (p1 &&& 31)))) (15 + (Int32.toNatClampNeg p1)) (((upd mDr (15 + (Int32.toNatClampNeg p0)) ((mDr (15 + (Int32.toNatClampNeg p0))) ||| ((1 : Int32) <<< (p1 &&& 31)))) (15 + (Int32.toNatClampNeg p1))) ||| ((1 : Int32) <<< (p0 &&& 31)))) := by simp only [g_X9_meets_mDr]
  exact rw_vret hx hb hr hlocks hP hD hS (by rw [e_1] <;> rfl) dX9_meets_30
def g_X9_secretOf_mDr (mDr : Nat → Int32) (p0 : Int32) (p1 : Int32) : Nat → Int32 := (upd (upd (upd mDr (21 + (Int32.toNatClampNeg (mDr 1))) p0) (29 + (Int32.toNatClampNeg (mDr 1))) (p1 ||| ((1 : Int32) <<< (p0 &&& 31)))) 1 ((mDr 1) + 1))
abbrev rm_X9_secretOf : Room := { frames := 0, cells := 0, slots := 0, locals := 0 }
set_option maxRecDepth 100000 in
set_option maxHeartbeats 4000000 in
theorem c_X9_secretOf (l : Launch) (D : va_G) (cI cC cG : ClassId) (m0 : Nat) (m1 : Nat) (m2 : Nat) (m3 : Nat) (m4 : Nat) (m5 : Nat) (m6 : Nat) (m7 : Nat) (m8 : Nat) (m9 : Nat) (m10 : Nat) (m11 : Nat) (m12 : Nat) (mTy : Nat) (mKn : Nat) (mKe : Nat) (mCa : Nat) (mSe : Nat) (mAt : Nat) (mFi : Int32) (mSc : Int32) (mTx : Nat → Int32) (mTo : Nat → Int32) (mDr : Nat → Int32) (mSt : Nat → Int32) (mPa : Nat → Int32) (mIm : Nat → Int32) (mWi : Nat → Int32) (mSn : Nat → Int32) (mHe : Nat → Int32) (mFw : Nat → Int32) (mRo : Nat → Int32) (mBe : Nat → Int32) (p0 : Int32) (p1 : Int32) (sz : Nat) (hd1 : vp_in (mDr 1) 8) : RwV l yX9_secretOf wsX9_secretOf rm_X9_secretOf D (q_t cI cC cG) (wM cI cC cG m0 m1 m2 m3 m4 m5 m6 m7 m8 m9 m10 m11 m12 mTy mKn mKe mCa mSe mAt mFi mSc mTx mTo mDr mSt mPa mIm mWi mSn mHe mFw mRo mBe) (wM cI cC cG m0 m1 m2 m3 m4 m5 m6 m7 m8 m9 m10 m11 m12 mTy mKn mKe mCa mSe mAt mFi mSc mTx mTo (g_X9_secretOf_mDr mDr p0 p1) mSt mPa mIm mWi mSn mHe mFw mRo mBe) sz [.ref m0, .int p0, .int p1] := by
  refine rw_enter (cc := cX9_secretOf) (maxL := 3) (ret := none) (by decide) rfl (Nat.le_of_ble_eq_true rfl) ?_
  intro p e s m below meth c ls B hP hK hD hS hA hl
  obtain ⟨hx, hb, hr, hlocks, hml, hown, hts, hN⟩ := B
  have hown : s.vm.findClass RX9 = some m.cls := hown
  have hl : lv_has ls 3 [(0, .ref m0), (1, .int p0), (2, .int p1)] := hl
  have hf16 := hts (.fieldLink RX9 16 "OlderByABlushModel" "draft" "[I") (by decide +kernel)
  have hinX9 : ∀ w ∈ u_ws RX9 TX9 20, w ∈ wsX9_secretOf := by decide +kernel
  refine lv_aload_n hx hb dX9_secretOf_0 rfl (lv_at hl 0 rfl) ?_
  refine va_get (D := D) (ci := 9) (v := .ref m3) (C := RX9) (T := TX9) (N := 20) hx hb hts hinX9 hown hK hP 0 rfl rfl 3 (by decide) hf16 (fun _ h9 => h9) rfl dX9_secretOf_1 ?_
  refine lv_bipush (v := 21) hx hb dX9_secretOf_4 (by decide) ?_
  refine lv_aload_n hx hb dX9_secretOf_6 rfl (lv_at hl 0 rfl) ?_
  refine va_get (D := D) (ci := 9) (v := .ref m3) (C := RX9) (T := TX9) (N := 20) hx hb hts hinX9 hown hK hP 0 rfl rfl 3 (by decide) hf16 (fun _ h9 => h9) rfl dX9_secretOf_7 ?_
  refine lv_iconst (v := 1) hx hb dX9_secretOf_10 (by decide) ?_
  refine q_iald hx hb hK hP 3 0 rfl rfl (vp_in_nI (n := 1) (N := 37) (by decide) (by decide)) 1 (by decide) dX9_secretOf_11 ?_
  refine lv_iadd hx hb dX9_secretOf_12 ?_
  refine lv_iload_n hx hb dX9_secretOf_13 rfl (lv_at hl 1 rfl) ?_
  refine q_iast hx hb hK hP hD hS 3 0 rfl rfl (in_add 21 (n := 8) hd1 (by decide) (by decide)) (21 + (Int32.toNatClampNeg (mDr 1))) (in_addc 21 (n := 8) (N := 1000) hd1 (by decide) (by decide)) dX9_secretOf_14 (fun H locs hP hD hS => ?_)
  have hP : va_P D vwCl [(m0, .inr (9, [.ref m1, .int (nI mTy), .ref m2, .ref m3, .ref m4, .ref m5, .int (nI mKn), .ref m6, .int (nI mKe), .ref m7, .int (nI mCa), .ref m8, .int (nI mSe), .int (nI mAt), .int mFi, .int mSc, .ref m9, .ref m10, .ref m11, .ref m12])), (m1, .inl (cI, 200, .inl mTx)), (m2, .inl (cI, 37, .inl mTo)), (m3, .inl (cI, 37, .inl (upd mDr (21 + (Int32.toNatClampNeg (mDr 1))) p0))), (m4, .inl (cI, 15, .inl mSt)), (m5, .inl (cI, 120, .inl mPa)), (m6, .inl (cI, 30, .inl mIm)), (m7, .inl (cI, 5, .inl mWi)), (m8, .inl (cI, 6, .inl mSn)), (m9, .inl (cI, 15, .inl mHe)), (m10, .inl (cI, 384, .inl mFw)), (m11, .inl (cI, 5, .inl mRo)), (m12, .inl (cI, 5, .inl mBe))] H := hP
  have hD : va_D (va_A (wM cI cC cG m0 m1 m2 m3 m4 m5 m6 m7 m8 m9 m10 m11 m12 mTy mKn mKe mCa mSe mAt mFi mSc mTx mTo mDr mSt mPa mIm mWi mSn mHe mFw mRo mBe) sz) [(m0, .inr (9, [.ref m1, .int (nI mTy), .ref m2, .ref m3, .ref m4, .ref m5, .int (nI mKn), .ref m6, .int (nI mKe), .ref m7, .int (nI mCa), .ref m8, .int (nI mSe), .int (nI mAt), .int mFi, .int mSc, .ref m9, .ref m10, .ref m11, .ref m12])), (m1, .inl (cI, 200, .inl mTx)), (m2, .inl (cI, 37, .inl mTo)), (m3, .inl (cI, 37, .inl (upd mDr (21 + (Int32.toNatClampNeg (mDr 1))) p0))), (m4, .inl (cI, 15, .inl mSt)), (m5, .inl (cI, 120, .inl mPa)), (m6, .inl (cI, 30, .inl mIm)), (m7, .inl (cI, 5, .inl mWi)), (m8, .inl (cI, 6, .inl mSn)), (m9, .inl (cI, 15, .inl mHe)), (m10, .inl (cI, 384, .inl mFw)), (m11, .inl (cI, 5, .inl mRo)), (m12, .inl (cI, 5, .inl mBe))] := hD
  refine lv_aload_n hx hb dX9_secretOf_15 rfl (lv_at hl 0 rfl) ?_
  refine va_get (D := D) (ci := 9) (v := .ref m3) (C := RX9) (T := TX9) (N := 20) hx hb hts hinX9 hown hK hP 0 rfl rfl 3 (by decide) hf16 (fun _ h9 => h9) rfl dX9_secretOf_16 ?_
  refine lv_bipush (v := 29) hx hb dX9_secretOf_19 (by decide) ?_
  refine lv_aload_n hx hb dX9_secretOf_21 rfl (lv_at hl 0 rfl) ?_
  refine va_get (D := D) (ci := 9) (v := .ref m3) (C := RX9) (T := TX9) (N := 20) hx hb hts hinX9 hown hK hP 0 rfl rfl 3 (by decide) hf16 (fun _ h9 => h9) rfl dX9_secretOf_22 ?_
  refine lv_iconst (v := 1) hx hb dX9_secretOf_25 (by decide) ?_
  refine q_ialdV (v := (mDr 1)) hx hb hK hP 3 0 rfl rfl (vp_in_nI (n := 1) (N := 37) (by decide) (by decide)) 1 (by decide) (by rw [pk_un (by omega)]) dX9_secretOf_26 ?_
  refine lv_iadd hx hb dX9_secretOf_27 ?_
  refine lv_iload_n hx hb dX9_secretOf_28 rfl (lv_at hl 2 rfl) ?_
  refine lv_iconst (v := 1) hx hb dX9_secretOf_29 (by decide) ?_
  refine lv_iload_n hx hb dX9_secretOf_30 rfl (lv_at hl 1 rfl) ?_
  refine lv_ishl hx hb dX9_secretOf_31 ?_
  refine lv_ior hx hb dX9_secretOf_32 ?_
  refine q_iast hx hb hK hP hD hS 3 0 rfl rfl (in_add 29 (n := 8) hd1 (by decide) (by decide)) (29 + (Int32.toNatClampNeg (mDr 1))) (in_addc 29 (n := 8) (N := 1000) hd1 (by decide) (by decide)) dX9_secretOf_33 (fun H locs hP hD hS => ?_)
  have hP : va_P D vwCl [(m0, .inr (9, [.ref m1, .int (nI mTy), .ref m2, .ref m3, .ref m4, .ref m5, .int (nI mKn), .ref m6, .int (nI mKe), .ref m7, .int (nI mCa), .ref m8, .int (nI mSe), .int (nI mAt), .int mFi, .int mSc, .ref m9, .ref m10, .ref m11, .ref m12])), (m1, .inl (cI, 200, .inl mTx)), (m2, .inl (cI, 37, .inl mTo)), (m3, .inl (cI, 37, .inl (upd (upd mDr (21 + (Int32.toNatClampNeg (mDr 1))) p0) (29 + (Int32.toNatClampNeg (mDr 1))) (p1 ||| ((1 : Int32) <<< (p0 &&& 31)))))), (m4, .inl (cI, 15, .inl mSt)), (m5, .inl (cI, 120, .inl mPa)), (m6, .inl (cI, 30, .inl mIm)), (m7, .inl (cI, 5, .inl mWi)), (m8, .inl (cI, 6, .inl mSn)), (m9, .inl (cI, 15, .inl mHe)), (m10, .inl (cI, 384, .inl mFw)), (m11, .inl (cI, 5, .inl mRo)), (m12, .inl (cI, 5, .inl mBe))] H := hP
  have hD : va_D (va_A (wM cI cC cG m0 m1 m2 m3 m4 m5 m6 m7 m8 m9 m10 m11 m12 mTy mKn mKe mCa mSe mAt mFi mSc mTx mTo mDr mSt mPa mIm mWi mSn mHe mFw mRo mBe) sz) [(m0, .inr (9, [.ref m1, .int (nI mTy), .ref m2, .ref m3, .ref m4, .ref m5, .int (nI mKn), .ref m6, .int (nI mKe), .ref m7, .int (nI mCa), .ref m8, .int (nI mSe), .int (nI mAt), .int mFi, .int mSc, .ref m9, .ref m10, .ref m11, .ref m12])), (m1, .inl (cI, 200, .inl mTx)), (m2, .inl (cI, 37, .inl mTo)), (m3, .inl (cI, 37, .inl (upd (upd mDr (21 + (Int32.toNatClampNeg (mDr 1))) p0) (29 + (Int32.toNatClampNeg (mDr 1))) (p1 ||| ((1 : Int32) <<< (p0 &&& 31)))))), (m4, .inl (cI, 15, .inl mSt)), (m5, .inl (cI, 120, .inl mPa)), (m6, .inl (cI, 30, .inl mIm)), (m7, .inl (cI, 5, .inl mWi)), (m8, .inl (cI, 6, .inl mSn)), (m9, .inl (cI, 15, .inl mHe)), (m10, .inl (cI, 384, .inl mFw)), (m11, .inl (cI, 5, .inl mRo)), (m12, .inl (cI, 5, .inl mBe))] := hD
  refine lv_aload_n hx hb dX9_secretOf_34 rfl (lv_at hl 0 rfl) ?_
  refine va_get (D := D) (ci := 9) (v := .ref m3) (C := RX9) (T := TX9) (N := 20) hx hb hts hinX9 hown hK hP 0 rfl rfl 3 (by decide) hf16 (fun _ h9 => h9) rfl dX9_secretOf_35 ?_
  refine lv_iconst (v := 1) hx hb dX9_secretOf_38 (by decide) ?_
  refine lv_dup2_11 hx hb dX9_secretOf_39 rfl rfl ?_
  refine q_ialdV (v := (mDr 1)) hx hb hK hP 3 0 rfl rfl (vp_in_nI (n := 1) (N := 37) (by decide) (by decide)) 1 (by decide) (by rw [pk_un (by omega), pk_un (by omega)]) dX9_secretOf_40 ?_
  refine lv_iconst (v := 1) hx hb dX9_secretOf_41 (by decide) ?_
  refine lv_iadd hx hb dX9_secretOf_42 ?_
  refine q_iast hx hb hK hP hD hS 3 0 rfl rfl (vp_in_nI (n := 1) (N := 37) (by decide) (by decide)) 1 (by decide) dX9_secretOf_43 (fun H locs hP hD hS => ?_)
  have hP : va_P D vwCl [(m0, .inr (9, [.ref m1, .int (nI mTy), .ref m2, .ref m3, .ref m4, .ref m5, .int (nI mKn), .ref m6, .int (nI mKe), .ref m7, .int (nI mCa), .ref m8, .int (nI mSe), .int (nI mAt), .int mFi, .int mSc, .ref m9, .ref m10, .ref m11, .ref m12])), (m1, .inl (cI, 200, .inl mTx)), (m2, .inl (cI, 37, .inl mTo)), (m3, .inl (cI, 37, .inl (upd (upd (upd mDr (21 + (Int32.toNatClampNeg (mDr 1))) p0) (29 + (Int32.toNatClampNeg (mDr 1))) (p1 ||| ((1 : Int32) <<< (p0 &&& 31)))) 1 ((mDr 1) + 1)))), (m4, .inl (cI, 15, .inl mSt)), (m5, .inl (cI, 120, .inl mPa)), (m6, .inl (cI, 30, .inl mIm)), (m7, .inl (cI, 5, .inl mWi)), (m8, .inl (cI, 6, .inl mSn)), (m9, .inl (cI, 15, .inl mHe)), (m10, .inl (cI, 384, .inl mFw)), (m11, .inl (cI, 5, .inl mRo)), (m12, .inl (cI, 5, .inl mBe))] H := hP
  have hD : va_D (va_A (wM cI cC cG m0 m1 m2 m3 m4 m5 m6 m7 m8 m9 m10 m11 m12 mTy mKn mKe mCa mSe mAt mFi mSc mTx mTo mDr mSt mPa mIm mWi mSn mHe mFw mRo mBe) sz) [(m0, .inr (9, [.ref m1, .int (nI mTy), .ref m2, .ref m3, .ref m4, .ref m5, .int (nI mKn), .ref m6, .int (nI mKe), .ref m7, .int (nI mCa), .ref m8, .int (nI mSe), .int (nI mAt), .int mFi, .int mSc, .ref m9, .ref m10, .ref m11, .ref m12])), (m1, .inl (cI, 200, .inl mTx)), (m2, .inl (cI, 37, .inl mTo)), (m3, .inl (cI, 37, .inl (upd (upd (upd mDr (21 + (Int32.toNatClampNeg (mDr 1))) p0) (29 + (Int32.toNatClampNeg (mDr 1))) (p1 ||| ((1 : Int32) <<< (p0 &&& 31)))) 1 ((mDr 1) + 1)))), (m4, .inl (cI, 15, .inl mSt)), (m5, .inl (cI, 120, .inl mPa)), (m6, .inl (cI, 30, .inl mIm)), (m7, .inl (cI, 5, .inl mWi)), (m8, .inl (cI, 6, .inl mSn)), (m9, .inl (cI, 15, .inl mHe)), (m10, .inl (cI, 384, .inl mFw)), (m11, .inl (cI, 5, .inl mRo)), (m12, .inl (cI, 5, .inl mBe))] := hD
  have e_1 : (g_X9_secretOf_mDr mDr p0 p1) = (upd (upd (upd mDr (21 + (Int32.toNatClampNeg (mDr 1))) p0) (29 + (Int32.toNatClampNeg (mDr 1))) (p1 ||| ((1 : Int32) <<< (p0 &&& 31)))) 1 ((mDr 1) + 1)) := by simp only [g_X9_secretOf_mDr]
  exact rw_vret hx hb hr hlocks hP hD hS (by rw [e_1] <;> rfl) dX9_secretOf_44
def F_X9_lays_2 (mDr : Nat → Int32) (i0_ : Nat → Int32) : Nat → (Nat → Int32)
  | 0 => i0_
  | j2_ + 1 => (upd (F_X9_lays_2 mDr i0_ j2_) j2_ (mDr j2_))
def F_X9_lays_28 (mTo : Nat → Int32) (i0_ : Nat → Int32) : Nat → (Nat → Int32)
  | 0 => i0_
  | j28_ + 1 => (if 6 ≤ (nI j28_) then (if 14 ≤ (nI j28_) then (upd (F_X9_lays_28 mTo i0_ j28_) j28_ 0) else (upd (F_X9_lays_28 mTo i0_ j28_) j28_ ((mTo ((29 + j28_) - 6)) &&& (((1 : Int32) <<< ((mTo 0) &&& 31)) - 1)))) else (upd (F_X9_lays_28 mTo i0_ j28_) j28_ (mTo (3 + j28_))))
def g_X9_lays_mKn  : Nat := 0
def g_X9_lays_mKe  : Nat := 0
def g_X9_lays_mCa  : Nat := 0
def g_X9_lays_mSe  : Nat := 0
def g_X9_lays_mTo (mTo : Nat → Int32) (mDr : Nat → Int32) : Nat → Int32 := (F_X9_lays_2 mDr mTo 37)
def g_X9_lays_mSt (mTo : Nat → Int32) (mDr : Nat → Int32) (mSt : Nat → Int32) : Nat → Int32 := (F_X9_lays_28 (F_X9_lays_2 mDr mTo 37) mSt 15)
abbrev rm_X9_lays : Room := { frames := 0, cells := 0, slots := 0, locals := 0 }
set_option maxRecDepth 100000 in
set_option maxHeartbeats 4000000 in
theorem c_X9_lays (l : Launch) (D : va_G) (cI cC cG : ClassId) (m0 : Nat) (m1 : Nat) (m2 : Nat) (m3 : Nat) (m4 : Nat) (m5 : Nat) (m6 : Nat) (m7 : Nat) (m8 : Nat) (m9 : Nat) (m10 : Nat) (m11 : Nat) (m12 : Nat) (mTy : Nat) (mKn : Nat) (mKe : Nat) (mCa : Nat) (mSe : Nat) (mAt : Nat) (mFi : Int32) (mSc : Int32) (mTx : Nat → Int32) (mTo : Nat → Int32) (mDr : Nat → Int32) (mSt : Nat → Int32) (mPa : Nat → Int32) (mIm : Nat → Int32) (mWi : Nat → Int32) (mSn : Nat → Int32) (mHe : Nat → Int32) (mFw : Nat → Int32) (mRo : Nat → Int32) (mBe : Nat → Int32) (sz : Nat) : RwV l yX9_lays wsX9_lays rm_X9_lays D (q_t cI cC cG) (wM cI cC cG m0 m1 m2 m3 m4 m5 m6 m7 m8 m9 m10 m11 m12 mTy mKn mKe mCa mSe mAt mFi mSc mTx mTo mDr mSt mPa mIm mWi mSn mHe mFw mRo mBe) (wM cI cC cG m0 m1 m2 m3 m4 m5 m6 m7 m8 m9 m10 m11 m12 mTy g_X9_lays_mKn g_X9_lays_mKe g_X9_lays_mCa g_X9_lays_mSe mAt mFi mSc mTx (g_X9_lays_mTo mTo mDr) mDr (g_X9_lays_mSt mTo mDr mSt) mPa mIm mWi mSn mHe mFw mRo mBe) sz [.ref m0] := by
  refine rw_enter (cc := cX9_lays) (maxL := 2) (ret := none) (by decide) rfl (Nat.le_of_ble_eq_true rfl) ?_
  intro p e s m below meth c ls B hP hK hD hS hA hl
  obtain ⟨hx, hb, hr, hlocks, hml, hown, hts, hN⟩ := B
  have hown : s.vm.findClass RX9 = some m.cls := hown
  have hl : lv_has ls 2 [(0, .ref m0)] := hl
  have hf104 := hts (.fieldLink RX9 104 "OlderByABlushModel" "known" "I") (by decide +kernel)
  have hinX9 : ∀ w ∈ u_ws RX9 TX9 20, w ∈ wsX9_lays := by decide +kernel
  have hf107 := hts (.fieldLink RX9 107 "OlderByABlushModel" "kept" "I") (by decide +kernel)
  have hf110 := hts (.fieldLink RX9 110 "OlderByABlushModel" "called" "I") (by decide +kernel)
  have hf113 := hts (.fieldLink RX9 113 "OlderByABlushModel" "seens" "I") (by decide +kernel)
  have hf19 := hts (.fieldLink RX9 19 "OlderByABlushModel" "s" "[I") (by decide +kernel)
  have hf13 := hts (.fieldLink RX9 13 "OlderByABlushModel" "told" "[I") (by decide +kernel)
  have hf16 := hts (.fieldLink RX9 16 "OlderByABlushModel" "draft" "[I") (by decide +kernel)
  refine lv_iconst (v := 0) hx hb dX9_lays_0 (by decide) ?_
  refine lv_istore_n (lv' := [(1, .int 0), (0, .ref m0)]) hx hb dX9_lays_1 rfl hl (by decide) rfl (fun ls hl => ?_)
  have K2_ : ∀ (H : Heap) (locs : List Loc), va_P D vwCl [(m0, .inr (9, [.ref m1, .int (nI mTy), .ref m2, .ref m3, .ref m4, .ref m5, .int (nI mKn), .ref m6, .int (nI mKe), .ref m7, .int (nI mCa), .ref m8, .int (nI mSe), .int (nI mAt), .int mFi, .int mSc, .ref m9, .ref m10, .ref m11, .ref m12])), (m1, .inl (cI, 200, .inl mTx)), (m2, .inl (cI, 37, .inl (F_X9_lays_2 mDr mTo 37))), (m3, .inl (cI, 37, .inl mDr)), (m4, .inl (cI, 15, .inl mSt)), (m5, .inl (cI, 120, .inl mPa)), (m6, .inl (cI, 30, .inl mIm)), (m7, .inl (cI, 5, .inl mWi)), (m8, .inl (cI, 6, .inl mSn)), (m9, .inl (cI, 15, .inl mHe)), (m10, .inl (cI, 384, .inl mFw)), (m11, .inl (cI, 5, .inl mRo)), (m12, .inl (cI, 5, .inl mBe))] H → va_D (va_A (wM cI cC cG m0 m1 m2 m3 m4 m5 m6 m7 m8 m9 m10 m11 m12 mTy mKn mKe mCa mSe mAt mFi mSc mTx mTo mDr mSt mPa mIm mWi mSn mHe mFw mRo mBe) sz) [(m0, .inr (9, [.ref m1, .int (nI mTy), .ref m2, .ref m3, .ref m4, .ref m5, .int (nI mKn), .ref m6, .int (nI mKe), .ref m7, .int (nI mCa), .ref m8, .int (nI mSe), .int (nI mAt), .int mFi, .int mSc, .ref m9, .ref m10, .ref m11, .ref m12])), (m1, .inl (cI, 200, .inl mTx)), (m2, .inl (cI, 37, .inl (F_X9_lays_2 mDr mTo 37))), (m3, .inl (cI, 37, .inl mDr)), (m4, .inl (cI, 15, .inl mSt)), (m5, .inl (cI, 120, .inl mPa)), (m6, .inl (cI, 30, .inl mIm)), (m7, .inl (cI, 5, .inl mWi)), (m8, .inl (cI, 6, .inl mSn)), (m9, .inl (cI, 15, .inl mHe)), (m10, .inl (cI, 384, .inl mFw)), (m11, .inl (cI, 5, .inl mRo)), (m12, .inl (cI, 5, .inl mBe))] → va_S (va_A (wM cI cC cG m0 m1 m2 m3 m4 m5 m6 m7 m8 m9 m10 m11 m12 mTy mKn mKe mCa mSe mAt mFi mSc mTx mTo mDr mSt mPa mIm mWi mSn mHe mFw mRo mBe) sz) s.heap H locs → ∀ ls : Array Slot, lv_has ls 2 [(0, .ref m0)] → W p l e rm_X9_lays s m ([.ref m0] : List Value).toArray below meth c H locs 0 0 (MQ below (q_QWv D (wM cI cC cG m0 m1 m2 m3 m4 m5 m6 m7 m8 m9 m10 m11 m12 mTy mKn mKe mCa mSe mAt mFi mSc mTx mTo mDr mSt mPa mIm mWi mSn mHe mFw mRo mBe) (wM cI cC cG m0 m1 m2 m3 m4 m5 m6 m7 m8 m9 m10 m11 m12 mTy g_X9_lays_mKn g_X9_lays_mKe g_X9_lays_mCa g_X9_lays_mSe mAt mFi mSc mTx (g_X9_lays_mTo mTo mDr) mDr (g_X9_lays_mSt mTo mDr mSt) mPa mIm mWi mSn mHe mFw mRo mBe) sz) ([.ref m0] : List Value).toArray s 0 0 (va_A (wM cI cC cG m0 m1 m2 m3 m4 m5 m6 m7 m8 m9 m10 m11 m12 mTy mKn mKe mCa mSe mAt mFi mSc mTx mTo mDr mSt mPa mIm mWi mSn mHe mFw mRo mBe) sz)) (F0 m 26 ls []) := by
    intro H locs hP hD hS ls hl
    refine lv_iconst (v := 0) hx hb dX9_lays_26 (by decide) ?_
    refine lv_istore_n (lv' := [(1, .int 0), (0, .ref m0)]) hx hb dX9_lays_27 rfl hl (by decide) rfl (fun ls hl => ?_)
    have K28_ : ∀ (H : Heap) (locs : List Loc), va_P D vwCl [(m0, .inr (9, [.ref m1, .int (nI mTy), .ref m2, .ref m3, .ref m4, .ref m5, .int (nI mKn), .ref m6, .int (nI mKe), .ref m7, .int (nI mCa), .ref m8, .int (nI mSe), .int (nI mAt), .int mFi, .int mSc, .ref m9, .ref m10, .ref m11, .ref m12])), (m1, .inl (cI, 200, .inl mTx)), (m2, .inl (cI, 37, .inl (F_X9_lays_2 mDr mTo 37))), (m3, .inl (cI, 37, .inl mDr)), (m4, .inl (cI, 15, .inl (F_X9_lays_28 (F_X9_lays_2 mDr mTo 37) mSt 15))), (m5, .inl (cI, 120, .inl mPa)), (m6, .inl (cI, 30, .inl mIm)), (m7, .inl (cI, 5, .inl mWi)), (m8, .inl (cI, 6, .inl mSn)), (m9, .inl (cI, 15, .inl mHe)), (m10, .inl (cI, 384, .inl mFw)), (m11, .inl (cI, 5, .inl mRo)), (m12, .inl (cI, 5, .inl mBe))] H → va_D (va_A (wM cI cC cG m0 m1 m2 m3 m4 m5 m6 m7 m8 m9 m10 m11 m12 mTy mKn mKe mCa mSe mAt mFi mSc mTx mTo mDr mSt mPa mIm mWi mSn mHe mFw mRo mBe) sz) [(m0, .inr (9, [.ref m1, .int (nI mTy), .ref m2, .ref m3, .ref m4, .ref m5, .int (nI mKn), .ref m6, .int (nI mKe), .ref m7, .int (nI mCa), .ref m8, .int (nI mSe), .int (nI mAt), .int mFi, .int mSc, .ref m9, .ref m10, .ref m11, .ref m12])), (m1, .inl (cI, 200, .inl mTx)), (m2, .inl (cI, 37, .inl (F_X9_lays_2 mDr mTo 37))), (m3, .inl (cI, 37, .inl mDr)), (m4, .inl (cI, 15, .inl (F_X9_lays_28 (F_X9_lays_2 mDr mTo 37) mSt 15))), (m5, .inl (cI, 120, .inl mPa)), (m6, .inl (cI, 30, .inl mIm)), (m7, .inl (cI, 5, .inl mWi)), (m8, .inl (cI, 6, .inl mSn)), (m9, .inl (cI, 15, .inl mHe)), (m10, .inl (cI, 384, .inl mFw)), (m11, .inl (cI, 5, .inl mRo)), (m12, .inl (cI, 5, .inl mBe))] → va_S (va_A (wM cI cC cG m0 m1 m2 m3 m4 m5 m6 m7 m8 m9 m10 m11 m12 mTy mKn mKe mCa mSe mAt mFi mSc mTx mTo mDr mSt mPa mIm mWi mSn mHe mFw mRo mBe) sz) s.heap H locs → ∀ ls : Array Slot, lv_has ls 2 [(0, .ref m0)] → W p l e rm_X9_lays s m ([.ref m0] : List Value).toArray below meth c H locs 0 0 (MQ below (q_QWv D (wM cI cC cG m0 m1 m2 m3 m4 m5 m6 m7 m8 m9 m10 m11 m12 mTy mKn mKe mCa mSe mAt mFi mSc mTx mTo mDr mSt mPa mIm mWi mSn mHe mFw mRo mBe) (wM cI cC cG m0 m1 m2 m3 m4 m5 m6 m7 m8 m9 m10 m11 m12 mTy g_X9_lays_mKn g_X9_lays_mKe g_X9_lays_mCa g_X9_lays_mSe mAt mFi mSc mTx (g_X9_lays_mTo mTo mDr) mDr (g_X9_lays_mSt mTo mDr mSt) mPa mIm mWi mSn mHe mFw mRo mBe) sz) ([.ref m0] : List Value).toArray s 0 0 (va_A (wM cI cC cG m0 m1 m2 m3 m4 m5 m6 m7 m8 m9 m10 m11 m12 mTy mKn mKe mCa mSe mAt mFi mSc mTx mTo mDr mSt mPa mIm mWi mSn mHe mFw mRo mBe) sz)) (F0 m 96 ls []) := by
      intro H locs hP hD hS ls hl
      refine lv_aload_n hx hb dX9_lays_96 rfl (lv_at hl 0 rfl) ?_
      refine lv_iconst (v := 0) hx hb dX9_lays_97 (by decide) ?_
      refine va_put (D := D) (ci := 9) (v := .int 0) (ty := .int) (C := RX9) (T := TX9) (N := 20) hx hb hts hinX9 tyX9 tyX9_ok nmX9 hown hK hP hD hS 0 rfl rfl 6 (by decide) hf104 (fun _ h9 => h9) rfl (by decide +kernel) rfl rfl (Nat.le_of_ble_eq_true rfl) dX9_lays_98 (fun H locs hP hD hS => ?_)
      have hP : va_P D vwCl [(m0, .inr (9, [.ref m1, .int (nI mTy), .ref m2, .ref m3, .ref m4, .ref m5, .int 0, .ref m6, .int (nI mKe), .ref m7, .int (nI mCa), .ref m8, .int (nI mSe), .int (nI mAt), .int mFi, .int mSc, .ref m9, .ref m10, .ref m11, .ref m12])), (m1, .inl (cI, 200, .inl mTx)), (m2, .inl (cI, 37, .inl (F_X9_lays_2 mDr mTo 37))), (m3, .inl (cI, 37, .inl mDr)), (m4, .inl (cI, 15, .inl (F_X9_lays_28 (F_X9_lays_2 mDr mTo 37) mSt 15))), (m5, .inl (cI, 120, .inl mPa)), (m6, .inl (cI, 30, .inl mIm)), (m7, .inl (cI, 5, .inl mWi)), (m8, .inl (cI, 6, .inl mSn)), (m9, .inl (cI, 15, .inl mHe)), (m10, .inl (cI, 384, .inl mFw)), (m11, .inl (cI, 5, .inl mRo)), (m12, .inl (cI, 5, .inl mBe))] H := hP
      have hD : va_D (va_A (wM cI cC cG m0 m1 m2 m3 m4 m5 m6 m7 m8 m9 m10 m11 m12 mTy mKn mKe mCa mSe mAt mFi mSc mTx mTo mDr mSt mPa mIm mWi mSn mHe mFw mRo mBe) sz) [(m0, .inr (9, [.ref m1, .int (nI mTy), .ref m2, .ref m3, .ref m4, .ref m5, .int 0, .ref m6, .int (nI mKe), .ref m7, .int (nI mCa), .ref m8, .int (nI mSe), .int (nI mAt), .int mFi, .int mSc, .ref m9, .ref m10, .ref m11, .ref m12])), (m1, .inl (cI, 200, .inl mTx)), (m2, .inl (cI, 37, .inl (F_X9_lays_2 mDr mTo 37))), (m3, .inl (cI, 37, .inl mDr)), (m4, .inl (cI, 15, .inl (F_X9_lays_28 (F_X9_lays_2 mDr mTo 37) mSt 15))), (m5, .inl (cI, 120, .inl mPa)), (m6, .inl (cI, 30, .inl mIm)), (m7, .inl (cI, 5, .inl mWi)), (m8, .inl (cI, 6, .inl mSn)), (m9, .inl (cI, 15, .inl mHe)), (m10, .inl (cI, 384, .inl mFw)), (m11, .inl (cI, 5, .inl mRo)), (m12, .inl (cI, 5, .inl mBe))] := hD
      refine lv_aload_n hx hb dX9_lays_101 rfl (lv_at hl 0 rfl) ?_
      refine lv_iconst (v := 0) hx hb dX9_lays_102 (by decide) ?_
      refine va_put (D := D) (ci := 9) (v := .int 0) (ty := .int) (C := RX9) (T := TX9) (N := 20) hx hb hts hinX9 tyX9 tyX9_ok nmX9 hown hK hP hD hS 0 rfl rfl 8 (by decide) hf107 (fun _ h9 => h9) rfl (by decide +kernel) rfl rfl (Nat.le_of_ble_eq_true rfl) dX9_lays_103 (fun H locs hP hD hS => ?_)
      have hP : va_P D vwCl [(m0, .inr (9, [.ref m1, .int (nI mTy), .ref m2, .ref m3, .ref m4, .ref m5, .int 0, .ref m6, .int 0, .ref m7, .int (nI mCa), .ref m8, .int (nI mSe), .int (nI mAt), .int mFi, .int mSc, .ref m9, .ref m10, .ref m11, .ref m12])), (m1, .inl (cI, 200, .inl mTx)), (m2, .inl (cI, 37, .inl (F_X9_lays_2 mDr mTo 37))), (m3, .inl (cI, 37, .inl mDr)), (m4, .inl (cI, 15, .inl (F_X9_lays_28 (F_X9_lays_2 mDr mTo 37) mSt 15))), (m5, .inl (cI, 120, .inl mPa)), (m6, .inl (cI, 30, .inl mIm)), (m7, .inl (cI, 5, .inl mWi)), (m8, .inl (cI, 6, .inl mSn)), (m9, .inl (cI, 15, .inl mHe)), (m10, .inl (cI, 384, .inl mFw)), (m11, .inl (cI, 5, .inl mRo)), (m12, .inl (cI, 5, .inl mBe))] H := hP
      have hD : va_D (va_A (wM cI cC cG m0 m1 m2 m3 m4 m5 m6 m7 m8 m9 m10 m11 m12 mTy mKn mKe mCa mSe mAt mFi mSc mTx mTo mDr mSt mPa mIm mWi mSn mHe mFw mRo mBe) sz) [(m0, .inr (9, [.ref m1, .int (nI mTy), .ref m2, .ref m3, .ref m4, .ref m5, .int 0, .ref m6, .int 0, .ref m7, .int (nI mCa), .ref m8, .int (nI mSe), .int (nI mAt), .int mFi, .int mSc, .ref m9, .ref m10, .ref m11, .ref m12])), (m1, .inl (cI, 200, .inl mTx)), (m2, .inl (cI, 37, .inl (F_X9_lays_2 mDr mTo 37))), (m3, .inl (cI, 37, .inl mDr)), (m4, .inl (cI, 15, .inl (F_X9_lays_28 (F_X9_lays_2 mDr mTo 37) mSt 15))), (m5, .inl (cI, 120, .inl mPa)), (m6, .inl (cI, 30, .inl mIm)), (m7, .inl (cI, 5, .inl mWi)), (m8, .inl (cI, 6, .inl mSn)), (m9, .inl (cI, 15, .inl mHe)), (m10, .inl (cI, 384, .inl mFw)), (m11, .inl (cI, 5, .inl mRo)), (m12, .inl (cI, 5, .inl mBe))] := hD
      refine lv_aload_n hx hb dX9_lays_106 rfl (lv_at hl 0 rfl) ?_
      refine lv_iconst (v := 0) hx hb dX9_lays_107 (by decide) ?_
      refine va_put (D := D) (ci := 9) (v := .int 0) (ty := .int) (C := RX9) (T := TX9) (N := 20) hx hb hts hinX9 tyX9 tyX9_ok nmX9 hown hK hP hD hS 0 rfl rfl 10 (by decide) hf110 (fun _ h9 => h9) rfl (by decide +kernel) rfl rfl (Nat.le_of_ble_eq_true rfl) dX9_lays_108 (fun H locs hP hD hS => ?_)
      have hP : va_P D vwCl [(m0, .inr (9, [.ref m1, .int (nI mTy), .ref m2, .ref m3, .ref m4, .ref m5, .int 0, .ref m6, .int 0, .ref m7, .int 0, .ref m8, .int (nI mSe), .int (nI mAt), .int mFi, .int mSc, .ref m9, .ref m10, .ref m11, .ref m12])), (m1, .inl (cI, 200, .inl mTx)), (m2, .inl (cI, 37, .inl (F_X9_lays_2 mDr mTo 37))), (m3, .inl (cI, 37, .inl mDr)), (m4, .inl (cI, 15, .inl (F_X9_lays_28 (F_X9_lays_2 mDr mTo 37) mSt 15))), (m5, .inl (cI, 120, .inl mPa)), (m6, .inl (cI, 30, .inl mIm)), (m7, .inl (cI, 5, .inl mWi)), (m8, .inl (cI, 6, .inl mSn)), (m9, .inl (cI, 15, .inl mHe)), (m10, .inl (cI, 384, .inl mFw)), (m11, .inl (cI, 5, .inl mRo)), (m12, .inl (cI, 5, .inl mBe))] H := hP
      have hD : va_D (va_A (wM cI cC cG m0 m1 m2 m3 m4 m5 m6 m7 m8 m9 m10 m11 m12 mTy mKn mKe mCa mSe mAt mFi mSc mTx mTo mDr mSt mPa mIm mWi mSn mHe mFw mRo mBe) sz) [(m0, .inr (9, [.ref m1, .int (nI mTy), .ref m2, .ref m3, .ref m4, .ref m5, .int 0, .ref m6, .int 0, .ref m7, .int 0, .ref m8, .int (nI mSe), .int (nI mAt), .int mFi, .int mSc, .ref m9, .ref m10, .ref m11, .ref m12])), (m1, .inl (cI, 200, .inl mTx)), (m2, .inl (cI, 37, .inl (F_X9_lays_2 mDr mTo 37))), (m3, .inl (cI, 37, .inl mDr)), (m4, .inl (cI, 15, .inl (F_X9_lays_28 (F_X9_lays_2 mDr mTo 37) mSt 15))), (m5, .inl (cI, 120, .inl mPa)), (m6, .inl (cI, 30, .inl mIm)), (m7, .inl (cI, 5, .inl mWi)), (m8, .inl (cI, 6, .inl mSn)), (m9, .inl (cI, 15, .inl mHe)), (m10, .inl (cI, 384, .inl mFw)), (m11, .inl (cI, 5, .inl mRo)), (m12, .inl (cI, 5, .inl mBe))] := hD
      refine lv_aload_n hx hb dX9_lays_111 rfl (lv_at hl 0 rfl) ?_
      refine lv_iconst (v := 0) hx hb dX9_lays_112 (by decide) ?_
      refine va_put (D := D) (ci := 9) (v := .int 0) (ty := .int) (C := RX9) (T := TX9) (N := 20) hx hb hts hinX9 tyX9 tyX9_ok nmX9 hown hK hP hD hS 0 rfl rfl 12 (by decide) hf113 (fun _ h9 => h9) rfl (by decide +kernel) rfl rfl (Nat.le_of_ble_eq_true rfl) dX9_lays_113 (fun H locs hP hD hS => ?_)
      have hP : va_P D vwCl [(m0, .inr (9, [.ref m1, .int (nI mTy), .ref m2, .ref m3, .ref m4, .ref m5, .int 0, .ref m6, .int 0, .ref m7, .int 0, .ref m8, .int 0, .int (nI mAt), .int mFi, .int mSc, .ref m9, .ref m10, .ref m11, .ref m12])), (m1, .inl (cI, 200, .inl mTx)), (m2, .inl (cI, 37, .inl (F_X9_lays_2 mDr mTo 37))), (m3, .inl (cI, 37, .inl mDr)), (m4, .inl (cI, 15, .inl (F_X9_lays_28 (F_X9_lays_2 mDr mTo 37) mSt 15))), (m5, .inl (cI, 120, .inl mPa)), (m6, .inl (cI, 30, .inl mIm)), (m7, .inl (cI, 5, .inl mWi)), (m8, .inl (cI, 6, .inl mSn)), (m9, .inl (cI, 15, .inl mHe)), (m10, .inl (cI, 384, .inl mFw)), (m11, .inl (cI, 5, .inl mRo)), (m12, .inl (cI, 5, .inl mBe))] H := hP
      have hD : va_D (va_A (wM cI cC cG m0 m1 m2 m3 m4 m5 m6 m7 m8 m9 m10 m11 m12 mTy mKn mKe mCa mSe mAt mFi mSc mTx mTo mDr mSt mPa mIm mWi mSn mHe mFw mRo mBe) sz) [(m0, .inr (9, [.ref m1, .int (nI mTy), .ref m2, .ref m3, .ref m4, .ref m5, .int 0, .ref m6, .int 0, .ref m7, .int 0, .ref m8, .int 0, .int (nI mAt), .int mFi, .int mSc, .ref m9, .ref m10, .ref m11, .ref m12])), (m1, .inl (cI, 200, .inl mTx)), (m2, .inl (cI, 37, .inl (F_X9_lays_2 mDr mTo 37))), (m3, .inl (cI, 37, .inl mDr)), (m4, .inl (cI, 15, .inl (F_X9_lays_28 (F_X9_lays_2 mDr mTo 37) mSt 15))), (m5, .inl (cI, 120, .inl mPa)), (m6, .inl (cI, 30, .inl mIm)), (m7, .inl (cI, 5, .inl mWi)), (m8, .inl (cI, 6, .inl mSn)), (m9, .inl (cI, 15, .inl mHe)), (m10, .inl (cI, 384, .inl mFw)), (m11, .inl (cI, 5, .inl mRo)), (m12, .inl (cI, 5, .inl mBe))] := hD
      have e_1 : g_X9_lays_mKn = 0 := by simp only [g_X9_lays_mKn]
      have e_2 : g_X9_lays_mKe = 0 := by simp only [g_X9_lays_mKe]
      have e_3 : g_X9_lays_mCa = 0 := by simp only [g_X9_lays_mCa]
      have e_4 : g_X9_lays_mSe = 0 := by simp only [g_X9_lays_mSe]
      have e_5 : (g_X9_lays_mTo mTo mDr) = (F_X9_lays_2 mDr mTo 37) := by simp only [g_X9_lays_mTo]
      have e_6 : (g_X9_lays_mSt mTo mDr mSt) = (F_X9_lays_28 (F_X9_lays_2 mDr mTo 37) mSt 15) := by simp only [g_X9_lays_mSt]
      exact rw_vret hx hb hr hlocks hP hD hS (by rw [e_1, e_2, e_3, e_4, e_5, e_6] <;> rfl) dX9_lays_116
    have loop28_ : ∀ (n28_ j28_ : Nat), j28_ + n28_ = 15 → ∀ (H : Heap) (locs : List Loc), va_P D vwCl [(m0, .inr (9, [.ref m1, .int (nI mTy), .ref m2, .ref m3, .ref m4, .ref m5, .int (nI mKn), .ref m6, .int (nI mKe), .ref m7, .int (nI mCa), .ref m8, .int (nI mSe), .int (nI mAt), .int mFi, .int mSc, .ref m9, .ref m10, .ref m11, .ref m12])), (m1, .inl (cI, 200, .inl mTx)), (m2, .inl (cI, 37, .inl (F_X9_lays_2 mDr mTo 37))), (m3, .inl (cI, 37, .inl mDr)), (m4, .inl (cI, 15, .inl (F_X9_lays_28 (F_X9_lays_2 mDr mTo 37) mSt j28_))), (m5, .inl (cI, 120, .inl mPa)), (m6, .inl (cI, 30, .inl mIm)), (m7, .inl (cI, 5, .inl mWi)), (m8, .inl (cI, 6, .inl mSn)), (m9, .inl (cI, 15, .inl mHe)), (m10, .inl (cI, 384, .inl mFw)), (m11, .inl (cI, 5, .inl mRo)), (m12, .inl (cI, 5, .inl mBe))] H → va_D (va_A (wM cI cC cG m0 m1 m2 m3 m4 m5 m6 m7 m8 m9 m10 m11 m12 mTy mKn mKe mCa mSe mAt mFi mSc mTx mTo mDr mSt mPa mIm mWi mSn mHe mFw mRo mBe) sz) [(m0, .inr (9, [.ref m1, .int (nI mTy), .ref m2, .ref m3, .ref m4, .ref m5, .int (nI mKn), .ref m6, .int (nI mKe), .ref m7, .int (nI mCa), .ref m8, .int (nI mSe), .int (nI mAt), .int mFi, .int mSc, .ref m9, .ref m10, .ref m11, .ref m12])), (m1, .inl (cI, 200, .inl mTx)), (m2, .inl (cI, 37, .inl (F_X9_lays_2 mDr mTo 37))), (m3, .inl (cI, 37, .inl mDr)), (m4, .inl (cI, 15, .inl (F_X9_lays_28 (F_X9_lays_2 mDr mTo 37) mSt j28_))), (m5, .inl (cI, 120, .inl mPa)), (m6, .inl (cI, 30, .inl mIm)), (m7, .inl (cI, 5, .inl mWi)), (m8, .inl (cI, 6, .inl mSn)), (m9, .inl (cI, 15, .inl mHe)), (m10, .inl (cI, 384, .inl mFw)), (m11, .inl (cI, 5, .inl mRo)), (m12, .inl (cI, 5, .inl mBe))] → va_S (va_A (wM cI cC cG m0 m1 m2 m3 m4 m5 m6 m7 m8 m9 m10 m11 m12 mTy mKn mKe mCa mSe mAt mFi mSc mTx mTo mDr mSt mPa mIm mWi mSn mHe mFw mRo mBe) sz) s.heap H locs → ∀ ls : Array Slot, lv_has ls 2 [(0, .ref m0), (1, .int (nI j28_))] → W p l e rm_X9_lays s m ([.ref m0] : List Value).toArray below meth c H locs 0 0 (MQ below (q_QWv D (wM cI cC cG m0 m1 m2 m3 m4 m5 m6 m7 m8 m9 m10 m11 m12 mTy mKn mKe mCa mSe mAt mFi mSc mTx mTo mDr mSt mPa mIm mWi mSn mHe mFw mRo mBe) (wM cI cC cG m0 m1 m2 m3 m4 m5 m6 m7 m8 m9 m10 m11 m12 mTy g_X9_lays_mKn g_X9_lays_mKe g_X9_lays_mCa g_X9_lays_mSe mAt mFi mSc mTx (g_X9_lays_mTo mTo mDr) mDr (g_X9_lays_mSt mTo mDr mSt) mPa mIm mWi mSn mHe mFw mRo mBe) sz) ([.ref m0] : List Value).toArray s 0 0 (va_A (wM cI cC cG m0 m1 m2 m3 m4 m5 m6 m7 m8 m9 m10 m11 m12 mTy mKn mKe mCa mSe mAt mFi mSc mTx mTo mDr mSt mPa mIm mWi mSn mHe mFw mRo mBe) sz)) (F0 m 28 ls []) := by
      intro n28_
      induction n28_ with
      | zero =>
        intro j28_ hj28_ H locs hP hD hS ls hl
        obtain rfl : j28_ = 15 := by omega
        refine lv_iload_n hx hb dX9_lays_28 rfl (lv_at hl 1 rfl) ?_
        refine lv_bipush (v := 15) hx hb dX9_lays_29 (by decide) ?_
        refine lv_icmp_ge (tgt := 96) hx hb dX9_lays_31 (by decide) (fun c_7 => ?_) (fun c_7 => ?_)
        rotate_left
        · exact absurd (nI_le (Nat.le_refl 15) (by decide)) c_7
        exact K28_ _ _ hP hD hS _ (lv_sub hl [0] rfl)
      | succ n28_ ih28_ =>
        intro j28_ hj28_ H locs hP hD hS ls hl
        refine lv_iload_n hx hb dX9_lays_28 rfl (lv_at hl 1 rfl) ?_
        refine lv_bipush (v := 15) hx hb dX9_lays_29 (by decide) ?_
        refine lv_icmp_ge (tgt := 96) hx hb dX9_lays_31 (by decide) (fun c_8 => ?_) (fun c_8 => ?_)
        · exact absurd c_8 (nI_ge (b := 15) (by omega) (by decide))
        refine lv_aload_n hx hb dX9_lays_34 rfl (lv_at hl 0 rfl) ?_
        refine va_get (D := D) (ci := 9) (v := .ref m4) (C := RX9) (T := TX9) (N := 20) hx hb hts hinX9 hown hK hP 0 rfl rfl 4 (by decide) hf19 (fun _ h9 => h9) rfl dX9_lays_35 ?_
        refine lv_iload_n hx hb dX9_lays_38 rfl (lv_at hl 1 rfl) ?_
        refine lv_iload_n hx hb dX9_lays_39 rfl (lv_at hl 1 rfl) ?_
        refine lv_bipush (v := 6) hx hb dX9_lays_40 (by decide) ?_
        refine lv_icmp_ge (tgt := 56) hx hb dX9_lays_42 (by decide) (fun c_9 => ?_) (fun c_9 => ?_)
        · have nc_9 := k_leT (a := 6) (b := j28_) (by omega) (by omega) c_9
          refine lv_iload_n hx hb dX9_lays_56 rfl (lv_at hl 1 rfl) ?_
          refine lv_bipush (v := 14) hx hb dX9_lays_57 (by decide) ?_
          refine lv_icmp_ge (tgt := 88) hx hb dX9_lays_59 (by decide) (fun c_10 => ?_) (fun c_10 => ?_)
          · have nc_10 := k_leT (a := 14) (b := j28_) (by omega) (by omega) c_10
            refine lv_iconst (v := 0) hx hb dX9_lays_88 (by decide) ?_
            refine q_iast hx hb hK hP hD hS 4 0 rfl rfl (vp_in_nI (by omega) (by decide)) j28_ (nI_clamp (by omega)) dX9_lays_89 (fun H locs hP hD hS => ?_)
            have hP : va_P D vwCl [(m0, .inr (9, [.ref m1, .int (nI mTy), .ref m2, .ref m3, .ref m4, .ref m5, .int (nI mKn), .ref m6, .int (nI mKe), .ref m7, .int (nI mCa), .ref m8, .int (nI mSe), .int (nI mAt), .int mFi, .int mSc, .ref m9, .ref m10, .ref m11, .ref m12])), (m1, .inl (cI, 200, .inl mTx)), (m2, .inl (cI, 37, .inl (F_X9_lays_2 mDr mTo 37))), (m3, .inl (cI, 37, .inl mDr)), (m4, .inl (cI, 15, .inl (upd (F_X9_lays_28 (F_X9_lays_2 mDr mTo 37) mSt j28_) j28_ 0))), (m5, .inl (cI, 120, .inl mPa)), (m6, .inl (cI, 30, .inl mIm)), (m7, .inl (cI, 5, .inl mWi)), (m8, .inl (cI, 6, .inl mSn)), (m9, .inl (cI, 15, .inl mHe)), (m10, .inl (cI, 384, .inl mFw)), (m11, .inl (cI, 5, .inl mRo)), (m12, .inl (cI, 5, .inl mBe))] H := hP
            have hD : va_D (va_A (wM cI cC cG m0 m1 m2 m3 m4 m5 m6 m7 m8 m9 m10 m11 m12 mTy mKn mKe mCa mSe mAt mFi mSc mTx mTo mDr mSt mPa mIm mWi mSn mHe mFw mRo mBe) sz) [(m0, .inr (9, [.ref m1, .int (nI mTy), .ref m2, .ref m3, .ref m4, .ref m5, .int (nI mKn), .ref m6, .int (nI mKe), .ref m7, .int (nI mCa), .ref m8, .int (nI mSe), .int (nI mAt), .int mFi, .int mSc, .ref m9, .ref m10, .ref m11, .ref m12])), (m1, .inl (cI, 200, .inl mTx)), (m2, .inl (cI, 37, .inl (F_X9_lays_2 mDr mTo 37))), (m3, .inl (cI, 37, .inl mDr)), (m4, .inl (cI, 15, .inl (upd (F_X9_lays_28 (F_X9_lays_2 mDr mTo 37) mSt j28_) j28_ 0))), (m5, .inl (cI, 120, .inl mPa)), (m6, .inl (cI, 30, .inl mIm)), (m7, .inl (cI, 5, .inl mWi)), (m8, .inl (cI, 6, .inl mSn)), (m9, .inl (cI, 15, .inl mHe)), (m10, .inl (cI, 384, .inl mFw)), (m11, .inl (cI, 5, .inl mRo)), (m12, .inl (cI, 5, .inl mBe))] := hD
            refine lv_iinc (v := (nI (j28_ + 1))) (lv' := [(1, .int (nI (j28_ + 1))), (0, .ref m0)]) hx hb dX9_lays_90 hl (k := 1) rfl (nI_1 _) (by decide) rfl (fun ls hl => ?_)
            refine lv_goto (tgt := 28) hx hb dX9_lays_93 (by decide) ?_
            have e_11 : (F_X9_lays_28 (F_X9_lays_2 mDr mTo 37) mSt (j28_ + 1)) = (upd (F_X9_lays_28 (F_X9_lays_2 mDr mTo 37) mSt j28_) j28_ 0) := by simp only [F_X9_lays_28, if_pos c_9, if_pos c_10]
            exact ih28_ (j28_ + 1) (by omega) _ _ (by rw [e_11]; exact hP) (by rw [e_11]; exact hD) hS _ (lv_sub hl [1, 0] rfl)
          have nc_10 := k_leF (a := 14) (b := j28_) (by omega) (by omega) c_10
          refine lv_aload_n hx hb dX9_lays_62 rfl (lv_at hl 0 rfl) ?_
          refine va_get (D := D) (ci := 9) (v := .ref m2) (C := RX9) (T := TX9) (N := 20) hx hb hts hinX9 hown hK hP 0 rfl rfl 2 (by decide) hf13 (fun _ h9 => h9) rfl dX9_lays_63 ?_
          refine lv_bipush (v := 29) hx hb dX9_lays_66 (by decide) ?_
          refine lv_iload_n hx hb dX9_lays_68 rfl (lv_at hl 1 rfl) ?_
          refine q_iaddN (a := 29) (b := j28_) hx hb dX9_lays_69 ?_
          refine lv_bipush (v := 6) hx hb dX9_lays_70 (by decide) ?_
          refine q_isubC (a := (29 + j28_)) (b := 6) (by omega) hx hb dX9_lays_72 ?_
          refine q_iald hx hb hK hP 2 0 rfl rfl (vp_in_nI (by omega) (by decide)) ((29 + j28_) - 6) (nI_clamp (by omega)) dX9_lays_73 ?_
          refine lv_iconst (v := 1) hx hb dX9_lays_74 (by decide) ?_
          refine lv_aload_n hx hb dX9_lays_75 rfl (lv_at hl 0 rfl) ?_
          refine va_get (D := D) (ci := 9) (v := .ref m2) (C := RX9) (T := TX9) (N := 20) hx hb hts hinX9 hown hK hP 0 rfl rfl 2 (by decide) hf13 (fun _ h9 => h9) rfl dX9_lays_76 ?_
          refine lv_iconst (v := 0) hx hb dX9_lays_79 (by decide) ?_
          refine q_iald hx hb hK hP 2 0 rfl rfl (vp_in_nI (n := 0) (N := 37) (by decide) (by decide)) 0 (by decide) dX9_lays_80 ?_
          refine lv_ishl hx hb dX9_lays_81 ?_
          refine lv_iconst (v := 1) hx hb dX9_lays_82 (by decide) ?_
          refine lv_isub hx hb dX9_lays_83 ?_
          refine lv_iand hx hb dX9_lays_84 ?_
          refine lv_goto (tgt := 89) hx hb dX9_lays_85 (by decide) ?_
          refine q_iast hx hb hK hP hD hS 4 0 rfl rfl (vp_in_nI (by omega) (by decide)) j28_ (nI_clamp (by omega)) dX9_lays_89 (fun H locs hP hD hS => ?_)
          have hP : va_P D vwCl [(m0, .inr (9, [.ref m1, .int (nI mTy), .ref m2, .ref m3, .ref m4, .ref m5, .int (nI mKn), .ref m6, .int (nI mKe), .ref m7, .int (nI mCa), .ref m8, .int (nI mSe), .int (nI mAt), .int mFi, .int mSc, .ref m9, .ref m10, .ref m11, .ref m12])), (m1, .inl (cI, 200, .inl mTx)), (m2, .inl (cI, 37, .inl (F_X9_lays_2 mDr mTo 37))), (m3, .inl (cI, 37, .inl mDr)), (m4, .inl (cI, 15, .inl (upd (F_X9_lays_28 (F_X9_lays_2 mDr mTo 37) mSt j28_) j28_ (((F_X9_lays_2 mDr mTo 37) ((29 + j28_) - 6)) &&& (((1 : Int32) <<< (((F_X9_lays_2 mDr mTo 37) 0) &&& 31)) - 1))))), (m5, .inl (cI, 120, .inl mPa)), (m6, .inl (cI, 30, .inl mIm)), (m7, .inl (cI, 5, .inl mWi)), (m8, .inl (cI, 6, .inl mSn)), (m9, .inl (cI, 15, .inl mHe)), (m10, .inl (cI, 384, .inl mFw)), (m11, .inl (cI, 5, .inl mRo)), (m12, .inl (cI, 5, .inl mBe))] H := hP
          have hD : va_D (va_A (wM cI cC cG m0 m1 m2 m3 m4 m5 m6 m7 m8 m9 m10 m11 m12 mTy mKn mKe mCa mSe mAt mFi mSc mTx mTo mDr mSt mPa mIm mWi mSn mHe mFw mRo mBe) sz) [(m0, .inr (9, [.ref m1, .int (nI mTy), .ref m2, .ref m3, .ref m4, .ref m5, .int (nI mKn), .ref m6, .int (nI mKe), .ref m7, .int (nI mCa), .ref m8, .int (nI mSe), .int (nI mAt), .int mFi, .int mSc, .ref m9, .ref m10, .ref m11, .ref m12])), (m1, .inl (cI, 200, .inl mTx)), (m2, .inl (cI, 37, .inl (F_X9_lays_2 mDr mTo 37))), (m3, .inl (cI, 37, .inl mDr)), (m4, .inl (cI, 15, .inl (upd (F_X9_lays_28 (F_X9_lays_2 mDr mTo 37) mSt j28_) j28_ (((F_X9_lays_2 mDr mTo 37) ((29 + j28_) - 6)) &&& (((1 : Int32) <<< (((F_X9_lays_2 mDr mTo 37) 0) &&& 31)) - 1))))), (m5, .inl (cI, 120, .inl mPa)), (m6, .inl (cI, 30, .inl mIm)), (m7, .inl (cI, 5, .inl mWi)), (m8, .inl (cI, 6, .inl mSn)), (m9, .inl (cI, 15, .inl mHe)), (m10, .inl (cI, 384, .inl mFw)), (m11, .inl (cI, 5, .inl mRo)), (m12, .inl (cI, 5, .inl mBe))] := hD
          refine lv_iinc (v := (nI (j28_ + 1))) (lv' := [(1, .int (nI (j28_ + 1))), (0, .ref m0)]) hx hb dX9_lays_90 hl (k := 1) rfl (nI_1 _) (by decide) rfl (fun ls hl => ?_)
          refine lv_goto (tgt := 28) hx hb dX9_lays_93 (by decide) ?_
          have e_12 : (F_X9_lays_28 (F_X9_lays_2 mDr mTo 37) mSt (j28_ + 1)) = (upd (F_X9_lays_28 (F_X9_lays_2 mDr mTo 37) mSt j28_) j28_ (((F_X9_lays_2 mDr mTo 37) ((29 + j28_) - 6)) &&& (((1 : Int32) <<< (((F_X9_lays_2 mDr mTo 37) 0) &&& 31)) - 1))) := by simp only [F_X9_lays_28, if_pos c_9, if_neg c_10]
          exact ih28_ (j28_ + 1) (by omega) _ _ (by rw [e_12]; exact hP) (by rw [e_12]; exact hD) hS _ (lv_sub hl [1, 0] rfl)
        have nc_9 := k_leF (a := 6) (b := j28_) (by omega) (by omega) c_9
        refine lv_aload_n hx hb dX9_lays_45 rfl (lv_at hl 0 rfl) ?_
        refine va_get (D := D) (ci := 9) (v := .ref m2) (C := RX9) (T := TX9) (N := 20) hx hb hts hinX9 hown hK hP 0 rfl rfl 2 (by decide) hf13 (fun _ h9 => h9) rfl dX9_lays_46 ?_
        refine lv_iconst (v := 3) hx hb dX9_lays_49 (by decide) ?_
        refine lv_iload_n hx hb dX9_lays_50 rfl (lv_at hl 1 rfl) ?_
        refine q_iaddN (a := 3) (b := j28_) hx hb dX9_lays_51 ?_
        refine q_iald hx hb hK hP 2 0 rfl rfl (vp_in_nI (by omega) (by decide)) (3 + j28_) (nI_clamp (by omega)) dX9_lays_52 ?_
        refine lv_goto (tgt := 89) hx hb dX9_lays_53 (by decide) ?_
        refine q_iast hx hb hK hP hD hS 4 0 rfl rfl (vp_in_nI (by omega) (by decide)) j28_ (nI_clamp (by omega)) dX9_lays_89 (fun H locs hP hD hS => ?_)
        have hP : va_P D vwCl [(m0, .inr (9, [.ref m1, .int (nI mTy), .ref m2, .ref m3, .ref m4, .ref m5, .int (nI mKn), .ref m6, .int (nI mKe), .ref m7, .int (nI mCa), .ref m8, .int (nI mSe), .int (nI mAt), .int mFi, .int mSc, .ref m9, .ref m10, .ref m11, .ref m12])), (m1, .inl (cI, 200, .inl mTx)), (m2, .inl (cI, 37, .inl (F_X9_lays_2 mDr mTo 37))), (m3, .inl (cI, 37, .inl mDr)), (m4, .inl (cI, 15, .inl (upd (F_X9_lays_28 (F_X9_lays_2 mDr mTo 37) mSt j28_) j28_ ((F_X9_lays_2 mDr mTo 37) (3 + j28_))))), (m5, .inl (cI, 120, .inl mPa)), (m6, .inl (cI, 30, .inl mIm)), (m7, .inl (cI, 5, .inl mWi)), (m8, .inl (cI, 6, .inl mSn)), (m9, .inl (cI, 15, .inl mHe)), (m10, .inl (cI, 384, .inl mFw)), (m11, .inl (cI, 5, .inl mRo)), (m12, .inl (cI, 5, .inl mBe))] H := hP
        have hD : va_D (va_A (wM cI cC cG m0 m1 m2 m3 m4 m5 m6 m7 m8 m9 m10 m11 m12 mTy mKn mKe mCa mSe mAt mFi mSc mTx mTo mDr mSt mPa mIm mWi mSn mHe mFw mRo mBe) sz) [(m0, .inr (9, [.ref m1, .int (nI mTy), .ref m2, .ref m3, .ref m4, .ref m5, .int (nI mKn), .ref m6, .int (nI mKe), .ref m7, .int (nI mCa), .ref m8, .int (nI mSe), .int (nI mAt), .int mFi, .int mSc, .ref m9, .ref m10, .ref m11, .ref m12])), (m1, .inl (cI, 200, .inl mTx)), (m2, .inl (cI, 37, .inl (F_X9_lays_2 mDr mTo 37))), (m3, .inl (cI, 37, .inl mDr)), (m4, .inl (cI, 15, .inl (upd (F_X9_lays_28 (F_X9_lays_2 mDr mTo 37) mSt j28_) j28_ ((F_X9_lays_2 mDr mTo 37) (3 + j28_))))), (m5, .inl (cI, 120, .inl mPa)), (m6, .inl (cI, 30, .inl mIm)), (m7, .inl (cI, 5, .inl mWi)), (m8, .inl (cI, 6, .inl mSn)), (m9, .inl (cI, 15, .inl mHe)), (m10, .inl (cI, 384, .inl mFw)), (m11, .inl (cI, 5, .inl mRo)), (m12, .inl (cI, 5, .inl mBe))] := hD
        refine lv_iinc (v := (nI (j28_ + 1))) (lv' := [(1, .int (nI (j28_ + 1))), (0, .ref m0)]) hx hb dX9_lays_90 hl (k := 1) rfl (nI_1 _) (by decide) rfl (fun ls hl => ?_)
        refine lv_goto (tgt := 28) hx hb dX9_lays_93 (by decide) ?_
        have e_13 : (F_X9_lays_28 (F_X9_lays_2 mDr mTo 37) mSt (j28_ + 1)) = (upd (F_X9_lays_28 (F_X9_lays_2 mDr mTo 37) mSt j28_) j28_ ((F_X9_lays_2 mDr mTo 37) (3 + j28_))) := by simp only [F_X9_lays_28, if_neg c_9]
        exact ih28_ (j28_ + 1) (by omega) _ _ (by rw [e_13]; exact hP) (by rw [e_13]; exact hD) hS _ (lv_sub hl [1, 0] rfl)
    exact loop28_ 15 0 (by omega) _ _ hP hD hS _ (lv_sub hl [1, 0] rfl)
  have loop2_ : ∀ (n2_ j2_ : Nat), j2_ + n2_ = 37 → ∀ (H : Heap) (locs : List Loc), va_P D vwCl [(m0, .inr (9, [.ref m1, .int (nI mTy), .ref m2, .ref m3, .ref m4, .ref m5, .int (nI mKn), .ref m6, .int (nI mKe), .ref m7, .int (nI mCa), .ref m8, .int (nI mSe), .int (nI mAt), .int mFi, .int mSc, .ref m9, .ref m10, .ref m11, .ref m12])), (m1, .inl (cI, 200, .inl mTx)), (m2, .inl (cI, 37, .inl (F_X9_lays_2 mDr mTo j2_))), (m3, .inl (cI, 37, .inl mDr)), (m4, .inl (cI, 15, .inl mSt)), (m5, .inl (cI, 120, .inl mPa)), (m6, .inl (cI, 30, .inl mIm)), (m7, .inl (cI, 5, .inl mWi)), (m8, .inl (cI, 6, .inl mSn)), (m9, .inl (cI, 15, .inl mHe)), (m10, .inl (cI, 384, .inl mFw)), (m11, .inl (cI, 5, .inl mRo)), (m12, .inl (cI, 5, .inl mBe))] H → va_D (va_A (wM cI cC cG m0 m1 m2 m3 m4 m5 m6 m7 m8 m9 m10 m11 m12 mTy mKn mKe mCa mSe mAt mFi mSc mTx mTo mDr mSt mPa mIm mWi mSn mHe mFw mRo mBe) sz) [(m0, .inr (9, [.ref m1, .int (nI mTy), .ref m2, .ref m3, .ref m4, .ref m5, .int (nI mKn), .ref m6, .int (nI mKe), .ref m7, .int (nI mCa), .ref m8, .int (nI mSe), .int (nI mAt), .int mFi, .int mSc, .ref m9, .ref m10, .ref m11, .ref m12])), (m1, .inl (cI, 200, .inl mTx)), (m2, .inl (cI, 37, .inl (F_X9_lays_2 mDr mTo j2_))), (m3, .inl (cI, 37, .inl mDr)), (m4, .inl (cI, 15, .inl mSt)), (m5, .inl (cI, 120, .inl mPa)), (m6, .inl (cI, 30, .inl mIm)), (m7, .inl (cI, 5, .inl mWi)), (m8, .inl (cI, 6, .inl mSn)), (m9, .inl (cI, 15, .inl mHe)), (m10, .inl (cI, 384, .inl mFw)), (m11, .inl (cI, 5, .inl mRo)), (m12, .inl (cI, 5, .inl mBe))] → va_S (va_A (wM cI cC cG m0 m1 m2 m3 m4 m5 m6 m7 m8 m9 m10 m11 m12 mTy mKn mKe mCa mSe mAt mFi mSc mTx mTo mDr mSt mPa mIm mWi mSn mHe mFw mRo mBe) sz) s.heap H locs → ∀ ls : Array Slot, lv_has ls 2 [(0, .ref m0), (1, .int (nI j2_))] → W p l e rm_X9_lays s m ([.ref m0] : List Value).toArray below meth c H locs 0 0 (MQ below (q_QWv D (wM cI cC cG m0 m1 m2 m3 m4 m5 m6 m7 m8 m9 m10 m11 m12 mTy mKn mKe mCa mSe mAt mFi mSc mTx mTo mDr mSt mPa mIm mWi mSn mHe mFw mRo mBe) (wM cI cC cG m0 m1 m2 m3 m4 m5 m6 m7 m8 m9 m10 m11 m12 mTy g_X9_lays_mKn g_X9_lays_mKe g_X9_lays_mCa g_X9_lays_mSe mAt mFi mSc mTx (g_X9_lays_mTo mTo mDr) mDr (g_X9_lays_mSt mTo mDr mSt) mPa mIm mWi mSn mHe mFw mRo mBe) sz) ([.ref m0] : List Value).toArray s 0 0 (va_A (wM cI cC cG m0 m1 m2 m3 m4 m5 m6 m7 m8 m9 m10 m11 m12 mTy mKn mKe mCa mSe mAt mFi mSc mTx mTo mDr mSt mPa mIm mWi mSn mHe mFw mRo mBe) sz)) (F0 m 2 ls []) := by
    intro n2_
    induction n2_ with
    | zero =>
      intro j2_ hj2_ H locs hP hD hS ls hl
      obtain rfl : j2_ = 37 := by omega
      refine lv_iload_n hx hb dX9_lays_2 rfl (lv_at hl 1 rfl) ?_
      refine lv_bipush (v := 37) hx hb dX9_lays_3 (by decide) ?_
      refine lv_icmp_ge (tgt := 26) hx hb dX9_lays_5 (by decide) (fun c_14 => ?_) (fun c_14 => ?_)
      rotate_left
      · exact absurd (nI_le (Nat.le_refl 37) (by decide)) c_14
      exact K2_ _ _ hP hD hS _ (lv_sub hl [0] rfl)
    | succ n2_ ih2_ =>
      intro j2_ hj2_ H locs hP hD hS ls hl
      refine lv_iload_n hx hb dX9_lays_2 rfl (lv_at hl 1 rfl) ?_
      refine lv_bipush (v := 37) hx hb dX9_lays_3 (by decide) ?_
      refine lv_icmp_ge (tgt := 26) hx hb dX9_lays_5 (by decide) (fun c_15 => ?_) (fun c_15 => ?_)
      · exact absurd c_15 (nI_ge (b := 37) (by omega) (by decide))
      refine lv_aload_n hx hb dX9_lays_8 rfl (lv_at hl 0 rfl) ?_
      refine va_get (D := D) (ci := 9) (v := .ref m2) (C := RX9) (T := TX9) (N := 20) hx hb hts hinX9 hown hK hP 0 rfl rfl 2 (by decide) hf13 (fun _ h9 => h9) rfl dX9_lays_9 ?_
      refine lv_iload_n hx hb dX9_lays_12 rfl (lv_at hl 1 rfl) ?_
      refine lv_aload_n hx hb dX9_lays_13 rfl (lv_at hl 0 rfl) ?_
      refine va_get (D := D) (ci := 9) (v := .ref m3) (C := RX9) (T := TX9) (N := 20) hx hb hts hinX9 hown hK hP 0 rfl rfl 3 (by decide) hf16 (fun _ h9 => h9) rfl dX9_lays_14 ?_
      refine lv_iload_n hx hb dX9_lays_17 rfl (lv_at hl 1 rfl) ?_
      refine q_iald hx hb hK hP 3 0 rfl rfl (vp_in_nI (by omega) (by decide)) j2_ (nI_clamp (by omega)) dX9_lays_18 ?_
      refine q_iast hx hb hK hP hD hS 2 0 rfl rfl (vp_in_nI (by omega) (by decide)) j2_ (nI_clamp (by omega)) dX9_lays_19 (fun H locs hP hD hS => ?_)
      have hP : va_P D vwCl [(m0, .inr (9, [.ref m1, .int (nI mTy), .ref m2, .ref m3, .ref m4, .ref m5, .int (nI mKn), .ref m6, .int (nI mKe), .ref m7, .int (nI mCa), .ref m8, .int (nI mSe), .int (nI mAt), .int mFi, .int mSc, .ref m9, .ref m10, .ref m11, .ref m12])), (m1, .inl (cI, 200, .inl mTx)), (m2, .inl (cI, 37, .inl (upd (F_X9_lays_2 mDr mTo j2_) j2_ (mDr j2_)))), (m3, .inl (cI, 37, .inl mDr)), (m4, .inl (cI, 15, .inl mSt)), (m5, .inl (cI, 120, .inl mPa)), (m6, .inl (cI, 30, .inl mIm)), (m7, .inl (cI, 5, .inl mWi)), (m8, .inl (cI, 6, .inl mSn)), (m9, .inl (cI, 15, .inl mHe)), (m10, .inl (cI, 384, .inl mFw)), (m11, .inl (cI, 5, .inl mRo)), (m12, .inl (cI, 5, .inl mBe))] H := hP
      have hD : va_D (va_A (wM cI cC cG m0 m1 m2 m3 m4 m5 m6 m7 m8 m9 m10 m11 m12 mTy mKn mKe mCa mSe mAt mFi mSc mTx mTo mDr mSt mPa mIm mWi mSn mHe mFw mRo mBe) sz) [(m0, .inr (9, [.ref m1, .int (nI mTy), .ref m2, .ref m3, .ref m4, .ref m5, .int (nI mKn), .ref m6, .int (nI mKe), .ref m7, .int (nI mCa), .ref m8, .int (nI mSe), .int (nI mAt), .int mFi, .int mSc, .ref m9, .ref m10, .ref m11, .ref m12])), (m1, .inl (cI, 200, .inl mTx)), (m2, .inl (cI, 37, .inl (upd (F_X9_lays_2 mDr mTo j2_) j2_ (mDr j2_)))), (m3, .inl (cI, 37, .inl mDr)), (m4, .inl (cI, 15, .inl mSt)), (m5, .inl (cI, 120, .inl mPa)), (m6, .inl (cI, 30, .inl mIm)), (m7, .inl (cI, 5, .inl mWi)), (m8, .inl (cI, 6, .inl mSn)), (m9, .inl (cI, 15, .inl mHe)), (m10, .inl (cI, 384, .inl mFw)), (m11, .inl (cI, 5, .inl mRo)), (m12, .inl (cI, 5, .inl mBe))] := hD
      refine lv_iinc (v := (nI (j2_ + 1))) (lv' := [(1, .int (nI (j2_ + 1))), (0, .ref m0)]) hx hb dX9_lays_20 hl (k := 1) rfl (nI_1 _) (by decide) rfl (fun ls hl => ?_)
      refine lv_goto (tgt := 2) hx hb dX9_lays_23 (by decide) ?_
      have e_16 : (F_X9_lays_2 mDr mTo (j2_ + 1)) = (upd (F_X9_lays_2 mDr mTo j2_) j2_ (mDr j2_)) := by simp only [F_X9_lays_2]
      exact ih2_ (j2_ + 1) (by omega) _ _ (by rw [e_16]; exact hP) (by rw [e_16]; exact hD) hS _ (lv_sub hl [1, 0] rfl)
  exact loop2_ 37 0 (by omega) _ _ hP hD hS _ (lv_sub hl [1, 0] rfl)
