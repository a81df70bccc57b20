def L_X9_reaches_180 (x8 : Int32) (x10 : Int32) (y7 : Nat) (mTo : Nat → Int32) (mSt : Nat → Int32) (mFw : Nat → Int32) : Nat → Nat → Int32 → Int32
  | 0, j180_, a0_ => a0_
  | n180_ + 1, j180_, a0_ => (if x10 = 0 then a0_ else (if ((x10 >>> ((nI j180_) &&& 31)) &&& 1) = 1 then (if (((f_X9_met mTo mSt (nI y7)) >>> ((nI j180_) &&& 31)) &&& 1) = 1 then (if (mFw (Int32.toNatClampNeg ((6 * x10) + (nI j180_)))) < 0 then L_X9_reaches_180 x8 x10 y7 mTo mSt mFw n180_ (j180_ + 1) a0_ else (if a0_ < 0 then L_X9_reaches_180 x8 x10 y7 mTo mSt mFw n180_ (j180_ + 1) ((mFw (Int32.toNatClampNeg ((6 * x10) + (nI j180_)))) + x8) else (if a0_ ≤ ((mFw (Int32.toNatClampNeg ((6 * x10) + (nI j180_)))) + x8) then L_X9_reaches_180 x8 x10 y7 mTo mSt mFw n180_ (j180_ + 1) a0_ else L_X9_reaches_180 x8 x10 y7 mTo mSt mFw n180_ (j180_ + 1) ((mFw (Int32.toNatClampNeg ((6 * x10) + (nI j180_)))) + x8)))) else L_X9_reaches_180 x8 x10 y7 mTo mSt mFw n180_ (j180_ + 1) a0_) else L_X9_reaches_180 x8 x10 y7 mTo mSt mFw n180_ (j180_ + 1) a0_))
def F_X9_reaches_85 (x1 : Int32) (x5 : Int32) (y4 : Nat) (mTo : Nat → Int32) (mSt : Nat → Int32) (i0_ : Nat → Int32) : Nat → (Nat → Int32)
  | 0 => i0_
  | j85_ + 1 => (if (mTo (9 + j85_)) = 4 then (if x5 = 0 then (upd (F_X9_reaches_85 x1 x5 y4 mTo mSt i0_ j85_) ((6 * y4) + j85_) (-1)) else (if (((nI y4) >>> ((nI j85_) &&& 31)) &&& 1) = 1 then (if ((nI y4) ^^^ ((1 : Int32) <<< ((nI j85_) &&& 31))) = 0 then (if ((f_X9_met mTo mSt (nI j85_)) &&& (mSt (6 + (Int32.toNatClampNeg x1)))) = 0 then (upd (F_X9_reaches_85 x1 x5 y4 mTo mSt i0_ j85_) ((6 * y4) + j85_) (L_X9_reaches_180 1 ((nI y4) ^^^ ((1 : Int32) <<< ((nI j85_) &&& 31))) j85_ mTo mSt (F_X9_reaches_85 x1 x5 y4 mTo mSt i0_ j85_) (Int32.toNatClampNeg (mTo 0)) 0 (-1))) else (upd (F_X9_reaches_85 x1 x5 y4 mTo mSt i0_ j85_) ((6 * y4) + j85_) (L_X9_reaches_180 1 ((nI y4) ^^^ ((1 : Int32) <<< ((nI j85_) &&& 31))) j85_ mTo mSt (F_X9_reaches_85 x1 x5 y4 mTo mSt i0_ j85_) (Int32.toNatClampNeg (mTo 0)) 0 1))) else (upd (F_X9_reaches_85 x1 x5 y4 mTo mSt i0_ j85_) ((6 * y4) + j85_) (L_X9_reaches_180 1 ((nI y4) ^^^ ((1 : Int32) <<< ((nI j85_) &&& 31))) j85_ mTo mSt (F_X9_reaches_85 x1 x5 y4 mTo mSt i0_ j85_) (Int32.toNatClampNeg (mTo 0)) 0 (-1)))) else (upd (F_X9_reaches_85 x1 x5 y4 mTo mSt i0_ j85_) ((6 * y4) + j85_) (-1)))) else (if x5 = 0 then (upd (F_X9_reaches_85 x1 x5 y4 mTo mSt i0_ j85_) ((6 * y4) + j85_) (-1)) else (if (((nI y4) >>> ((nI j85_) &&& 31)) &&& 1) = 1 then (if ((nI y4) ^^^ ((1 : Int32) <<< ((nI j85_) &&& 31))) = 0 then (if ((f_X9_met mTo mSt (nI j85_)) &&& (mSt (6 + (Int32.toNatClampNeg x1)))) = 0 then (upd (F_X9_reaches_85 x1 x5 y4 mTo mSt i0_ j85_) ((6 * y4) + j85_) (L_X9_reaches_180 0 ((nI y4) ^^^ ((1 : Int32) <<< ((nI j85_) &&& 31))) j85_ mTo mSt (F_X9_reaches_85 x1 x5 y4 mTo mSt i0_ j85_) (Int32.toNatClampNeg (mTo 0)) 0 (-1))) else (upd (F_X9_reaches_85 x1 x5 y4 mTo mSt i0_ j85_) ((6 * y4) + j85_) (L_X9_reaches_180 0 ((nI y4) ^^^ ((1 : Int32) <<< ((nI j85_) &&& 31))) j85_ mTo mSt (F_X9_reaches_85 x1 x5 y4 mTo mSt i0_ j85_) (Int32.toNatClampNeg (mTo 0)) 0 0))) else (upd (F_X9_reaches_85 x1 x5 y4 mTo mSt i0_ j85_) ((6 * y4) + j85_) (L_X9_reaches_180 0 ((nI y4) ^^^ ((1 : Int32) <<< ((nI j85_) &&& 31))) j85_ mTo mSt (F_X9_reaches_85 x1 x5 y4 mTo mSt i0_ j85_) (Int32.toNatClampNeg (mTo 0)) 0 (-1)))) else (upd (F_X9_reaches_85 x1 x5 y4 mTo mSt i0_ j85_) ((6 * y4) + j85_) (-1)))))
def L_X9_reaches_17 (x1 : Int32) (x2 : Int32) (mTo : Nat → Int32) (mSt : Nat → Int32) : Nat → Nat → Int32 → (Nat → Int32) → Int32 × (Nat → Int32)
  | 0, j17_, a0_, a1_ => (a0_, a1_)
  | n17_ + 1, j17_, a0_, a1_ => (if ((nI j17_) &&& (mSt (6 + (Int32.toNatClampNeg x1)))) = 0 then (if ((nI j17_) &&& ((f_X9_alive mTo mSt) ^^^ (-1))) = 0 then (if 0 ≤ ((F_X9_reaches_85 x1 1 j17_ mTo mSt a1_ (Int32.toNatClampNeg (mTo 0))) ((6 * j17_) + (Int32.toNatClampNeg x2))) then (if (((F_X9_reaches_85 x1 1 j17_ mTo mSt a1_ (Int32.toNatClampNeg (mTo 0))) ((6 * j17_) + (Int32.toNatClampNeg x2))) + (f_X9_shades mTo mSt x1 (nI j17_))) < 0 then L_X9_reaches_17 x1 x2 mTo mSt n17_ (j17_ + 1) a0_ (F_X9_reaches_85 x1 1 j17_ mTo mSt a1_ (Int32.toNatClampNeg (mTo 0))) else (if a0_ = (-4) then L_X9_reaches_17 x1 x2 mTo mSt n17_ (j17_ + 1) (((F_X9_reaches_85 x1 1 j17_ mTo mSt a1_ (Int32.toNatClampNeg (mTo 0))) ((6 * j17_) + (Int32.toNatClampNeg x2))) + (f_X9_shades mTo mSt x1 (nI j17_))) (F_X9_reaches_85 x1 1 j17_ mTo mSt a1_ (Int32.toNatClampNeg (mTo 0))) else (if a0_ ≤ (((F_X9_reaches_85 x1 1 j17_ mTo mSt a1_ (Int32.toNatClampNeg (mTo 0))) ((6 * j17_) + (Int32.toNatClampNeg x2))) + (f_X9_shades mTo mSt x1 (nI j17_))) then L_X9_reaches_17 x1 x2 mTo mSt n17_ (j17_ + 1) a0_ (F_X9_reaches_85 x1 1 j17_ mTo mSt a1_ (Int32.toNatClampNeg (mTo 0))) else L_X9_reaches_17 x1 x2 mTo mSt n17_ (j17_ + 1) (((F_X9_reaches_85 x1 1 j17_ mTo mSt a1_ (Int32.toNatClampNeg (mTo 0))) ((6 * j17_) + (Int32.toNatClampNeg x2))) + (f_X9_shades mTo mSt x1 (nI j17_))) (F_X9_reaches_85 x1 1 j17_ mTo mSt a1_ (Int32.toNatClampNeg (mTo 0)))))) else L_X9_reaches_17 x1 x2 mTo mSt n17_ (j17_ + 1) a0_ (F_X9_reaches_85 x1 1 j17_ mTo mSt a1_ (Int32.toNatClampNeg (mTo 0)))) else (if 0 ≤ ((F_X9_reaches_85 x1 0 j17_ mTo mSt a1_ (Int32.toNatClampNeg (mTo 0))) ((6 * j17_) + (Int32.toNatClampNeg x2))) then (if (((F_X9_reaches_85 x1 0 j17_ mTo mSt a1_ (Int32.toNatClampNeg (mTo 0))) ((6 * j17_) + (Int32.toNatClampNeg x2))) + 0) < 0 then L_X9_reaches_17 x1 x2 mTo mSt n17_ (j17_ + 1) a0_ (F_X9_reaches_85 x1 0 j17_ mTo mSt a1_ (Int32.toNatClampNeg (mTo 0))) else (if a0_ = (-4) then L_X9_reaches_17 x1 x2 mTo mSt n17_ (j17_ + 1) (((F_X9_reaches_85 x1 0 j17_ mTo mSt a1_ (Int32.toNatClampNeg (mTo 0))) ((6 * j17_) + (Int32.toNatClampNeg x2))) + 0) (F_X9_reaches_85 x1 0 j17_ mTo mSt a1_ (Int32.toNatClampNeg (mTo 0))) else (if a0_ ≤ (((F_X9_reaches_85 x1 0 j17_ mTo mSt a1_ (Int32.toNatClampNeg (mTo 0))) ((6 * j17_) + (Int32.toNatClampNeg x2))) + 0) then L_X9_reaches_17 x1 x2 mTo mSt n17_ (j17_ + 1) a0_ (F_X9_reaches_85 x1 0 j17_ mTo mSt a1_ (Int32.toNatClampNeg (mTo 0))) else L_X9_reaches_17 x1 x2 mTo mSt n17_ (j17_ + 1) (((F_X9_reaches_85 x1 0 j17_ mTo mSt a1_ (Int32.toNatClampNeg (mTo 0))) ((6 * j17_) + (Int32.toNatClampNeg x2))) + 0) (F_X9_reaches_85 x1 0 j17_ mTo mSt a1_ (Int32.toNatClampNeg (mTo 0)))))) else L_X9_reaches_17 x1 x2 mTo mSt n17_ (j17_ + 1) a0_ (F_X9_reaches_85 x1 0 j17_ mTo mSt a1_ (Int32.toNatClampNeg (mTo 0))))) else (if 0 ≤ ((F_X9_reaches_85 x1 0 j17_ mTo mSt a1_ (Int32.toNatClampNeg (mTo 0))) ((6 * j17_) + (Int32.toNatClampNeg x2))) then (if (((F_X9_reaches_85 x1 0 j17_ mTo mSt a1_ (Int32.toNatClampNeg (mTo 0))) ((6 * j17_) + (Int32.toNatClampNeg x2))) + 0) < 0 then L_X9_reaches_17 x1 x2 mTo mSt n17_ (j17_ + 1) a0_ (F_X9_reaches_85 x1 0 j17_ mTo mSt a1_ (Int32.toNatClampNeg (mTo 0))) else (if a0_ = (-4) then L_X9_reaches_17 x1 x2 mTo mSt n17_ (j17_ + 1) (((F_X9_reaches_85 x1 0 j17_ mTo mSt a1_ (Int32.toNatClampNeg (mTo 0))) ((6 * j17_) + (Int32.toNatClampNeg x2))) + 0) (F_X9_reaches_85 x1 0 j17_ mTo mSt a1_ (Int32.toNatClampNeg (mTo 0))) else (if a0_ ≤ (((F_X9_reaches_85 x1 0 j17_ mTo mSt a1_ (Int32.toNatClampNeg (mTo 0))) ((6 * j17_) + (Int32.toNatClampNeg x2))) + 0) then L_X9_reaches_17 x1 x2 mTo mSt n17_ (j17_ + 1) a0_ (F_X9_reaches_85 x1 0 j17_ mTo mSt a1_ (Int32.toNatClampNeg (mTo 0))) else L_X9_reaches_17 x1 x2 mTo mSt n17_ (j17_ + 1) (((F_X9_reaches_85 x1 0 j17_ mTo mSt a1_ (Int32.toNatClampNeg (mTo 0))) ((6 * j17_) + (Int32.toNatClampNeg x2))) + 0) (F_X9_reaches_85 x1 0 j17_ mTo mSt a1_ (Int32.toNatClampNeg (mTo 0)))))) else L_X9_reaches_17 x1 x2 mTo mSt n17_ (j17_ + 1) a0_ (F_X9_reaches_85 x1 0 j17_ mTo mSt a1_ (Int32.toNatClampNeg (mTo 0)))))
def f_X9_reaches (mTo : Nat → Int32) (mSt : Nat → Int32) (mFw : Nat → Int32) (p0 : Int32) (p1 : Int32) : Int32 := (if (f_X9_knows mSt p1 p0) = 0 then (L_X9_reaches_17 p0 p1 mTo mSt ((Int32.toNatClampNeg ((1 : Int32) <<< ((mTo 0) &&& 31))) - 1) 1 (-4) mFw).1 else 0)
def g_X9_reaches_mFw (mTo : Nat → Int32) (mSt : Nat → Int32) (mFw : Nat → Int32) (p0 : Int32) (p1 : Int32) : Nat → Int32 := (if (f_X9_knows mSt p1 p0) = 0 then (L_X9_reaches_17 p0 p1 mTo mSt ((Int32.toNatClampNeg ((1 : Int32) <<< ((mTo 0) &&& 31))) - 1) 1 (-4) mFw).2 else mFw)
abbrev rm_X9_reaches : Room := { frames := 3, cells := 0, slots := 0, locals := 68 }
set_option maxRecDepth 100000 in
set_option maxHeartbeats 4000000 in
theorem c_X9_reaches (l : Launch) (D : va_G) (cI cC cG : ClassId) (m0 : Nat) (m1 : Nat) (m2 : Nat) (m3 : Nat) (m4 : Nat) (m5 : Nat) (m6 : Nat) (m7 : Nat) (m8 : Nat) (m9 : Nat) (m10 : Nat) (m11 : Nat) (m12 : Nat) (mTy : Nat) (mKn : Nat) (mKe : Nat) (mCa : Nat) (mSe : Nat) (mAt : Nat) (mFi : Int32) (mSc : Int32) (mTx : Nat → Int32) (mTo : Nat → Int32) (mDr : Nat → Int32) (mSt : Nat → Int32) (mPa : Nat → Int32) (mIm : Nat → Int32) (mWi : Nat → Int32) (mSn : Nat → Int32) (mHe : Nat → Int32) (mFw : Nat → Int32) (mRo : Nat → Int32) (mBe : Nat → Int32) (p0 : Int32) (p1 : Int32) (sz : Nat) (hM : okM mTo) (hk : vp_in p0 8) (hi : vp_in p1 6) : RwI l yX9_reaches wsX9_reaches rm_X9_reaches D (q_t cI cC cG) (wM cI cC cG m0 m1 m2 m3 m4 m5 m6 m7 m8 m9 m10 m11 m12 mTy mKn mKe mCa mSe mAt mFi mSc mTx mTo mDr mSt mPa mIm mWi mSn mHe mFw mRo mBe) (wM cI cC cG m0 m1 m2 m3 m4 m5 m6 m7 m8 m9 m10 m11 m12 mTy mKn mKe mCa mSe mAt mFi mSc mTx mTo mDr mSt mPa mIm mWi mSn mHe (g_X9_reaches_mFw mTo mSt mFw p0 p1) mRo mBe) sz [.ref m0, .int p0, .int p1] (f_X9_reaches mTo mSt mFw p0 p1) := by
  refine rw_enter (cc := cX9_reaches) (maxL := 13) (ret := (some .int)) (by decide) rfl (Nat.le_of_ble_eq_true rfl) ?_
  intro p e s m below meth c ls B hP hK hD hS hA hl
  obtain ⟨hx, hb, hr, hlocks, hml, hown, hts, hN⟩ := B
  have hown : s.vm.findClass RX9 = some m.cls := hown
  have hl : lv_has ls 13 [(0, .ref m0), (1, .int p0), (2, .int p1)] := hl
  have hN6 := okM_p hM
  have hN8 := okM_s hM
  have hNB := okM_b hM
  have hf13 := hts (.fieldLink RX9 13 "OlderByABlushModel" "told" "[I") (by decide +kernel)
  have hinX9 : ∀ w ∈ u_ws RX9 TX9 20, w ∈ wsX9_reaches := by decide +kernel
  have hf19 := hts (.fieldLink RX9 19 "OlderByABlushModel" "s" "[I") (by decide +kernel)
  have hf37 := hts (.fieldLink RX9 37 "OlderByABlushModel" "fewest" "[I") (by decide +kernel)
  refine lv_aload_n hx hb dX9_reaches_0 rfl (lv_at hl 0 rfl) ?_
  refine lv_iload_n hx hb dX9_reaches_1 rfl (lv_at hl 2 rfl) ?_
  refine lv_iload_n hx hb dX9_reaches_2 rfl (lv_at hl 1 rfl) ?_
  refine ro_i (va_runV (As := [.int p1, .int p0]) (rest := []) ⟨hx, hb, hml, hown, hts⟩ (c_X9_knows l D cI cC cG m0 m1 m2 m3 m4 m5 m6 m7 m8 m9 m10 m11 m12 mTy mKn mKe mCa mSe mAt mFi mSc mTx mTo mDr mSt mPa mIm mWi mSn mHe mFw mRo mBe p1 p0 (vp_mono hk (by decide))) (cwV 2 hts gX9_reaches_X9_knows rfl rfl rfl (by decide +kernel) ⟨Nat.le_of_ble_eq_true rfl, Nat.le_of_ble_eq_true rfl⟩) (q_preV hK hP hN [0, 1, 2, 3, 4, 5, 6, 7, 8, 9, 10, 11, 12] rfl (ci := 9) (q0 := 0) rfl rfl) rfl rfl hl.1 rfl (lv_room (Nat.le_of_ble_eq_true rfl)) dX9_reaches_3 ⟨Nat.zero_le _, Nat.zero_le _⟩) hS hP (fun H locs hP hS => ?_)
  refine lv_if_eq (tgt := 11) hx hb dX9_reaches_6 (by decide) (fun c_1 => ?_) (fun c_1 => ?_)
  · refine lv_bipush (v := (-4)) hx hb dX9_reaches_11 (by decide) ?_
    refine lv_istore_n (lv' := [(3, .int (-4)), (0, .ref m0), (1, .int p0), (2, .int p1)]) hx hb dX9_reaches_13 rfl hl (by decide) rfl (fun ls hl => ?_)
    refine lv_iconst (v := 1) hx hb dX9_reaches_14 (by decide) ?_
    refine lv_istore (lv' := [(4, .int 1), (3, .int (-4)), (0, .ref m0), (1, .int p0), (2, .int p1)]) hx hb dX9_reaches_15 hl (by decide) rfl (fun ls hl => ?_)
    have K17_ : ∀ (H : Heap) (locs : List Loc), va_P D vwCl [(m0, .inr (9, [.ref m1, .int (nI mTy), .ref m2, .ref m3, .ref m4, .ref m5, .int (nI mKn), .ref m6, .int (nI mKe), .ref m7, .int (nI mCa), .ref m8, .int (nI mSe), .int (nI mAt), .int mFi, .int mSc, .ref m9, .ref m10, .ref m11, .ref m12])), (m1, .inl (cI, 200, .inl mTx)), (m2, .inl (cI, 37, .inl mTo)), (m3, .inl (cI, 37, .inl mDr)), (m4, .inl (cI, 15, .inl mSt)), (m5, .inl (cI, 120, .inl mPa)), (m6, .inl (cI, 30, .inl mIm)), (m7, .inl (cI, 5, .inl mWi)), (m8, .inl (cI, 6, .inl mSn)), (m9, .inl (cI, 15, .inl mHe)), (m10, .inl (cI, 384, .inl ((L_X9_reaches_17 p0 p1 mTo mSt ((Int32.toNatClampNeg ((1 : Int32) <<< ((mTo 0) &&& 31))) - 1) 1 (-4) mFw).2))), (m11, .inl (cI, 5, .inl mRo)), (m12, .inl (cI, 5, .inl mBe))] H → va_D (va_A (wM cI cC cG m0 m1 m2 m3 m4 m5 m6 m7 m8 m9 m10 m11 m12 mTy mKn mKe mCa mSe mAt mFi mSc mTx mTo mDr mSt mPa mIm mWi mSn mHe mFw mRo mBe) sz) [(m0, .inr (9, [.ref m1, .int (nI mTy), .ref m2, .ref m3, .ref m4, .ref m5, .int (nI mKn), .ref m6, .int (nI mKe), .ref m7, .int (nI mCa), .ref m8, .int (nI mSe), .int (nI mAt), .int mFi, .int mSc, .ref m9, .ref m10, .ref m11, .ref m12])), (m1, .inl (cI, 200, .inl mTx)), (m2, .inl (cI, 37, .inl mTo)), (m3, .inl (cI, 37, .inl mDr)), (m4, .inl (cI, 15, .inl mSt)), (m5, .inl (cI, 120, .inl mPa)), (m6, .inl (cI, 30, .inl mIm)), (m7, .inl (cI, 5, .inl mWi)), (m8, .inl (cI, 6, .inl mSn)), (m9, .inl (cI, 15, .inl mHe)), (m10, .inl (cI, 384, .inl ((L_X9_reaches_17 p0 p1 mTo mSt ((Int32.toNatClampNeg ((1 : Int32) <<< ((mTo 0) &&& 31))) - 1) 1 (-4) mFw).2))), (m11, .inl (cI, 5, .inl mRo)), (m12, .inl (cI, 5, .inl mBe))] → va_S (va_A (wM cI cC cG m0 m1 m2 m3 m4 m5 m6 m7 m8 m9 m10 m11 m12 mTy mKn mKe mCa mSe mAt mFi mSc mTx mTo mDr mSt mPa mIm mWi mSn mHe mFw mRo mBe) sz) s.heap H locs → ∀ ls : Array Slot, lv_has ls 13 [(3, .int ((L_X9_reaches_17 p0 p1 mTo mSt ((Int32.toNatClampNeg ((1 : Int32) <<< ((mTo 0) &&& 31))) - 1) 1 (-4) mFw).1))] → W p l e rm_X9_reaches s m ([.ref m0, .int p0, .int p1] : List Value).toArray below meth c H locs 0 0 (MQ below (q_QWi D (wM cI cC cG m0 m1 m2 m3 m4 m5 m6 m7 m8 m9 m10 m11 m12 mTy mKn mKe mCa mSe mAt mFi mSc mTx mTo mDr mSt mPa mIm mWi mSn mHe mFw mRo mBe) (wM cI cC cG m0 m1 m2 m3 m4 m5 m6 m7 m8 m9 m10 m11 m12 mTy mKn mKe mCa mSe mAt mFi mSc mTx mTo mDr mSt mPa mIm mWi mSn mHe (g_X9_reaches_mFw mTo mSt mFw p0 p1) mRo mBe) sz (f_X9_reaches mTo mSt mFw p0 p1)) ([.ref m0, .int p0, .int p1] : List Value).toArray s 0 0 (va_A (wM cI cC cG m0 m1 m2 m3 m4 m5 m6 m7 m8 m9 m10 m11 m12 mTy mKn mKe mCa mSe mAt mFi mSc mTx mTo mDr mSt mPa mIm mWi mSn mHe mFw mRo mBe) sz)) (F0 m 366 ls []) := by
      intro H locs hP hD hS ls hl
      refine lv_iload_n hx hb dX9_reaches_366 rfl (lv_at hl 0 rfl) ?_
      have e_2 : (g_X9_reaches_mFw mTo mSt mFw p0 p1) = (L_X9_reaches_17 p0 p1 mTo mSt ((Int32.toNatClampNeg ((1 : Int32) <<< ((mTo 0) &&& 31))) - 1) 1 (-4) mFw).2 := by simp only [g_X9_reaches_mFw, if_pos c_1]
      exact rw_iret hx hb hr hlocks hP hD hS (by simp only [f_X9_reaches, if_pos c_1]) (by rw [e_2] <;> rfl) dX9_reaches_367
    have loop17_ : ∀ (n17_ j17_ : Nat) (a17_0 : Int32) (a17_1 : Nat → Int32), j17_ + n17_ = (Int32.toNatClampNeg ((1 : Int32) <<< ((mTo 0) &&& 31))) → (L_X9_reaches_17 p0 p1 mTo mSt n17_ j17_ a17_0 a17_1) = (L_X9_reaches_17 p0 p1 mTo mSt ((Int32.toNatClampNeg ((1 : Int32) <<< ((mTo 0) &&& 31))) - 1) 1 (-4) mFw) → ∀ (H : Heap) (locs : List Loc), va_P D vwCl [(m0, .inr (9, [.ref m1, .int (nI mTy), .ref m2, .ref m3, .ref m4, .ref m5, .int (nI mKn), .ref m6, .int (nI mKe), .ref m7, .int (nI mCa), .ref m8, .int (nI mSe), .int (nI mAt), .int mFi, .int mSc, .ref m9, .ref m10, .ref m11, .ref m12])), (m1, .inl (cI, 200, .inl mTx)), (m2, .inl (cI, 37, .inl mTo)), (m3, .inl (cI, 37, .inl mDr)), (m4, .inl (cI, 15, .inl mSt)), (m5, .inl (cI, 120, .inl mPa)), (m6, .inl (cI, 30, .inl mIm)), (m7, .inl (cI, 5, .inl mWi)), (m8, .inl (cI, 6, .inl mSn)), (m9, .inl (cI, 15, .inl mHe)), (m10, .inl (cI, 384, .inl a17_1)), (m11, .inl (cI, 5, .inl mRo)), (m12, .inl (cI, 5, .inl mBe))] H → va_D (va_A (wM cI cC cG m0 m1 m2 m3 m4 m5 m6 m7 m8 m9 m10 m11 m12 mTy mKn mKe mCa mSe mAt mFi mSc mTx mTo mDr mSt mPa mIm mWi mSn mHe mFw mRo mBe) sz) [(m0, .inr (9, [.ref m1, .int (nI mTy), .ref m2, .ref m3, .ref m4, .ref m5, .int (nI mKn), .ref m6, .int (nI mKe), .ref m7, .int (nI mCa), .ref m8, .int (nI mSe), .int (nI mAt), .int mFi, .int mSc, .ref m9, .ref m10, .ref m11, .ref m12])), (m1, .inl (cI, 200, .inl mTx)), (m2, .inl (cI, 37, .inl mTo)), (m3, .inl (cI, 37, .inl mDr)), (m4, .inl (cI, 15, .inl mSt)), (m5, .inl (cI, 120, .inl mPa)), (m6, .inl (cI, 30, .inl mIm)), (m7, .inl (cI, 5, .inl mWi)), (m8, .inl (cI, 6, .inl mSn)), (m9, .inl (cI, 15, .inl mHe)), (m10, .inl (cI, 384, .inl a17_1)), (m11, .inl (cI, 5, .inl mRo)), (m12, .inl (cI, 5, .inl mBe))] → va_S (va_A (wM cI cC cG m0 m1 m2 m3 m4 m5 m6 m7 m8 m9 m10 m11 m12 mTy mKn mKe mCa mSe mAt mFi mSc mTx mTo mDr mSt mPa mIm mWi mSn mHe mFw mRo mBe) sz) s.heap H locs → ∀ ls : Array Slot, lv_has ls 13 [(0, .ref m0), (1, .int p0), (2, .int p1), (3, .int a17_0), (4, .int (nI j17_))] → W p l e rm_X9_reaches s m ([.ref m0, .int p0, .int p1] : List Value).toArray below meth c H locs 0 0 (MQ below (q_QWi D (wM cI cC cG m0 m1 m2 m3 m4 m5 m6 m7 m8 m9 m10 m11 m12 mTy mKn mKe mCa mSe mAt mFi mSc mTx mTo mDr mSt mPa mIm mWi mSn mHe mFw mRo mBe) (wM cI cC cG m0 m1 m2 m3 m4 m5 m6 m7 m8 m9 m10 m11 m12 mTy mKn mKe mCa mSe mAt mFi mSc mTx mTo mDr mSt mPa mIm mWi mSn mHe (g_X9_reaches_mFw mTo mSt mFw p0 p1) mRo mBe) sz (f_X9_reaches mTo mSt mFw p0 p1)) ([.ref m0, .int p0, .int p1] : List Value).toArray s 0 0 (va_A (wM cI cC cG m0 m1 m2 m3 m4 m5 m6 m7 m8 m9 m10 m11 m12 mTy mKn mKe mCa mSe mAt mFi mSc mTx mTo mDr mSt mPa mIm mWi mSn mHe mFw mRo mBe) sz)) (F0 m 17 ls []) := by
      intro n17_
      induction n17_ with
      | zero =>
        intro j17_ a17_0 a17_1 hj17_ hv17_ H locs hP hD hS ls hl
        obtain rfl : j17_ = (Int32.toNatClampNeg ((1 : Int32) <<< ((mTo 0) &&& 31))) := by omega
        refine lv_iload hx hb dX9_reaches_17 (lv_at hl 4 rfl) ?_
        refine lv_iconst (v := 1) hx hb dX9_reaches_19 (by decide) ?_
        refine lv_aload_n hx hb dX9_reaches_20 rfl (lv_at hl 0 rfl) ?_
        refine va_get (D := D) (ci := 9) (v := .ref m2) (C := RX9) (T := TX9) (N := 20) hx hb hts hinX9 hown hK hP 0 rfl rfl 2 (by decide) hf13 (fun _ h9 => h9) rfl dX9_reaches_21 ?_
        refine lv_iconst (v := 0) hx hb dX9_reaches_24 (by decide) ?_
        refine q_iald hx hb hK hP 2 0 rfl rfl (vp_in_nI (n := 0) (N := 37) (by decide) (by decide)) 0 (by decide) dX9_reaches_25 ?_
        refine lv_ishl hx hb dX9_reaches_26 ?_
        refine lv_icmp_ge (tgt := 366) hx hb dX9_reaches_27 (by decide) (fun c_3 => ?_) (fun c_3 => ?_)
        rotate_left
        · exact absurd k_ge c_3
        have e_4 : (a17_0, a17_1) = (L_X9_reaches_17 p0 p1 mTo mSt ((Int32.toNatClampNeg ((1 : Int32) <<< ((mTo 0) &&& 31))) - 1) 1 (-4) mFw) := by rw [← hv17_]; simp only [L_X9_reaches_17]
        have e_5 : a17_0 = (L_X9_reaches_17 p0 p1 mTo mSt ((Int32.toNatClampNeg ((1 : Int32) <<< ((mTo 0) &&& 31))) - 1) 1 (-4) mFw).1 := congrArg (fun z => z.1) e_4
        have e_6 : a17_1 = (L_X9_reaches_17 p0 p1 mTo mSt ((Int32.toNatClampNeg ((1 : Int32) <<< ((mTo 0) &&& 31))) - 1) 1 (-4) mFw).2 := congrArg (fun z => z.2) e_4
        exact K17_ _ _ (by rw [← e_6]; exact hP) (by rw [← e_6]; exact hD) hS _ (by rw [← e_5]; exact (lv_sub hl [3] rfl))
      | succ n17_ ih17_ =>
        intro j17_ a17_0 a17_1 hj17_ hv17_ H locs hP hD hS ls hl
        refine lv_iload hx hb dX9_reaches_17 (lv_at hl 4 rfl) ?_
        refine lv_iconst (v := 1) hx hb dX9_reaches_19 (by decide) ?_
        refine lv_aload_n hx hb dX9_reaches_20 rfl (lv_at hl 0 rfl) ?_
        refine va_get (D := D) (ci := 9) (v := .ref m2) (C := RX9) (T := TX9) (N := 20) hx hb hts hinX9 hown hK hP 0 rfl rfl 2 (by decide) hf13 (fun _ h9 => h9) rfl dX9_reaches_21 ?_
        refine lv_iconst (v := 0) hx hb dX9_reaches_24 (by decide) ?_
        refine q_iald hx hb hK hP 2 0 rfl rfl (vp_in_nI (n := 0) (N := 37) (by decide) (by decide)) 0 (by decide) dX9_reaches_25 ?_
        refine lv_ishl hx hb dX9_reaches_26 ?_
        refine lv_icmp_ge (tgt := 366) hx hb dX9_reaches_27 (by decide) (fun c_7 => ?_) (fun c_7 => ?_)
        · exact absurd c_7 (k_le (by omega))
        refine lv_iload hx hb dX9_reaches_30 (lv_at hl 4 rfl) ?_
        refine lv_aload_n hx hb dX9_reaches_32 rfl (lv_at hl 0 rfl) ?_
        refine va_get (D := D) (ci := 9) (v := .ref m4) (C := RX9) (T := TX9) (N := 20) hx hb hts hinX9 hown hK hP 0 rfl rfl 4 (by decide) hf19 (fun _ h9 => h9) rfl dX9_reaches_33 ?_
        refine lv_bipush (v := 6) hx hb dX9_reaches_36 (by decide) ?_
        refine lv_iload_n hx hb dX9_reaches_38 rfl (lv_at hl 1 rfl) ?_
        refine lv_iadd hx hb dX9_reaches_39 ?_
        refine q_iald hx hb hK hP 4 0 rfl rfl (in_add 6 (n := 8) hk (by decide) (by decide)) (6 + (Int32.toNatClampNeg p0)) (in_addc 6 (n := 8) (N := 1000) hk (by decide) (by decide)) dX9_reaches_40 ?_
        refine lv_iand hx hb dX9_reaches_41 ?_
        refine lv_if_ne (tgt := 61) hx hb dX9_reaches_42 (by decide) (fun c_8 => ?_) (fun c_8 => ?_)
        · refine lv_iconst (v := 0) hx hb dX9_reaches_61 (by decide) ?_
          refine lv_istore (lv' := [(5, .int 0), (0, .ref m0), (1, .int p0), (2, .int p1), (3, .int a17_0), (4, .int (nI j17_))]) hx hb dX9_reaches_62 hl (by decide) rfl (fun ls hl => ?_)
          refine lv_iload hx hb dX9_reaches_64 (lv_at hl 0 rfl) ?_
          refine lv_if_eq (tgt := 79) hx hb dX9_reaches_66 (by decide) (fun c_9 => ?_) (fun c_9 => ?_)
          rotate_left
          · exact absurd (by decide : ((0 : Int32) = 0)) c_9
          refine lv_iconst (v := 0) hx hb dX9_reaches_79 (by decide) ?_
          refine lv_istore (lv' := [(6, .int 0), (5, .int 0), (0, .ref m0), (1, .int p0), (2, .int p1), (3, .int a17_0), (4, .int (nI j17_))]) hx hb dX9_reaches_80 hl (by decide) rfl (fun ls hl => ?_)
          refine lv_iconst (v := 0) hx hb dX9_reaches_82 (by decide) ?_
          refine lv_istore (lv' := [(7, .int 0), (6, .int 0), (5, .int 0), (0, .ref m0), (1, .int p0), (2, .int p1), (3, .int a17_0), (4, .int (nI j17_))]) hx hb dX9_reaches_83 hl (by decide) rfl (fun ls hl => ?_)
          have K85_ : ∀ (H : Heap) (locs : List Loc), va_P D vwCl [(m0, .inr (9, [.ref m1, .int (nI mTy), .ref m2, .ref m3, .ref m4, .ref m5, .int (nI mKn), .ref m6, .int (nI mKe), .ref m7, .int (nI mCa), .ref m8, .int (nI mSe), .int (nI mAt), .int mFi, .int mSc, .ref m9, .ref m10, .ref m11, .ref m12])), (m1, .inl (cI, 200, .inl mTx)), (m2, .inl (cI, 37, .inl mTo)), (m3, .inl (cI, 37, .inl mDr)), (m4, .inl (cI, 15, .inl mSt)), (m5, .inl (cI, 120, .inl mPa)), (m6, .inl (cI, 30, .inl mIm)), (m7, .inl (cI, 5, .inl mWi)), (m8, .inl (cI, 6, .inl mSn)), (m9, .inl (cI, 15, .inl mHe)), (m10, .inl (cI, 384, .inl (F_X9_reaches_85 p0 0 j17_ mTo mSt a17_1 (Int32.toNatClampNeg (mTo 0))))), (m11, .inl (cI, 5, .inl mRo)), (m12, .inl (cI, 5, .inl mBe))] H → va_D (va_A (wM cI cC cG m0 m1 m2 m3 m4 m5 m6 m7 m8 m9 m10 m11 m12 mTy mKn mKe mCa mSe mAt mFi mSc mTx mTo mDr mSt mPa mIm mWi mSn mHe mFw mRo mBe) sz) [(m0, .inr (9, [.ref m1, .int (nI mTy), .ref m2, .ref m3, .ref m4, .ref m5, .int (nI mKn), .ref m6, .int (nI mKe), .ref m7, .int (nI mCa), .ref m8, .int (nI mSe), .int (nI mAt), .int mFi, .int mSc, .ref m9, .ref m10, .ref m11, .ref m12])), (m1, .inl (cI, 200, .inl mTx)), (m2, .inl (cI, 37, .inl mTo)), (m3, .inl (cI, 37, .inl mDr)), (m4, .inl (cI, 15, .inl mSt)), (m5, .inl (cI, 120, .inl mPa)), (m6, .inl (cI, 30, .inl mIm)), (m7, .inl (cI, 5, .inl mWi)), (m8, .inl (cI, 6, .inl mSn)), (m9, .inl (cI, 15, .inl mHe)), (m10, .inl (cI, 384, .inl (F_X9_reaches_85 p0 0 j17_ mTo mSt a17_1 (Int32.toNatClampNeg (mTo 0))))), (m11, .inl (cI, 5, .inl mRo)), (m12, .inl (cI, 5, .inl mBe))] → va_S (va_A (wM cI cC cG m0 m1 m2 m3 m4 m5 m6 m7 m8 m9 m10 m11 m12 mTy mKn mKe mCa mSe mAt mFi mSc mTx mTo mDr mSt mPa mIm mWi mSn mHe mFw mRo mBe) sz) s.heap H locs → ∀ ls : Array Slot, lv_has ls 13 [(0, .ref m0), (1, .int p0), (2, .int p1), (3, .int a17_0), (4, .int (nI j17_)), (6, .int 0)] → W p l e rm_X9_reaches s m ([.ref m0, .int p0, .int p1] : List Value).toArray below meth c H locs 0 0 (MQ below (q_QWi D (wM cI cC cG m0 m1 m2 m3 m4 m5 m6 m7 m8 m9 m10 m11 m12 mTy mKn mKe mCa mSe mAt mFi mSc mTx mTo mDr mSt mPa mIm mWi mSn mHe mFw mRo mBe) (wM cI cC cG m0 m1 m2 m3 m4 m5 m6 m7 m8 m9 m10 m11 m12 mTy mKn mKe mCa mSe mAt mFi mSc mTx mTo mDr mSt mPa mIm mWi mSn mHe (g_X9_reaches_mFw mTo mSt mFw p0 p1) mRo mBe) sz (f_X9_reaches mTo mSt mFw p0 p1)) ([.ref m0, .int p0, .int p1] : List Value).toArray s 0 0 (va_A (wM cI cC cG m0 m1 m2 m3 m4 m5 m6 m7 m8 m9 m10 m11 m12 mTy mKn mKe mCa mSe mAt mFi mSc mTx mTo mDr mSt mPa mIm mWi mSn mHe mFw mRo mBe) sz)) (F0 m 300 ls []) := by
            intro H locs hP hD hS ls hl
            refine lv_aload_n hx hb dX9_reaches_300 rfl (lv_at hl 0 rfl) ?_
            refine va_get (D := D) (ci := 9) (v := .ref m10) (C := RX9) (T := TX9) (N := 20) hx hb hts hinX9 hown hK hP 0 rfl rfl 17 (by decide) hf37 (fun _ h9 => h9) rfl dX9_reaches_301 ?_
            refine lv_bipush (v := 6) hx hb dX9_reaches_304 (by decide) ?_
            refine lv_iload hx hb dX9_reaches_306 (lv_at hl 4 rfl) ?_
            refine q_imulN (a := 6) (b := j17_) hx hb dX9_reaches_308 ?_
            refine lv_iload_n hx hb dX9_reaches_309 rfl (lv_at hl 2 rfl) ?_
            refine lv_iadd hx hb dX9_reaches_310 ?_
            refine q_iald hx hb hK hP 10 0 rfl rfl (in_add (6 * j17_) (n := 6) hi (by omega) (by decide)) ((6 * j17_) + (Int32.toNatClampNeg p1)) (in_addc (6 * j17_) (n := 6) (N := 1000) hi (by omega) (by decide)) dX9_reaches_311 ?_
            refine lv_if_ge (tgt := 319) hx hb dX9_reaches_312 (by decide) (fun c_10 => ?_) (fun c_10 => ?_)
            · refine lv_aload_n hx hb dX9_reaches_319 rfl (lv_at hl 0 rfl) ?_
              refine va_get (D := D) (ci := 9) (v := .ref m10) (C := RX9) (T := TX9) (N := 20) hx hb hts hinX9 hown hK hP 0 rfl rfl 17 (by decide) hf37 (fun _ h9 => h9) rfl dX9_reaches_320 ?_
              refine lv_bipush (v := 6) hx hb dX9_reaches_323 (by decide) ?_
              refine lv_iload hx hb dX9_reaches_325 (lv_at hl 4 rfl) ?_
              refine q_imulN (a := 6) (b := j17_) hx hb dX9_reaches_327 ?_
              refine lv_iload_n hx hb dX9_reaches_328 rfl (lv_at hl 2 rfl) ?_
              refine lv_iadd hx hb dX9_reaches_329 ?_
              refine q_iald hx hb hK hP 10 0 rfl rfl (in_add (6 * j17_) (n := 6) hi (by omega) (by decide)) ((6 * j17_) + (Int32.toNatClampNeg p1)) (in_addc (6 * j17_) (n := 6) (N := 1000) hi (by omega) (by decide)) dX9_reaches_330 ?_
              refine lv_iload hx hb dX9_reaches_331 (lv_at hl 5 rfl) ?_
              refine lv_iadd hx hb dX9_reaches_333 ?_
              refine lv_istore (lv' := [(7, .int (((F_X9_reaches_85 p0 0 j17_ mTo mSt a17_1 (Int32.toNatClampNeg (mTo 0))) ((6 * j17_) + (Int32.toNatClampNeg p1))) + 0)), (0, .ref m0), (1, .int p0), (2, .int p1), (3, .int a17_0), (4, .int (nI j17_)), (6, .int 0)]) hx hb dX9_reaches_334 hl (by decide) rfl (fun ls hl => ?_)
              refine lv_iload hx hb dX9_reaches_336 (lv_at hl 0 rfl) ?_
              refine lv_if_lt (tgt := 358) hx hb dX9_reaches_338 (by decide) (fun c_11 => ?_) (fun c_11 => ?_)
              · refine lv_iload_n hx hb dX9_reaches_358 rfl (lv_at hl 4 rfl) ?_
                refine lv_istore_n (lv' := [(3, .int a17_0), (7, .int (((F_X9_reaches_85 p0 0 j17_ mTo mSt a17_1 (Int32.toNatClampNeg (mTo 0))) ((6 * j17_) + (Int32.toNatClampNeg p1))) + 0)), (0, .ref m0), (1, .int p0), (2, .int p1), (4, .int (nI j17_)), (6, .int 0)]) hx hb dX9_reaches_359 rfl hl (by decide) rfl (fun ls hl => ?_)
                refine lv_iinc (v := (nI (j17_ + 1))) (lv' := [(4, .int (nI (j17_ + 1))), (3, .int a17_0), (7, .int (((F_X9_reaches_85 p0 0 j17_ mTo mSt a17_1 (Int32.toNatClampNeg (mTo 0))) ((6 * j17_) + (Int32.toNatClampNeg p1))) + 0)), (0, .ref m0), (1, .int p0), (2, .int p1), (6, .int 0)]) hx hb dX9_reaches_360 hl (k := 5) rfl (nI_1 _) (by decide) rfl (fun ls hl => ?_)
                refine lv_goto (tgt := 17) hx hb dX9_reaches_363 (by decide) ?_
                exact ih17_ (j17_ + 1) a17_0 (F_X9_reaches_85 p0 0 j17_ mTo mSt a17_1 (Int32.toNatClampNeg (mTo 0))) (by omega) (by rw [← hv17_]; simp only [L_X9_reaches_17, if_neg c_8, if_pos (by decide : ((0 : Int32) = 0)), if_pos c_10, if_pos c_11, if_pos trivial, if_neg not_false]) _ _ hP hD hS _ (lv_sub hl [3, 4, 5, 1, 0] rfl)
              refine lv_iload_n hx hb dX9_reaches_341 rfl (lv_at hl 4 rfl) ?_
              refine lv_bipush (v := (-4)) hx hb dX9_reaches_342 (by decide) ?_
              refine lv_icmp_eq (tgt := 353) hx hb dX9_reaches_344 (by decide) (fun c_12 => ?_) (fun c_12 => ?_)
              · refine lv_iload hx hb dX9_reaches_353 (lv_at hl 0 rfl) ?_
                refine lv_goto (tgt := 359) hx hb dX9_reaches_355 (by decide) ?_
                refine lv_istore_n (lv' := [(3, .int (((F_X9_reaches_85 p0 0 j17_ mTo mSt a17_1 (Int32.toNatClampNeg (mTo 0))) ((6 * j17_) + (Int32.toNatClampNeg p1))) + 0)), (7, .int (((F_X9_reaches_85 p0 0 j17_ mTo mSt a17_1 (Int32.toNatClampNeg (mTo 0))) ((6 * j17_) + (Int32.toNatClampNeg p1))) + 0)), (0, .ref m0), (1, .int p0), (2, .int p1), (4, .int (nI j17_)), (6, .int 0)]) hx hb dX9_reaches_359 rfl hl (by decide) rfl (fun ls hl => ?_)
                refine lv_iinc (v := (nI (j17_ + 1))) (lv' := [(4, .int (nI (j17_ + 1))), (3, .int (((F_X9_reaches_85 p0 0 j17_ mTo mSt a17_1 (Int32.toNatClampNeg (mTo 0))) ((6 * j17_) + (Int32.toNatClampNeg p1))) + 0)), (7, .int (((F_X9_reaches_85 p0 0 j17_ mTo mSt a17_1 (Int32.toNatClampNeg (mTo 0))) ((6 * j17_) + (Int32.toNatClampNeg p1))) + 0)), (0, .ref m0), (1, .int p0), (2, .int p1), (6, .int 0)]) hx hb dX9_reaches_360 hl (k := 5) rfl (nI_1 _) (by decide) rfl (fun ls hl => ?_)
                refine lv_goto (tgt := 17) hx hb dX9_reaches_363 (by decide) ?_
                exact ih17_ (j17_ + 1) (((F_X9_reaches_85 p0 0 j17_ mTo mSt a17_1 (Int32.toNatClampNeg (mTo 0))) ((6 * j17_) + (Int32.toNatClampNeg p1))) + 0) (F_X9_reaches_85 p0 0 j17_ mTo mSt a17_1 (Int32.toNatClampNeg (mTo 0))) (by omega) (by rw [← hv17_]; simp only [L_X9_reaches_17, if_neg c_8, if_pos (by decide : ((0 : Int32) = 0)), if_pos c_10, if_neg c_11, if_pos c_12, if_pos trivial, if_neg not_false]) _ _ hP hD hS _ (lv_sub hl [3, 4, 5, 1, 0] rfl)
              refine lv_iload hx hb dX9_reaches_347 (lv_at hl 0 rfl) ?_
              refine lv_iload_n hx hb dX9_reaches_349 rfl (lv_at hl 4 rfl) ?_
              refine lv_icmp_ge (tgt := 358) hx hb dX9_reaches_350 (by decide) (fun c_13 => ?_) (fun c_13 => ?_)
              · refine lv_iload_n hx hb dX9_reaches_358 rfl (lv_at hl 4 rfl) ?_
                refine lv_istore_n (lv' := [(3, .int a17_0), (7, .int (((F_X9_reaches_85 p0 0 j17_ mTo mSt a17_1 (Int32.toNatClampNeg (mTo 0))) ((6 * j17_) + (Int32.toNatClampNeg p1))) + 0)), (0, .ref m0), (1, .int p0), (2, .int p1), (4, .int (nI j17_)), (6, .int 0)]) hx hb dX9_reaches_359 rfl hl (by decide) rfl (fun ls hl => ?_)
                refine lv_iinc (v := (nI (j17_ + 1))) (lv' := [(4, .int (nI (j17_ + 1))), (3, .int a17_0), (7, .int (((F_X9_reaches_85 p0 0 j17_ mTo mSt a17_1 (Int32.toNatClampNeg (mTo 0))) ((6 * j17_) + (Int32.toNatClampNeg p1))) + 0)), (0, .ref m0), (1, .int p0), (2, .int p1), (6, .int 0)]) hx hb dX9_reaches_360 hl (k := 5) rfl (nI_1 _) (by decide) rfl (fun ls hl => ?_)
                refine lv_goto (tgt := 17) hx hb dX9_reaches_363 (by decide) ?_
                exact ih17_ (j17_ + 1) a17_0 (F_X9_reaches_85 p0 0 j17_ mTo mSt a17_1 (Int32.toNatClampNeg (mTo 0))) (by omega) (by rw [← hv17_]; simp only [L_X9_reaches_17, if_neg c_8, if_pos (by decide : ((0 : Int32) = 0)), if_pos c_10, if_neg c_11, if_neg c_12, if_pos c_13, if_pos trivial, if_neg not_false]) _ _ hP hD hS _ (lv_sub hl [3, 4, 5, 1, 0] rfl)
              refine lv_iload hx hb dX9_reaches_353 (lv_at hl 0 rfl) ?_
              refine lv_goto (tgt := 359) hx hb dX9_reaches_355 (by decide) ?_
              refine lv_istore_n (lv' := [(3, .int (((F_X9_reaches_85 p0 0 j17_ mTo mSt a17_1 (Int32.toNatClampNeg (mTo 0))) ((6 * j17_) + (Int32.toNatClampNeg p1))) + 0)), (7, .int (((F_X9_reaches_85 p0 0 j17_ mTo mSt a17_1 (Int32.toNatClampNeg (mTo 0))) ((6 * j17_) + (Int32.toNatClampNeg p1))) + 0)), (0, .ref m0), (1, .int p0), (2, .int p1), (4, .int (nI j17_)), (6, .int 0)]) hx hb dX9_reaches_359 rfl hl (by decide) rfl (fun ls hl => ?_)
              refine lv_iinc (v := (nI (j17_ + 1))) (lv' := [(4, .int (nI (j17_ + 1))), (3, .int (((F_X9_reaches_85 p0 0 j17_ mTo mSt a17_1 (Int32.toNatClampNeg (mTo 0))) ((6 * j17_) + (Int32.toNatClampNeg p1))) + 0)), (7, .int (((F_X9_reaches_85 p0 0 j17_ mTo mSt a17_1 (Int32.toNatClampNeg (mTo 0))) ((6 * j17_) + (Int32.toNatClampNeg p1))) + 0)), (0, .ref m0), (1, .int p0), (2, .int p1), (6, .int 0)]) hx hb dX9_reaches_360 hl (k := 5) rfl (nI_1 _) (by decide) rfl (fun ls hl => ?_)
              refine lv_goto (tgt := 17) hx hb dX9_reaches_363 (by decide) ?_
              exact ih17_ (j17_ + 1) (((F_X9_reaches_85 p0 0 j17_ mTo mSt a17_1 (Int32.toNatClampNeg (mTo 0))) ((6 * j17_) + (Int32.toNatClampNeg p1))) + 0) (F_X9_reaches_85 p0 0 j17_ mTo mSt a17_1 (Int32.toNatClampNeg (mTo 0))) (by omega) (by rw [← hv17_]; simp only [L_X9_reaches_17, if_neg c_8, if_pos (by decide : ((0 : Int32) = 0)), if_pos c_10, if_neg c_11, if_neg c_12, if_neg c_13, if_pos trivial, if_neg not_false]) _ _ hP hD hS _ (lv_sub hl [3, 4, 5, 1, 0] rfl)
            refine lv_iconst (v := (-1)) hx hb dX9_reaches_315 (by decide) ?_
            refine lv_goto (tgt := 334) hx hb dX9_reaches_316 (by decide) ?_
            refine lv_istore (lv' := [(7, .int (-1)), (0, .ref m0), (1, .int p0), (2, .int p1), (3, .int a17_0), (4, .int (nI j17_)), (6, .int 0)]) hx hb dX9_reaches_334 hl (by decide) rfl (fun ls hl => ?_)
            refine lv_iload hx hb dX9_reaches_336 (lv_at hl 0 rfl) ?_
            refine lv_if_lt (tgt := 358) hx hb dX9_reaches_338 (by decide) (fun c_14 => ?_) (fun c_14 => ?_)
            rotate_left
            · exact absurd (by decide : (((-1) : Int32) < 0)) c_14
            refine lv_iload_n hx hb dX9_reaches_358 rfl (lv_at hl 4 rfl) ?_
            refine lv_istore_n (lv' := [(3, .int a17_0), (7, .int (-1)), (0, .ref m0), (1, .int p0), (2, .int p1), (4, .int (nI j17_)), (6, .int 0)]) hx hb dX9_reaches_359 rfl hl (by decide) rfl (fun ls hl => ?_)
            refine lv_iinc (v := (nI (j17_ + 1))) (lv' := [(4, .int (nI (j17_ + 1))), (3, .int a17_0), (7, .int (-1)), (0, .ref m0), (1, .int p0), (2, .int p1), (6, .int 0)]) hx hb dX9_reaches_360 hl (k := 5) rfl (nI_1 _) (by decide) rfl (fun ls hl => ?_)
            refine lv_goto (tgt := 17) hx hb dX9_reaches_363 (by decide) ?_
            exact ih17_ (j17_ + 1) a17_0 (F_X9_reaches_85 p0 0 j17_ mTo mSt a17_1 (Int32.toNatClampNeg (mTo 0))) (by omega) (by rw [← hv17_]; simp only [L_X9_reaches_17, if_neg c_8, if_pos (by decide : ((0 : Int32) = 0)), if_neg c_10, if_pos (by decide : (((-1) : Int32) < 0)), if_pos trivial, if_neg not_false]) _ _ hP hD hS _ (lv_sub hl [3, 4, 5, 1, 0] rfl)
          have loop85_ : ∀ (n85_ j85_ : Nat), j85_ + n85_ = (Int32.toNatClampNeg (mTo 0)) → ∀ (H : Heap) (locs : List Loc), va_P D vwCl [(m0, .inr (9, [.ref m1, .int (nI mTy), .ref m2, .ref m3, .ref m4, .ref m5, .int (nI mKn), .ref m6, .int (nI mKe), .ref m7, .int (nI mCa), .ref m8, .int (nI mSe), .int (nI mAt), .int mFi, .int mSc, .ref m9, .ref m10, .ref m11, .ref m12])), (m1, .inl (cI, 200, .inl mTx)), (m2, .inl (cI, 37, .inl mTo)), (m3, .inl (cI, 37, .inl mDr)), (m4, .inl (cI, 15, .inl mSt)), (m5, .inl (cI, 120, .inl mPa)), (m6, .inl (cI, 30, .inl mIm)), (m7, .inl (cI, 5, .inl mWi)), (m8, .inl (cI, 6, .inl mSn)), (m9, .inl (cI, 15, .inl mHe)), (m10, .inl (cI, 384, .inl (F_X9_reaches_85 p0 0 j17_ mTo mSt a17_1 j85_))), (m11, .inl (cI, 5, .inl mRo)), (m12, .inl (cI, 5, .inl mBe))] H → va_D (va_A (wM cI cC cG m0 m1 m2 m3 m4 m5 m6 m7 m8 m9 m10 m11 m12 mTy mKn mKe mCa mSe mAt mFi mSc mTx mTo mDr mSt mPa mIm mWi mSn mHe mFw mRo mBe) sz) [(m0, .inr (9, [.ref m1, .int (nI mTy), .ref m2, .ref m3, .ref m4, .ref m5, .int (nI mKn), .ref m6, .int (nI mKe), .ref m7, .int (nI mCa), .ref m8, .int (nI mSe), .int (nI mAt), .int mFi, .int mSc, .ref m9, .ref m10, .ref m11, .ref m12])), (m1, .inl (cI, 200, .inl mTx)), (m2, .inl (cI, 37, .inl mTo)), (m3, .inl (cI, 37, .inl mDr)), (m4, .inl (cI, 15, .inl mSt)), (m5, .inl (cI, 120, .inl mPa)), (m6, .inl (cI, 30, .inl mIm)), (m7, .inl (cI, 5, .inl mWi)), (m8, .inl (cI, 6, .inl mSn)), (m9, .inl (cI, 15, .inl mHe)), (m10, .inl (cI, 384, .inl (F_X9_reaches_85 p0 0 j17_ mTo mSt a17_1 j85_))), (m11, .inl (cI, 5, .inl mRo)), (m12, .inl (cI, 5, .inl mBe))] → va_S (va_A (wM cI cC cG m0 m1 m2 m3 m4 m5 m6 m7 m8 m9 m10 m11 m12 mTy mKn mKe mCa mSe mAt mFi mSc mTx mTo mDr mSt mPa mIm mWi mSn mHe mFw mRo mBe) sz) s.heap H locs → ∀ ls : Array Slot, lv_has ls 13 [(0, .ref m0), (1, .int p0), (2, .int p1), (3, .int a17_0), (4, .int (nI j17_)), (5, .int 0), (6, .int 0), (7, .int (nI j85_))] → W p l e rm_X9_reaches s m ([.ref m0, .int p0, .int p1] : List Value).toArray below meth c H locs 0 0 (MQ below (q_QWi D (wM cI cC cG m0 m1 m2 m3 m4 m5 m6 m7 m8 m9 m10 m11 m12 mTy mKn mKe mCa mSe mAt mFi mSc mTx mTo mDr mSt mPa mIm mWi mSn mHe mFw mRo mBe) (wM cI cC cG m0 m1 m2 m3 m4 m5 m6 m7 m8 m9 m10 m11 m12 mTy mKn mKe mCa mSe mAt mFi mSc mTx mTo mDr mSt mPa mIm mWi mSn mHe (g_X9_reaches_mFw mTo mSt mFw p0 p1) mRo mBe) sz (f_X9_reaches mTo mSt mFw p0 p1)) ([.ref m0, .int p0, .int p1] : List Value).toArray s 0 0 (va_A (wM cI cC cG m0 m1 m2 m3 m4 m5 m6 m7 m8 m9 m10 m11 m12 mTy mKn mKe mCa mSe mAt mFi mSc mTx mTo mDr mSt mPa mIm mWi mSn mHe mFw mRo mBe) sz)) (F0 m 85 ls []) := by
            intro n85_
            induction n85_ with
            | zero =>
              intro j85_ hj85_ H locs hP hD hS ls hl
              obtain rfl : j85_ = (Int32.toNatClampNeg (mTo 0)) := by omega
              refine lv_iload hx hb dX9_reaches_85 (lv_at hl 7 rfl) ?_
              refine lv_aload_n hx hb dX9_reaches_87 rfl (lv_at hl 0 rfl) ?_
              refine va_get (D := D) (ci := 9) (v := .ref m2) (C := RX9) (T := TX9) (N := 20) hx hb hts hinX9 hown hK hP 0 rfl rfl 2 (by decide) hf13 (fun _ h9 => h9) rfl dX9_reaches_88 ?_
              refine lv_iconst (v := 0) hx hb dX9_reaches_91 (by decide) ?_
              refine q_iald hx hb hK hP 2 0 rfl rfl (vp_in_nI (n := 0) (N := 37) (by decide) (by decide)) 0 (by decide) dX9_reaches_92 ?_
              refine lv_icmp_ge (tgt := 300) hx hb dX9_reaches_93 (by decide) (fun c_15 => ?_) (fun c_15 => ?_)
              rotate_left
              · exact absurd k_ge c_15
              exact K85_ _ _ hP hD hS _ (lv_sub hl [0, 1, 2, 3, 4, 6] rfl)
            | succ n85_ ih85_ =>
              intro j85_ hj85_ H locs hP hD hS ls hl
              refine lv_iload hx hb dX9_reaches_85 (lv_at hl 7 rfl) ?_
              refine lv_aload_n hx hb dX9_reaches_87 rfl (lv_at hl 0 rfl) ?_
              refine va_get (D := D) (ci := 9) (v := .ref m2) (C := RX9) (T := TX9) (N := 20) hx hb hts hinX9 hown hK hP 0 rfl rfl 2 (by decide) hf13 (fun _ h9 => h9) rfl dX9_reaches_88 ?_
              refine lv_iconst (v := 0) hx hb dX9_reaches_91 (by decide) ?_
              refine q_iald hx hb hK hP 2 0 rfl rfl (vp_in_nI (n := 0) (N := 37) (by decide) (by decide)) 0 (by decide) dX9_reaches_92 ?_
              refine lv_icmp_ge (tgt := 300) hx hb dX9_reaches_93 (by decide) (fun c_16 => ?_) (fun c_16 => ?_)
              · exact absurd c_16 (k_le (by omega))
              refine lv_aload_n hx hb dX9_reaches_96 rfl (lv_at hl 0 rfl) ?_
              refine va_get (D := D) (ci := 9) (v := .ref m2) (C := RX9) (T := TX9) (N := 20) hx hb hts hinX9 hown hK hP 0 rfl rfl 2 (by decide) hf13 (fun _ h9 => h9) rfl dX9_reaches_97 ?_
              refine lv_bipush (v := 9) hx hb dX9_reaches_100 (by decide) ?_
              refine lv_iload hx hb dX9_reaches_102 (lv_at hl 7 rfl) ?_
              refine q_iaddN (a := 9) (b := j85_) hx hb dX9_reaches_104 ?_
              refine q_iald hx hb hK hP 2 0 rfl rfl (vp_in_nI (by omega) (by decide)) (9 + j85_) (nI_clamp (by omega)) dX9_reaches_105 ?_
              refine lv_iconst (v := 4) hx hb dX9_reaches_106 (by decide) ?_
              refine lv_icmp_ne (tgt := 114) hx hb dX9_reaches_107 (by decide) (fun c_17 => ?_) (fun c_17 => ?_)
              · refine lv_iconst (v := 0) hx hb dX9_reaches_114 (by decide) ?_
                refine lv_istore (lv' := [(8, .int 0), (0, .ref m0), (1, .int p0), (2, .int p1), (3, .int a17_0), (4, .int (nI j17_)), (5, .int 0), (6, .int 0), (7, .int (nI j85_))]) hx hb dX9_reaches_115 hl (by decide) rfl (fun ls hl => ?_)
                refine lv_iconst (v := (-1)) hx hb dX9_reaches_117 (by decide) ?_
                refine lv_istore (lv' := [(9, .int (-1)), (8, .int 0), (0, .ref m0), (1, .int p0), (2, .int p1), (3, .int a17_0), (4, .int (nI j17_)), (5, .int 0), (6, .int 0), (7, .int (nI j85_))]) hx hb dX9_reaches_118 hl (by decide) rfl (fun ls hl => ?_)
                refine lv_iload hx hb dX9_reaches_120 (lv_at hl 7 rfl) ?_
                refine lv_if_eq (tgt := 279) hx hb dX9_reaches_122 (by decide) (fun c_18 => ?_) (fun c_18 => ?_)
                rotate_left
                · exact absurd (by decide : ((0 : Int32) = 0)) c_18
                refine lv_aload_n hx hb dX9_reaches_279 rfl (lv_at hl 2 rfl) ?_
                refine va_get (D := D) (ci := 9) (v := .ref m10) (C := RX9) (T := TX9) (N := 20) hx hb hts hinX9 hown hK hP 0 rfl rfl 17 (by decide) hf37 (fun _ h9 => h9) rfl dX9_reaches_280 ?_
                refine lv_bipush (v := 6) hx hb dX9_reaches_283 (by decide) ?_
                refine lv_iload hx hb dX9_reaches_285 (lv_at hl 6 rfl) ?_
                refine q_imulN (a := 6) (b := j17_) hx hb dX9_reaches_287 ?_
                refine lv_iload hx hb dX9_reaches_288 (lv_at hl 9 rfl) ?_
                refine q_iaddN (a := (6 * j17_)) (b := j85_) hx hb dX9_reaches_290 ?_
                refine lv_iload hx hb dX9_reaches_291 (lv_at hl 0 rfl) ?_
                refine q_iast hx hb hK hP hD hS 10 0 rfl rfl (vp_in_nI (by omega) (by decide)) ((6 * j17_) + j85_) (nI_clamp (by omega)) dX9_reaches_293 (fun H locs hP hD hS => ?_)
                have hP : va_P D vwCl [(m0, .inr (9, [.ref m1, .int (nI mTy), .ref m2, .ref m3, .ref m4, .ref m5, .int (nI mKn), .ref m6, .int (nI mKe), .ref m7, .int (nI mCa), .ref m8, .int (nI mSe), .int (nI mAt), .int mFi, .int mSc, .ref m9, .ref m10, .ref m11, .ref m12])), (m1, .inl (cI, 200, .inl mTx)), (m2, .inl (cI, 37, .inl mTo)), (m3, .inl (cI, 37, .inl mDr)), (m4, .inl (cI, 15, .inl mSt)), (m5, .inl (cI, 120, .inl mPa)), (m6, .inl (cI, 30, .inl mIm)), (m7, .inl (cI, 5, .inl mWi)), (m8, .inl (cI, 6, .inl mSn)), (m9, .inl (cI, 15, .inl mHe)), (m10, .inl (cI, 384, .inl (upd (F_X9_reaches_85 p0 0 j17_ mTo mSt a17_1 j85_) ((6 * j17_) + j85_) (-1)))), (m11, .inl (cI, 5, .inl mRo)), (m12, .inl (cI, 5, .inl mBe))] H := hP
                have hD : va_D (va_A (wM cI cC cG m0 m1 m2 m3 m4 m5 m6 m7 m8 m9 m10 m11 m12 mTy mKn mKe mCa mSe mAt mFi mSc mTx mTo mDr mSt mPa mIm mWi mSn mHe mFw mRo mBe) sz) [(m0, .inr (9, [.ref m1, .int (nI mTy), .ref m2, .ref m3, .ref m4, .ref m5, .int (nI mKn), .ref m6, .int (nI mKe), .ref m7, .int (nI mCa), .ref m8, .int (nI mSe), .int (nI mAt), .int mFi, .int mSc, .ref m9, .ref m10, .ref m11, .ref m12])), (m1, .inl (cI, 200, .inl mTx)), (m2, .inl (cI, 37, .inl mTo)), (m3, .inl (cI, 37, .inl mDr)), (m4, .inl (cI, 15, .inl mSt)), (m5, .inl (cI, 120, .inl mPa)), (m6, .inl (cI, 30, .inl mIm)), (m7, .inl (cI, 5, .inl mWi)), (m8, .inl (cI, 6, .inl mSn)), (m9, .inl (cI, 15, .inl mHe)), (m10, .inl (cI, 384, .inl (upd (F_X9_reaches_85 p0 0 j17_ mTo mSt a17_1 j85_) ((6 * j17_) + j85_) (-1)))), (m11, .inl (cI, 5, .inl mRo)), (m12, .inl (cI, 5, .inl mBe))] := hD
                refine lv_iinc (v := (nI (j85_ + 1))) (lv' := [(7, .int (nI (j85_ + 1))), (9, .int (-1)), (8, .int 0), (0, .ref m0), (1, .int p0), (2, .int p1), (3, .int a17_0), (4, .int (nI j17_)), (5, .int 0), (6, .int 0)]) hx hb dX9_reaches_294 hl (k := 9) rfl (nI_1 _) (by decide) rfl (fun ls hl => ?_)
                refine lv_goto (tgt := 85) hx hb dX9_reaches_297 (by decide) ?_
                have e_19 : (F_X9_reaches_85 p0 0 j17_ mTo mSt a17_1 (j85_ + 1)) = (upd (F_X9_reaches_85 p0 0 j17_ mTo mSt a17_1 j85_) ((6 * j17_) + j85_) (-1)) := by simp only [F_X9_reaches_85, if_neg c_17, if_pos (by decide : ((0 : Int32) = 0)), if_pos trivial, if_neg not_false]
                exact ih85_ (j85_ + 1) (by omega) _ _ (by rw [e_19]; exact hP) (by rw [e_19]; exact hD) hS _ (lv_sub hl [3, 4, 5, 6, 7, 8, 9, 0] rfl)
              refine lv_iconst (v := 1) hx hb dX9_reaches_110 (by decide) ?_
              refine lv_goto (tgt := 115) hx hb dX9_reaches_111 (by decide) ?_
              refine lv_istore (lv' := [(8, .int 1), (0, .ref m0), (1, .int p0), (2, .int p1), (3, .int a17_0), (4, .int (nI j17_)), (5, .int 0), (6, .int 0), (7, .int (nI j85_))]) hx hb dX9_reaches_115 hl (by decide) rfl (fun ls hl => ?_)
              refine lv_iconst (v := (-1)) hx hb dX9_reaches_117 (by decide) ?_
              refine lv_istore (lv' := [(9, .int (-1)), (8, .int 1), (0, .ref m0), (1, .int p0), (2, .int p1), (3, .int a17_0), (4, .int (nI j17_)), (5, .int 0), (6, .int 0), (7, .int (nI j85_))]) hx hb dX9_reaches_118 hl (by decide) rfl (fun ls hl => ?_)
              refine lv_iload hx hb dX9_reaches_120 (lv_at hl 7 rfl) ?_
              refine lv_if_eq (tgt := 279) hx hb dX9_reaches_122 (by decide) (fun c_20 => ?_) (fun c_20 => ?_)
              rotate_left
              · exact absurd (by decide : ((0 : Int32) = 0)) c_20
              refine lv_aload_n hx hb dX9_reaches_279 rfl (lv_at hl 2 rfl) ?_
              refine va_get (D := D) (ci := 9) (v := .ref m10) (C := RX9) (T := TX9) (N := 20) hx hb hts hinX9 hown hK hP 0 rfl rfl 17 (by decide) hf37 (fun _ h9 => h9) rfl dX9_reaches_280 ?_
              refine lv_bipush (v := 6) hx hb dX9_reaches_283 (by decide) ?_
              refine lv_iload hx hb dX9_reaches_285 (lv_at hl 6 rfl) ?_
              refine q_imulN (a := 6) (b := j17_) hx hb dX9_reaches_287 ?_
              refine lv_iload hx hb dX9_reaches_288 (lv_at hl 9 rfl) ?_
              refine q_iaddN (a := (6 * j17_)) (b := j85_) hx hb dX9_reaches_290 ?_
              refine lv_iload hx hb dX9_reaches_291 (lv_at hl 0 rfl) ?_
              refine q_iast hx hb hK hP hD hS 10 0 rfl rfl (vp_in_nI (by omega) (by decide)) ((6 * j17_) + j85_) (nI_clamp (by omega)) dX9_reaches_293 (fun H locs hP hD hS => ?_)
              have hP : va_P D vwCl [(m0, .inr (9, [.ref m1, .int (nI mTy), .ref m2, .ref m3, .ref m4, .ref m5, .int (nI mKn), .ref m6, .int (nI mKe), .ref m7, .int (nI mCa), .ref m8, .int (nI mSe), .int (nI mAt), .int mFi, .int mSc, .ref m9, .ref m10, .ref m11, .ref m12])), (m1, .inl (cI, 200, .inl mTx)), (m2, .inl (cI, 37, .inl mTo)), (m3, .inl (cI, 37, .inl mDr)), (m4, .inl (cI, 15, .inl mSt)), (m5, .inl (cI, 120, .inl mPa)), (m6, .inl (cI, 30, .inl mIm)), (m7, .inl (cI, 5, .inl mWi)), (m8, .inl (cI, 6, .inl mSn)), (m9, .inl (cI, 15, .inl mHe)), (m10, .inl (cI, 384, .inl (upd (F_X9_reaches_85 p0 0 j17_ mTo mSt a17_1 j85_) ((6 * j17_) + j85_) (-1)))), (m11, .inl (cI, 5, .inl mRo)), (m12, .inl (cI, 5, .inl mBe))] H := hP
              have hD : va_D (va_A (wM cI cC cG m0 m1 m2 m3 m4 m5 m6 m7 m8 m9 m10 m11 m12 mTy mKn mKe mCa mSe mAt mFi mSc mTx mTo mDr mSt mPa mIm mWi mSn mHe mFw mRo mBe) sz) [(m0, .inr (9, [.ref m1, .int (nI mTy), .ref m2, .ref m3, .ref m4, .ref m5, .int (nI mKn), .ref m6, .int (nI mKe), .ref m7, .int (nI mCa), .ref m8, .int (nI mSe), .int (nI mAt), .int mFi, .int mSc, .ref m9, .ref m10, .ref m11, .ref m12])), (m1, .inl (cI, 200, .inl mTx)), (m2, .inl (cI, 37, .inl mTo)), (m3, .inl (cI, 37, .inl mDr)), (m4, .inl (cI, 15, .inl mSt)), (m5, .inl (cI, 120, .inl mPa)), (m6, .inl (cI, 30, .inl mIm)), (m7, .inl (cI, 5, .inl mWi)), (m8, .inl (cI, 6, .inl mSn)), (m9, .inl (cI, 15, .inl mHe)), (m10, .inl (cI, 384, .inl (upd (F_X9_reaches_85 p0 0 j17_ mTo mSt a17_1 j85_) ((6 * j17_) + j85_) (-1)))), (m11, .inl (cI, 5, .inl mRo)), (m12, .inl (cI, 5, .inl mBe))] := hD
              refine lv_iinc (v := (nI (j85_ + 1))) (lv' := [(7, .int (nI (j85_ + 1))), (9, .int (-1)), (8, .int 1), (0, .ref m0), (1, .int p0), (2, .int p1), (3, .int a17_0), (4, .int (nI j17_)), (5, .int 0), (6, .int 0)]) hx hb dX9_reaches_294 hl (k := 9) rfl (nI_1 _) (by decide) rfl (fun ls hl => ?_)
              refine lv_goto (tgt := 85) hx hb dX9_reaches_297 (by decide) ?_
              have e_21 : (F_X9_reaches_85 p0 0 j17_ mTo mSt a17_1 (j85_ + 1)) = (upd (F_X9_reaches_85 p0 0 j17_ mTo mSt a17_1 j85_) ((6 * j17_) + j85_) (-1)) := by simp only [F_X9_reaches_85, if_pos c_17, if_pos (by decide : ((0 : Int32) = 0)), if_pos trivial, if_neg not_false]
              exact ih85_ (j85_ + 1) (by omega) _ _ (by rw [e_21]; exact hP) (by rw [e_21]; exact hD) hS _ (lv_sub hl [3, 4, 5, 6, 7, 8, 9, 0] rfl)
          exact loop85_ (Int32.toNatClampNeg (mTo 0)) 0 (by omega) _ _ hP hD hS _ (lv_sub hl [3, 4, 5, 6, 7, 2, 1, 0] rfl)
        refine lv_iload hx hb dX9_reaches_45 (lv_at hl 4 rfl) ?_
        refine lv_aload_n hx hb dX9_reaches_47 rfl (lv_at hl 0 rfl) ?_
        refine ro_i (va_runV (As := []) (rest := [.int (nI j17_)]) ⟨hx, hb, hml, hown, hts⟩ (c_X9_alive l D cI cC cG m0 m1 m2 m3 m4 m5 m6 m7 m8 m9 m10 m11 m12 mTy mKn mKe mCa mSe mAt mFi mSc mTx mTo mDr mSt mPa mIm mWi mSn mHe a17_1 mRo mBe hM) (cwV 0 hts gX9_reaches_X9_alive rfl rfl rfl (by decide +kernel) ⟨Nat.le_of_ble_eq_true rfl, Nat.le_of_ble_eq_true rfl⟩) (q_preV hK hP hN [0, 1, 2, 3, 4, 5, 6, 7, 8, 9, 10, 11, 12] rfl (ci := 9) (q0 := 0) rfl rfl) rfl rfl hl.1 rfl (lv_room (Nat.le_of_ble_eq_true rfl)) dX9_reaches_48 ⟨Nat.zero_le _, Nat.zero_le _⟩) hS hP (fun H locs hP hS => ?_)
        refine lv_iconst (v := (-1)) hx hb dX9_reaches_51 (by decide) ?_
        refine lv_ixor hx hb dX9_reaches_52 ?_
        refine lv_iand hx hb dX9_reaches_53 ?_
        refine lv_if_ne (tgt := 61) hx hb dX9_reaches_54 (by decide) (fun c_22 => ?_) (fun c_22 => ?_)
        · refine lv_iconst (v := 0) hx hb dX9_reaches_61 (by decide) ?_
          refine lv_istore (lv' := [(5, .int 0), (0, .ref m0), (1, .int p0), (2, .int p1), (3, .int a17_0), (4, .int (nI j17_))]) hx hb dX9_reaches_62 hl (by decide) rfl (fun ls hl => ?_)
          refine lv_iload hx hb dX9_reaches_64 (lv_at hl 0 rfl) ?_
          refine lv_if_eq (tgt := 79) hx hb dX9_reaches_66 (by decide) (fun c_23 => ?_) (fun c_23 => ?_)
          rotate_left
          · exact absurd (by decide : ((0 : Int32) = 0)) c_23
          refine lv_iconst (v := 0) hx hb dX9_reaches_79 (by decide) ?_
          refine lv_istore (lv' := [(6, .int 0), (5, .int 0), (0, .ref m0), (1, .int p0), (2, .int p1), (3, .int a17_0), (4, .int (nI j17_))]) hx hb dX9_reaches_80 hl (by decide) rfl (fun ls hl => ?_)
          refine lv_iconst (v := 0) hx hb dX9_reaches_82 (by decide) ?_
          refine lv_istore (lv' := [(7, .int 0), (6, .int 0), (5, .int 0), (0, .ref m0), (1, .int p0), (2, .int p1), (3, .int a17_0), (4, .int (nI j17_))]) hx hb dX9_reaches_83 hl (by decide) rfl (fun ls hl => ?_)
          have K85_ : ∀ (H : Heap) (locs : List Loc), va_P D vwCl [(m0, .inr (9, [.ref m1, .int (nI mTy), .ref m2, .ref m3, .ref m4, .ref m5, .int (nI mKn), .ref m6, .int (nI mKe), .ref m7, .int (nI mCa), .ref m8, .int (nI mSe), .int (nI mAt), .int mFi, .int mSc, .ref m9, .ref m10, .ref m11, .ref m12])), (m1, .inl (cI, 200, .inl mTx)), (m2, .inl (cI, 37, .inl mTo)), (m3, .inl (cI, 37, .inl mDr)), (m4, .inl (cI, 15, .inl mSt)), (m5, .inl (cI, 120, .inl mPa)), (m6, .inl (cI, 30, .inl mIm)), (m7, .inl (cI, 5, .inl mWi)), (m8, .inl (cI, 6, .inl mSn)), (m9, .inl (cI, 15, .inl mHe)), (m10, .inl (cI, 384, .inl (F_X9_reaches_85 p0 0 j17_ mTo mSt a17_1 (Int32.toNatClampNeg (mTo 0))))), (m11, .inl (cI, 5, .inl mRo)), (m12, .inl (cI, 5, .inl mBe))] H → va_D (va_A (wM cI cC cG m0 m1 m2 m3 m4 m5 m6 m7 m8 m9 m10 m11 m12 mTy mKn mKe mCa mSe mAt mFi mSc mTx mTo mDr mSt mPa mIm mWi mSn mHe mFw mRo mBe) sz) [(m0, .inr (9, [.ref m1, .int (nI mTy), .ref m2, .ref m3, .ref m4, .ref m5, .int (nI mKn), .ref m6, .int (nI mKe), .ref m7, .int (nI mCa), .ref m8, .int (nI mSe), .int (nI mAt), .int mFi, .int mSc, .ref m9, .ref m10, .ref m11, .ref m12])), (m1, .inl (cI, 200, .inl mTx)), (m2, .inl (cI, 37, .inl mTo)), (m3, .inl (cI, 37, .inl mDr)), (m4, .inl (cI, 15, .inl mSt)), (m5, .inl (cI, 120, .inl mPa)), (m6, .inl (cI, 30, .inl mIm)), (m7, .inl (cI, 5, .inl mWi)), (m8, .inl (cI, 6, .inl mSn)), (m9, .inl (cI, 15, .inl mHe)), (m10, .inl (cI, 384, .inl (F_X9_reaches_85 p0 0 j17_ mTo mSt a17_1 (Int32.toNatClampNeg (mTo 0))))), (m11, .inl (cI, 5, .inl mRo)), (m12, .inl (cI, 5, .inl mBe))] → va_S (va_A (wM cI cC cG m0 m1 m2 m3 m4 m5 m6 m7 m8 m9 m10 m11 m12 mTy mKn mKe mCa mSe mAt mFi mSc mTx mTo mDr mSt mPa mIm mWi mSn mHe mFw mRo mBe) sz) s.heap H locs → ∀ ls : Array Slot, lv_has ls 13 [(0, .ref m0), (1, .int p0), (2, .int p1), (3, .int a17_0), (4, .int (nI j17_)), (6, .int 0)] → W p l e rm_X9_reaches s m ([.ref m0, .int p0, .int p1] : List Value).toArray below meth c H locs 0 0 (MQ below (q_QWi D (wM cI cC cG m0 m1 m2 m3 m4 m5 m6 m7 m8 m9 m10 m11 m12 mTy mKn mKe mCa mSe mAt mFi mSc mTx mTo mDr mSt mPa mIm mWi mSn mHe mFw mRo mBe) (wM cI cC cG m0 m1 m2 m3 m4 m5 m6 m7 m8 m9 m10 m11 m12 mTy mKn mKe mCa mSe mAt mFi mSc mTx mTo mDr mSt mPa mIm mWi mSn mHe (g_X9_reaches_mFw mTo mSt mFw p0 p1) mRo mBe) sz (f_X9_reaches mTo mSt mFw p0 p1)) ([.ref m0, .int p0, .int p1] : List Value).toArray s 0 0 (va_A (wM cI cC cG m0 m1 m2 m3 m4 m5 m6 m7 m8 m9 m10 m11 m12 mTy mKn mKe mCa mSe mAt mFi mSc mTx mTo mDr mSt mPa mIm mWi mSn mHe mFw mRo mBe) sz)) (F0 m 300 ls []) := by
            intro H locs hP hD hS ls hl
            refine lv_aload_n hx hb dX9_reaches_300 rfl (lv_at hl 0 rfl) ?_
            refine va_get (D := D) (ci := 9) (v := .ref m10) (C := RX9) (T := TX9) (N := 20) hx hb hts hinX9 hown hK hP 0 rfl rfl 17 (by decide) hf37 (fun _ h9 => h9) rfl dX9_reaches_301 ?_
            refine lv_bipush (v := 6) hx hb dX9_reaches_304 (by decide) ?_
            refine lv_iload hx hb dX9_reaches_306 (lv_at hl 4 rfl) ?_
            refine q_imulN (a := 6) (b := j17_) hx hb dX9_reaches_308 ?_
            refine lv_iload_n hx hb dX9_reaches_309 rfl (lv_at hl 2 rfl) ?_
            refine lv_iadd hx hb dX9_reaches_310 ?_
            refine q_iald hx hb hK hP 10 0 rfl rfl (in_add (6 * j17_) (n := 6) hi (by omega) (by decide)) ((6 * j17_) + (Int32.toNatClampNeg p1)) (in_addc (6 * j17_) (n := 6) (N := 1000) hi (by omega) (by decide)) dX9_reaches_311 ?_
            refine lv_if_ge (tgt := 319) hx hb dX9_reaches_312 (by decide) (fun c_24 => ?_) (fun c_24 => ?_)
            · refine lv_aload_n hx hb dX9_reaches_319 rfl (lv_at hl 0 rfl) ?_
              refine va_get (D := D) (ci := 9) (v := .ref m10) (C := RX9) (T := TX9) (N := 20) hx hb hts hinX9 hown hK hP 0 rfl rfl 17 (by decide) hf37 (fun _ h9 => h9) rfl dX9_reaches_320 ?_
              refine lv_bipush (v := 6) hx hb dX9_reaches_323 (by decide) ?_
              refine lv_iload hx hb dX9_reaches_325 (lv_at hl 4 rfl) ?_
              refine q_imulN (a := 6) (b := j17_) hx hb dX9_reaches_327 ?_
              refine lv_iload_n hx hb dX9_reaches_328 rfl (lv_at hl 2 rfl) ?_
              refine lv_iadd hx hb dX9_reaches_329 ?_
              refine q_iald hx hb hK hP 10 0 rfl rfl (in_add (6 * j17_) (n := 6) hi (by omega) (by decide)) ((6 * j17_) + (Int32.toNatClampNeg p1)) (in_addc (6 * j17_) (n := 6) (N := 1000) hi (by omega) (by decide)) dX9_reaches_330 ?_
              refine lv_iload hx hb dX9_reaches_331 (lv_at hl 5 rfl) ?_
              refine lv_iadd hx hb dX9_reaches_333 ?_
              refine lv_istore (lv' := [(7, .int (((F_X9_reaches_85 p0 0 j17_ mTo mSt a17_1 (Int32.toNatClampNeg (mTo 0))) ((6 * j17_) + (Int32.toNatClampNeg p1))) + 0)), (0, .ref m0), (1, .int p0), (2, .int p1), (3, .int a17_0), (4, .int (nI j17_)), (6, .int 0)]) hx hb dX9_reaches_334 hl (by decide) rfl (fun ls hl => ?_)
              refine lv_iload hx hb dX9_reaches_336 (lv_at hl 0 rfl) ?_
              refine lv_if_lt (tgt := 358) hx hb dX9_reaches_338 (by decide) (fun c_25 => ?_) (fun c_25 => ?_)
              · refine lv_iload_n hx hb dX9_reaches_358 rfl (lv_at hl 4 rfl) ?_
                refine lv_istore_n (lv' := [(3, .int a17_0), (7, .int (((F_X9_reaches_85 p0 0 j17_ mTo mSt a17_1 (Int32.toNatClampNeg (mTo 0))) ((6 * j17_) + (Int32.toNatClampNeg p1))) + 0)), (0, .ref m0), (1, .int p0), (2, .int p1), (4, .int (nI j17_)), (6, .int 0)]) hx hb dX9_reaches_359 rfl hl (by decide) rfl (fun ls hl => ?_)
                refine lv_iinc (v := (nI (j17_ + 1))) (lv' := [(4, .int (nI (j17_ + 1))), (3, .int a17_0), (7, .int (((F_X9_reaches_85 p0 0 j17_ mTo mSt a17_1 (Int32.toNatClampNeg (mTo 0))) ((6 * j17_) + (Int32.toNatClampNeg p1))) + 0)), (0, .ref m0), (1, .int p0), (2, .int p1), (6, .int 0)]) hx hb dX9_reaches_360 hl (k := 5) rfl (nI_1 _) (by decide) rfl (fun ls hl => ?_)
                refine lv_goto (tgt := 17) hx hb dX9_reaches_363 (by decide) ?_
                exact ih17_ (j17_ + 1) a17_0 (F_X9_reaches_85 p0 0 j17_ mTo mSt a17_1 (Int32.toNatClampNeg (mTo 0))) (by omega) (by rw [← hv17_]; simp only [L_X9_reaches_17, if_pos c_8, if_neg c_22, if_pos (by decide : ((0 : Int32) = 0)), if_pos c_24, if_pos c_25, if_pos trivial, if_neg not_false]) _ _ hP hD hS _ (lv_sub hl [3, 4, 5, 1, 0] rfl)
              refine lv_iload_n hx hb dX9_reaches_341 rfl (lv_at hl 4 rfl) ?_
              refine lv_bipush (v := (-4)) hx hb dX9_reaches_342 (by decide) ?_
              refine lv_icmp_eq (tgt := 353) hx hb dX9_reaches_344 (by decide) (fun c_26 => ?_) (fun c_26 => ?_)
              · refine lv_iload hx hb dX9_reaches_353 (lv_at hl 0 rfl) ?_
                refine lv_goto (tgt := 359) hx hb dX9_reaches_355 (by decide) ?_
                refine lv_istore_n (lv' := [(3, .int (((F_X9_reaches_85 p0 0 j17_ mTo mSt a17_1 (Int32.toNatClampNeg (mTo 0))) ((6 * j17_) + (Int32.toNatClampNeg p1))) + 0)), (7, .int (((F_X9_reaches_85 p0 0 j17_ mTo mSt a17_1 (Int32.toNatClampNeg (mTo 0))) ((6 * j17_) + (Int32.toNatClampNeg p1))) + 0)), (0, .ref m0), (1, .int p0), (2, .int p1), (4, .int (nI j17_)), (6, .int 0)]) hx hb dX9_reaches_359 rfl hl (by decide) rfl (fun ls hl => ?_)
                refine lv_iinc (v := (nI (j17_ + 1))) (lv' := [(4, .int (nI (j17_ + 1))), (3, .int (((F_X9_reaches_85 p0 0 j17_ mTo mSt a17_1 (Int32.toNatClampNeg (mTo 0))) ((6 * j17_) + (Int32.toNatClampNeg p1))) + 0)), (7, .int (((F_X9_reaches_85 p0 0 j17_ mTo mSt a17_1 (Int32.toNatClampNeg (mTo 0))) ((6 * j17_) + (Int32.toNatClampNeg p1))) + 0)), (0, .ref m0), (1, .int p0), (2, .int p1), (6, .int 0)]) hx hb dX9_reaches_360 hl (k := 5) rfl (nI_1 _) (by decide) rfl (fun ls hl => ?_)
                refine lv_goto (tgt := 17) hx hb dX9_reaches_363 (by decide) ?_
                exact ih17_ (j17_ + 1) (((F_X9_reaches_85 p0 0 j17_ mTo mSt a17_1 (Int32.toNatClampNeg (mTo 0))) ((6 * j17_) + (Int32.toNatClampNeg p1))) + 0) (F_X9_reaches_85 p0 0 j17_ mTo mSt a17_1 (Int32.toNatClampNeg (mTo 0))) (by omega) (by rw [← hv17_]; simp only [L_X9_reaches_17, if_pos c_8, if_neg c_22, if_pos (by decide : ((0 : Int32) = 0)), if_pos c_24, if_neg c_25, if_pos c_26, if_pos trivial, if_neg not_false]) _ _ hP hD hS _ (lv_sub hl [3, 4, 5, 1, 0] rfl)
              refine lv_iload hx hb dX9_reaches_347 (lv_at hl 0 rfl) ?_
              refine lv_iload_n hx hb dX9_reaches_349 rfl (lv_at hl 4 rfl) ?_
              refine lv_icmp_ge (tgt := 358) hx hb dX9_reaches_350 (by decide) (fun c_27 => ?_) (fun c_27 => ?_)
              · refine lv_iload_n hx hb dX9_reaches_358 rfl (lv_at hl 4 rfl) ?_
                refine lv_istore_n (lv' := [(3, .int a17_0), (7, .int (((F_X9_reaches_85 p0 0 j17_ mTo mSt a17_1 (Int32.toNatClampNeg (mTo 0))) ((6 * j17_) + (Int32.toNatClampNeg p1))) + 0)), (0, .ref m0), (1, .int p0), (2, .int p1), (4, .int (nI j17_)), (6, .int 0)]) hx hb dX9_reaches_359 rfl hl (by decide) rfl (fun ls hl => ?_)
                refine lv_iinc (v := (nI (j17_ + 1))) (lv' := [(4, .int (nI (j17_ + 1))), (3, .int a17_0), (7, .int (((F_X9_reaches_85 p0 0 j17_ mTo mSt a17_1 (Int32.toNatClampNeg (mTo 0))) ((6 * j17_) + (Int32.toNatClampNeg p1))) + 0)), (0, .ref m0), (1, .int p0), (2, .int p1), (6, .int 0)]) hx hb dX9_reaches_360 hl (k := 5) rfl (nI_1 _) (by decide) rfl (fun ls hl => ?_)
                refine lv_goto (tgt := 17) hx hb dX9_reaches_363 (by decide) ?_
                exact ih17_ (j17_ + 1) a17_0 (F_X9_reaches_85 p0 0 j17_ mTo mSt a17_1 (Int32.toNatClampNeg (mTo 0))) (by omega) (by rw [← hv17_]; simp only [L_X9_reaches_17, if_pos c_8, if_neg c_22, if_pos (by decide : ((0 : Int32) = 0)), if_pos c_24, if_neg c_25, if_neg c_26, if_pos c_27, if_pos trivial, if_neg not_false]) _ _ hP hD hS _ (lv_sub hl [3, 4, 5, 1, 0] rfl)
              refine lv_iload hx hb dX9_reaches_353 (lv_at hl 0 rfl) ?_
              refine lv_goto (tgt := 359) hx hb dX9_reaches_355 (by decide) ?_
              refine lv_istore_n (lv' := [(3, .int (((F_X9_reaches_85 p0 0 j17_ mTo mSt a17_1 (Int32.toNatClampNeg (mTo 0))) ((6 * j17_) + (Int32.toNatClampNeg p1))) + 0)), (7, .int (((F_X9_reaches_85 p0 0 j17_ mTo mSt a17_1 (Int32.toNatClampNeg (mTo 0))) ((6 * j17_) + (Int32.toNatClampNeg p1))) + 0)), (0, .ref m0), (1, .int p0), (2, .int p1), (4, .int (nI j17_)), (6, .int 0)]) hx hb dX9_reaches_359 rfl hl (by decide) rfl (fun ls hl => ?_)
              refine lv_iinc (v := (nI (j17_ + 1))) (lv' := [(4, .int (nI (j17_ + 1))), (3, .int (((F_X9_reaches_85 p0 0 j17_ mTo mSt a17_1 (Int32.toNatClampNeg (mTo 0))) ((6 * j17_) + (Int32.toNatClampNeg p1))) + 0)), (7, .int (((F_X9_reaches_85 p0 0 j17_ mTo mSt a17_1 (Int32.toNatClampNeg (mTo 0))) ((6 * j17_) + (Int32.toNatClampNeg p1))) + 0)), (0, .ref m0), (1, .int p0), (2, .int p1), (6, .int 0)]) hx hb dX9_reaches_360 hl (k := 5) rfl (nI_1 _) (by decide) rfl (fun ls hl => ?_)
              refine lv_goto (tgt := 17) hx hb dX9_reaches_363 (by decide) ?_
              exact ih17_ (j17_ + 1) (((F_X9_reaches_85 p0 0 j17_ mTo mSt a17_1 (Int32.toNatClampNeg (mTo 0))) ((6 * j17_) + (Int32.toNatClampNeg p1))) + 0) (F_X9_reaches_85 p0 0 j17_ mTo mSt a17_1 (Int32.toNatClampNeg (mTo 0))) (by omega) (by rw [← hv17_]; simp only [L_X9_reaches_17, if_pos c_8, if_neg c_22, if_pos (by decide : ((0 : Int32) = 0)), if_pos c_24, if_neg c_25, if_neg c_26, if_neg c_27, if_pos trivial, if_neg not_false]) _ _ hP hD hS _ (lv_sub hl [3, 4, 5, 1, 0] rfl)
            refine lv_iconst (v := (-1)) hx hb dX9_reaches_315 (by decide) ?_
            refine lv_goto (tgt := 334) hx hb dX9_reaches_316 (by decide) ?_
            refine lv_istore (lv' := [(7, .int (-1)), (0, .ref m0), (1, .int p0), (2, .int p1), (3, .int a17_0), (4, .int (nI j17_)), (6, .int 0)]) hx hb dX9_reaches_334 hl (by decide) rfl (fun ls hl => ?_)
            refine lv_iload hx hb dX9_reaches_336 (lv_at hl 0 rfl) ?_
            refine lv_if_lt (tgt := 358) hx hb dX9_reaches_338 (by decide) (fun c_28 => ?_) (fun c_28 => ?_)
            rotate_left
            · exact absurd (by decide : (((-1) : Int32) < 0)) c_28
            refine lv_iload_n hx hb dX9_reaches_358 rfl (lv_at hl 4 rfl) ?_
            refine lv_istore_n (lv' := [(3, .int a17_0), (7, .int (-1)), (0, .ref m0), (1, .int p0), (2, .int p1), (4, .int (nI j17_)), (6, .int 0)]) hx hb dX9_reaches_359 rfl hl (by decide) rfl (fun ls hl => ?_)
            refine lv_iinc (v := (nI (j17_ + 1))) (lv' := [(4, .int (nI (j17_ + 1))), (3, .int a17_0), (7, .int (-1)), (0, .ref m0), (1, .int p0), (2, .int p1), (6, .int 0)]) hx hb dX9_reaches_360 hl (k := 5) rfl (nI_1 _) (by decide) rfl (fun ls hl => ?_)
            refine lv_goto (tgt := 17) hx hb dX9_reaches_363 (by decide) ?_
            exact ih17_ (j17_ + 1) a17_0 (F_X9_reaches_85 p0 0 j17_ mTo mSt a17_1 (Int32.toNatClampNeg (mTo 0))) (by omega) (by rw [← hv17_]; simp only [L_X9_reaches_17, if_pos c_8, if_neg c_22, if_pos (by decide : ((0 : Int32) = 0)), if_neg c_24, if_pos (by decide : (((-1) : Int32) < 0)), if_pos trivial, if_neg not_false]) _ _ hP hD hS _ (lv_sub hl [3, 4, 5, 1, 0] rfl)
          have loop85_ : ∀ (n85_ j85_ : Nat), j85_ + n85_ = (Int32.toNatClampNeg (mTo 0)) → ∀ (H : Heap) (locs : List Loc), va_P D vwCl [(m0, .inr (9, [.ref m1, .int (nI mTy), .ref m2, .ref m3, .ref m4, .ref m5, .int (nI mKn), .ref m6, .int (nI mKe), .ref m7, .int (nI mCa), .ref m8, .int (nI mSe), .int (nI mAt), .int mFi, .int mSc, .ref m9, .ref m10, .ref m11, .ref m12])), (m1, .inl (cI, 200, .inl mTx)), (m2, .inl (cI, 37, .inl mTo)), (m3, .inl (cI, 37, .inl mDr)), (m4, .inl (cI, 15, .inl mSt)), (m5, .inl (cI, 120, .inl mPa)), (m6, .inl (cI, 30, .inl mIm)), (m7, .inl (cI, 5, .inl mWi)), (m8, .inl (cI, 6, .inl mSn)), (m9, .inl (cI, 15, .inl mHe)), (m10, .inl (cI, 384, .inl (F_X9_reaches_85 p0 0 j17_ mTo mSt a17_1 j85_))), (m11, .inl (cI, 5, .inl mRo)), (m12, .inl (cI, 5, .inl mBe))] H → va_D (va_A (wM cI cC cG m0 m1 m2 m3 m4 m5 m6 m7 m8 m9 m10 m11 m12 mTy mKn mKe mCa mSe mAt mFi mSc mTx mTo mDr mSt mPa mIm mWi mSn mHe mFw mRo mBe) sz) [(m0, .inr (9, [.ref m1, .int (nI mTy), .ref m2, .ref m3, .ref m4, .ref m5, .int (nI mKn), .ref m6, .int (nI mKe), .ref m7, .int (nI mCa), .ref m8, .int (nI mSe), .int (nI mAt), .int mFi, .int mSc, .ref m9, .ref m10, .ref m11, .ref m12])), (m1, .inl (cI, 200, .inl mTx)), (m2, .inl (cI, 37, .inl mTo)), (m3, .inl (cI, 37, .inl mDr)), (m4, .inl (cI, 15, .inl mSt)), (m5, .inl (cI, 120, .inl mPa)), (m6, .inl (cI, 30, .inl mIm)), (m7, .inl (cI, 5, .inl mWi)), (m8, .inl (cI, 6, .inl mSn)), (m9, .inl (cI, 15, .inl mHe)), (m10, .inl (cI, 384, .inl (F_X9_reaches_85 p0 0 j17_ mTo mSt a17_1 j85_))), (m11, .inl (cI, 5, .inl mRo)), (m12, .inl (cI, 5, .inl mBe))] → va_S (va_A (wM cI cC cG m0 m1 m2 m3 m4 m5 m6 m7 m8 m9 m10 m11 m12 mTy mKn mKe mCa mSe mAt mFi mSc mTx mTo mDr mSt mPa mIm mWi mSn mHe mFw mRo mBe) sz) s.heap H locs → ∀ ls : Array Slot, lv_has ls 13 [(0, .ref m0), (1, .int p0), (2, .int p1), (3, .int a17_0), (4, .int (nI j17_)), (5, .int 0), (6, .int 0), (7, .int (nI j85_))] → W p l e rm_X9_reaches s m ([.ref m0, .int p0, .int p1] : List Value).toArray below meth c H locs 0 0 (MQ below (q_QWi D (wM cI cC cG m0 m1 m2 m3 m4 m5 m6 m7 m8 m9 m10 m11 m12 mTy mKn mKe mCa mSe mAt mFi mSc mTx mTo mDr mSt mPa mIm mWi mSn mHe mFw mRo mBe) (wM cI cC cG m0 m1 m2 m3 m4 m5 m6 m7 m8 m9 m10 m11 m12 mTy mKn mKe mCa mSe mAt mFi mSc mTx mTo mDr mSt mPa mIm mWi mSn mHe (g_X9_reaches_mFw mTo mSt mFw p0 p1) mRo mBe) sz (f_X9_reaches mTo mSt mFw p0 p1)) ([.ref m0, .int p0, .int p1] : List Value).toArray s 0 0 (va_A (wM cI cC cG m0 m1 m2 m3 m4 m5 m6 m7 m8 m9 m10 m11 m12 mTy mKn mKe mCa mSe mAt mFi mSc mTx mTo mDr mSt mPa mIm mWi mSn mHe mFw mRo mBe) sz)) (F0 m 85 ls []) := by
            intro n85_
            induction n85_ with
            | zero =>
              intro j85_ hj85_ H locs hP hD hS ls hl
              obtain rfl : j85_ = (Int32.toNatClampNeg (mTo 0)) := by omega
              refine lv_iload hx hb dX9_reaches_85 (lv_at hl 7 rfl) ?_
              refine lv_aload_n hx hb dX9_reaches_87 rfl (lv_at hl 0 rfl) ?_
              refine va_get (D := D) (ci := 9) (v := .ref m2) (C := RX9) (T := TX9) (N := 20) hx hb hts hinX9 hown hK hP 0 rfl rfl 2 (by decide) hf13 (fun _ h9 => h9) rfl dX9_reaches_88 ?_
              refine lv_iconst (v := 0) hx hb dX9_reaches_91 (by decide) ?_
              refine q_iald hx hb hK hP 2 0 rfl rfl (vp_in_nI (n := 0) (N := 37) (by decide) (by decide)) 0 (by decide) dX9_reaches_92 ?_
              refine lv_icmp_ge (tgt := 300) hx hb dX9_reaches_93 (by decide) (fun c_29 => ?_) (fun c_29 => ?_)
              rotate_left
              · exact absurd k_ge c_29
              exact K85_ _ _ hP hD hS _ (lv_sub hl [0, 1, 2, 3, 4, 6] rfl)
            | succ n85_ ih85_ =>
              intro j85_ hj85_ H locs hP hD hS ls hl
              refine lv_iload hx hb dX9_reaches_85 (lv_at hl 7 rfl) ?_
              refine lv_aload_n hx hb dX9_reaches_87 rfl (lv_at hl 0 rfl) ?_
              refine va_get (D := D) (ci := 9) (v := .ref m2) (C := RX9) (T := TX9) (N := 20) hx hb hts hinX9 hown hK hP 0 rfl rfl 2 (by decide) hf13 (fun _ h9 => h9) rfl dX9_reaches_88 ?_
              refine lv_iconst (v := 0) hx hb dX9_reaches_91 (by decide) ?_
              refine q_iald hx hb hK hP 2 0 rfl rfl (vp_in_nI (n := 0) (N := 37) (by decide) (by decide)) 0 (by decide) dX9_reaches_92 ?_
              refine lv_icmp_ge (tgt := 300) hx hb dX9_reaches_93 (by decide) (fun c_30 => ?_) (fun c_30 => ?_)
              · exact absurd c_30 (k_le (by omega))
              refine lv_aload_n hx hb dX9_reaches_96 rfl (lv_at hl 0 rfl) ?_
              refine va_get (D := D) (ci := 9) (v := .ref m2) (C := RX9) (T := TX9) (N := 20) hx hb hts hinX9 hown hK hP 0 rfl rfl 2 (by decide) hf13 (fun _ h9 => h9) rfl dX9_reaches_97 ?_
              refine lv_bipush (v := 9) hx hb dX9_reaches_100 (by decide) ?_
              refine lv_iload hx hb dX9_reaches_102 (lv_at hl 7 rfl) ?_
              refine q_iaddN (a := 9) (b := j85_) hx hb dX9_reaches_104 ?_
              refine q_iald hx hb hK hP 2 0 rfl rfl (vp_in_nI (by omega) (by decide)) (9 + j85_) (nI_clamp (by omega)) dX9_reaches_105 ?_
              refine lv_iconst (v := 4) hx hb dX9_reaches_106 (by decide) ?_
              refine lv_icmp_ne (tgt := 114) hx hb dX9_reaches_107 (by decide) (fun c_31 => ?_) (fun c_31 => ?_)
              · refine lv_iconst (v := 0) hx hb dX9_reaches_114 (by decide) ?_
                refine lv_istore (lv' := [(8, .int 0), (0, .ref m0), (1, .int p0), (2, .int p1), (3, .int a17_0), (4, .int (nI j17_)), (5, .int 0), (6, .int 0), (7, .int (nI j85_))]) hx hb dX9_reaches_115 hl (by decide) rfl (fun ls hl => ?_)
                refine lv_iconst (v := (-1)) hx hb dX9_reaches_117 (by decide) ?_
                refine lv_istore (lv' := [(9, .int (-1)), (8, .int 0), (0, .ref m0), (1, .int p0), (2, .int p1), (3, .int a17_0), (4, .int (nI j17_)), (5, .int 0), (6, .int 0), (7, .int (nI j85_))]) hx hb dX9_reaches_118 hl (by decide) rfl (fun ls hl => ?_)
                refine lv_iload hx hb dX9_reaches_120 (lv_at hl 7 rfl) ?_
                refine lv_if_eq (tgt := 279) hx hb dX9_reaches_122 (by decide) (fun c_32 => ?_) (fun c_32 => ?_)
                rotate_left
                · exact absurd (by decide : ((0 : Int32) = 0)) c_32
                refine lv_aload_n hx hb dX9_reaches_279 rfl (lv_at hl 2 rfl) ?_
                refine va_get (D := D) (ci := 9) (v := .ref m10) (C := RX9) (T := TX9) (N := 20) hx hb hts hinX9 hown hK hP 0 rfl rfl 17 (by decide) hf37 (fun _ h9 => h9) rfl dX9_reaches_280 ?_
                refine lv_bipush (v := 6) hx hb dX9_reaches_283 (by decide) ?_
                refine lv_iload hx hb dX9_reaches_285 (lv_at hl 6 rfl) ?_
                refine q_imulN (a := 6) (b := j17_) hx hb dX9_reaches_287 ?_
                refine lv_iload hx hb dX9_reaches_288 (lv_at hl 9 rfl) ?_
                refine q_iaddN (a := (6 * j17_)) (b := j85_) hx hb dX9_reaches_290 ?_
                refine lv_iload hx hb dX9_reaches_291 (lv_at hl 0 rfl) ?_
                refine q_iast hx hb hK hP hD hS 10 0 rfl rfl (vp_in_nI (by omega) (by decide)) ((6 * j17_) + j85_) (nI_clamp (by omega)) dX9_reaches_293 (fun H locs hP hD hS => ?_)
                have hP : va_P D vwCl [(m0, .inr (9, [.ref m1, .int (nI mTy), .ref m2, .ref m3, .ref m4, .ref m5, .int (nI mKn), .ref m6, .int (nI mKe), .ref m7, .int (nI mCa), .ref m8, .int (nI mSe), .int (nI mAt), .int mFi, .int mSc, .ref m9, .ref m10, .ref m11, .ref m12])), (m1, .inl (cI, 200, .inl mTx)), (m2, .inl (cI, 37, .inl mTo)), (m3, .inl (cI, 37, .inl mDr)), (m4, .inl (cI, 15, .inl mSt)), (m5, .inl (cI, 120, .inl mPa)), (m6, .inl (cI, 30, .inl mIm)), (m7, .inl (cI, 5, .inl mWi)), (m8, .inl (cI, 6, .inl mSn)), (m9, .inl (cI, 15, .inl mHe)), (m10, .inl (cI, 384, .inl (upd (F_X9_reaches_85 p0 0 j17_ mTo mSt a17_1 j85_) ((6 * j17_) + j85_) (-1)))), (m11, .inl (cI, 5, .inl mRo)), (m12, .inl (cI, 5, .inl mBe))] H := hP
                have hD : va_D (va_A (wM cI cC cG m0 m1 m2 m3 m4 m5 m6 m7 m8 m9 m10 m11 m12 mTy mKn mKe mCa mSe mAt mFi mSc mTx mTo mDr mSt mPa mIm mWi mSn mHe mFw mRo mBe) sz) [(m0, .inr (9, [.ref m1, .int (nI mTy), .ref m2, .ref m3, .ref m4, .ref m5, .int (nI mKn), .ref m6, .int (nI mKe), .ref m7, .int (nI mCa), .ref m8, .int (nI mSe), .int (nI mAt), .int mFi, .int mSc, .ref m9, .ref m10, .ref m11, .ref m12])), (m1, .inl (cI, 200, .inl mTx)), (m2, .inl (cI, 37, .inl mTo)), (m3, .inl (cI, 37, .inl mDr)), (m4, .inl (cI, 15, .inl mSt)), (m5, .inl (cI, 120, .inl mPa)), (m6, .inl (cI, 30, .inl mIm)), (m7, .inl (cI, 5, .inl mWi)), (m8, .inl (cI, 6, .inl mSn)), (m9, .inl (cI, 15, .inl mHe)), (m10, .inl (cI, 384, .inl (upd (F_X9_reaches_85 p0 0 j17_ mTo mSt a17_1 j85_) ((6 * j17_) + j85_) (-1)))), (m11, .inl (cI, 5, .inl mRo)), (m12, .inl (cI, 5, .inl mBe))] := hD
                refine lv_iinc (v := (nI (j85_ + 1))) (lv' := [(7, .int (nI (j85_ + 1))), (9, .int (-1)), (8, .int 0), (0, .ref m0), (1, .int p0), (2, .int p1), (3, .int a17_0), (4, .int (nI j17_)), (5, .int 0), (6, .int 0)]) hx hb dX9_reaches_294 hl (k := 9) rfl (nI_1 _) (by decide) rfl (fun ls hl => ?_)
                refine lv_goto (tgt := 85) hx hb dX9_reaches_297 (by decide) ?_
                have e_33 : (F_X9_reaches_85 p0 0 j17_ mTo mSt a17_1 (j85_ + 1)) = (upd (F_X9_reaches_85 p0 0 j17_ mTo mSt a17_1 j85_) ((6 * j17_) + j85_) (-1)) := by simp only [F_X9_reaches_85, if_neg c_31, if_pos (by decide : ((0 : Int32) = 0)), if_pos trivial, if_neg not_false]
                exact ih85_ (j85_ + 1) (by omega) _ _ (by rw [e_33]; exact hP) (by rw [e_33]; exact hD) hS _ (lv_sub hl [3, 4, 5, 6, 7, 8, 9, 0] rfl)
              refine lv_iconst (v := 1) hx hb dX9_reaches_110 (by decide) ?_
              refine lv_goto (tgt := 115) hx hb dX9_reaches_111 (by decide) ?_
              refine lv_istore (lv' := [(8, .int 1), (0, .ref m0), (1, .int p0), (2, .int p1), (3, .int a17_0), (4, .int (nI j17_)), (5, .int 0), (6, .int 0), (7, .int (nI j85_))]) hx hb dX9_reaches_115 hl (by decide) rfl (fun ls hl => ?_)
              refine lv_iconst (v := (-1)) hx hb dX9_reaches_117 (by decide) ?_
              refine lv_istore (lv' := [(9, .int (-1)), (8, .int 1), (0, .ref m0), (1, .int p0), (2, .int p1), (3, .int a17_0), (4, .int (nI j17_)), (5, .int 0), (6, .int 0), (7, .int (nI j85_))]) hx hb dX9_reaches_118 hl (by decide) rfl (fun ls hl => ?_)
              refine lv_iload hx hb dX9_reaches_120 (lv_at hl 7 rfl) ?_
              refine lv_if_eq (tgt := 279) hx hb dX9_reaches_122 (by decide) (fun c_34 => ?_) (fun c_34 => ?_)
              rotate_left
              · exact absurd (by decide : ((0 : Int32) = 0)) c_34
              refine lv_aload_n hx hb dX9_reaches_279 rfl (lv_at hl 2 rfl) ?_
              refine va_get (D := D) (ci := 9) (v := .ref m10) (C := RX9) (T := TX9) (N := 20) hx hb hts hinX9 hown hK hP 0 rfl rfl 17 (by decide) hf37 (fun _ h9 => h9) rfl dX9_reaches_280 ?_
              refine lv_bipush (v := 6) hx hb dX9_reaches_283 (by decide) ?_
              refine lv_iload hx hb dX9_reaches_285 (lv_at hl 6 rfl) ?_
              refine q_imulN (a := 6) (b := j17_) hx hb dX9_reaches_287 ?_
              refine lv_iload hx hb dX9_reaches_288 (lv_at hl 9 rfl) ?_
              refine q_iaddN (a := (6 * j17_)) (b := j85_) hx hb dX9_reaches_290 ?_
              refine lv_iload hx hb dX9_reaches_291 (lv_at hl 0 rfl) ?_
              refine q_iast hx hb hK hP hD hS 10 0 rfl rfl (vp_in_nI (by omega) (by decide)) ((6 * j17_) + j85_) (nI_clamp (by omega)) dX9_reaches_293 (fun H locs hP hD hS => ?_)
              have hP : va_P D vwCl [(m0, .inr (9, [.ref m1, .int (nI mTy), .ref m2, .ref m3, .ref m4, .ref m5, .int (nI mKn), .ref m6, .int (nI mKe), .ref m7, .int (nI mCa), .ref m8, .int (nI mSe), .int (nI mAt), .int mFi, .int mSc, .ref m9, .ref m10, .ref m11, .ref m12])), (m1, .inl (cI, 200, .inl mTx)), (m2, .inl (cI, 37, .inl mTo)), (m3, .inl (cI, 37, .inl mDr)), (m4, .inl (cI, 15, .inl mSt)), (m5, .inl (cI, 120, .inl mPa)), (m6, .inl (cI, 30, .inl mIm)), (m7, .inl (cI, 5, .inl mWi)), (m8, .inl (cI, 6, .inl mSn)), (m9, .inl (cI, 15, .inl mHe)), (m10, .inl (cI, 384, .inl (upd (F_X9_reaches_85 p0 0 j17_ mTo mSt a17_1 j85_) ((6 * j17_) + j85_) (-1)))), (m11, .inl (cI, 5, .inl mRo)), (m12, .inl (cI, 5, .inl mBe))] H := hP
              have hD : va_D (va_A (wM cI cC cG m0 m1 m2 m3 m4 m5 m6 m7 m8 m9 m10 m11 m12 mTy mKn mKe mCa mSe mAt mFi mSc mTx mTo mDr mSt mPa mIm mWi mSn mHe mFw mRo mBe) sz) [(m0, .inr (9, [.ref m1, .int (nI mTy), .ref m2, .ref m3, .ref m4, .ref m5, .int (nI mKn), .ref m6, .int (nI mKe), .ref m7, .int (nI mCa), .ref m8, .int (nI mSe), .int (nI mAt), .int mFi, .int mSc, .ref m9, .ref m10, .ref m11, .ref m12])), (m1, .inl (cI, 200, .inl mTx)), (m2, .inl (cI, 37, .inl mTo)), (m3, .inl (cI, 37, .inl mDr)), (m4, .inl (cI, 15, .inl mSt)), (m5, .inl (cI, 120, .inl mPa)), (m6, .inl (cI, 30, .inl mIm)), (m7, .inl (cI, 5, .inl mWi)), (m8, .inl (cI, 6, .inl mSn)), (m9, .inl (cI, 15, .inl mHe)), (m10, .inl (cI, 384, .inl (upd (F_X9_reaches_85 p0 0 j17_ mTo mSt a17_1 j85_) ((6 * j17_) + j85_) (-1)))), (m11, .inl (cI, 5, .inl mRo)), (m12, .inl (cI, 5, .inl mBe))] := hD
              refine lv_iinc (v := (nI (j85_ + 1))) (lv' := [(7, .int (nI (j85_ + 1))), (9, .int (-1)), (8, .int 1), (0, .ref m0), (1, .int p0), (2, .int p1), (3, .int a17_0), (4, .int (nI j17_)), (5, .int 0), (6, .int 0)]) hx hb dX9_reaches_294 hl (k := 9) rfl (nI_1 _) (by decide) rfl (fun ls hl => ?_)
              refine lv_goto (tgt := 85) hx hb dX9_reaches_297 (by decide) ?_
              have e_35 : (F_X9_reaches_85 p0 0 j17_ mTo mSt a17_1 (j85_ + 1)) = (upd (F_X9_reaches_85 p0 0 j17_ mTo mSt a17_1 j85_) ((6 * j17_) + j85_) (-1)) := by simp only [F_X9_reaches_85, if_pos c_31, if_pos (by decide : ((0 : Int32) = 0)), if_pos trivial, if_neg not_false]
              exact ih85_ (j85_ + 1) (by omega) _ _ (by rw [e_35]; exact hP) (by rw [e_35]; exact hD) hS _ (lv_sub hl [3, 4, 5, 6, 7, 8, 9, 0] rfl)
          exact loop85_ (Int32.toNatClampNeg (mTo 0)) 0 (by omega) _ _ hP hD hS _ (lv_sub hl [3, 4, 5, 6, 7, 2, 1, 0] rfl)
        refine lv_iconst (v := 1) hx hb dX9_reaches_57 (by decide) ?_
        refine lv_goto (tgt := 62) hx hb dX9_reaches_58 (by decide) ?_
        refine lv_istore (lv' := [(5, .int 1), (0, .ref m0), (1, .int p0), (2, .int p1), (3, .int a17_0), (4, .int (nI j17_))]) hx hb dX9_reaches_62 hl (by decide) rfl (fun ls hl => ?_)
        refine lv_iload hx hb dX9_reaches_64 (lv_at hl 0 rfl) ?_
        refine lv_if_eq (tgt := 79) hx hb dX9_reaches_66 (by decide) (fun c_36 => ?_) (fun c_36 => ?_)
        · exact absurd c_36 (by decide : ¬ ((1 : Int32) = 0))
        refine lv_aload_n hx hb dX9_reaches_69 rfl (lv_at hl 1 rfl) ?_
        refine lv_iload_n hx hb dX9_reaches_70 rfl (lv_at hl 2 rfl) ?_
        refine lv_iload hx hb dX9_reaches_71 (lv_at hl 5 rfl) ?_
        refine ro_i (va_runV (As := [.int p0, .int (nI j17_)]) (rest := []) ⟨hx, hb, hml, hown, hts⟩ (c_X9_shades l D cI cC cG m0 m1 m2 m3 m4 m5 m6 m7 m8 m9 m10 m11 m12 mTy mKn mKe mCa mSe mAt mFi mSc mTx mTo mDr mSt mPa mIm mWi mSn mHe a17_1 mRo mBe p0 (nI j17_) hM (vp_mono hk (by decide))) (cwV 2 hts gX9_reaches_X9_shades rfl rfl rfl (by decide +kernel) ⟨Nat.le_of_ble_eq_true rfl, Nat.le_of_ble_eq_true rfl⟩) (q_preV hK hP hN [0, 1, 2, 3, 4, 5, 6, 7, 8, 9, 10, 11, 12] rfl (ci := 9) (q0 := 0) rfl rfl) rfl rfl hl.1 rfl (lv_room (Nat.le_of_ble_eq_true rfl)) dX9_reaches_73 ⟨Nat.zero_le _, Nat.zero_le _⟩) hS hP (fun H locs hP hS => ?_)
        refine lv_goto (tgt := 80) hx hb dX9_reaches_76 (by decide) ?_
        refine lv_istore (lv' := [(6, .int (f_X9_shades mTo mSt p0 (nI j17_))), (5, .int 1), (0, .ref m0), (1, .int p0), (2, .int p1), (3, .int a17_0), (4, .int (nI j17_))]) hx hb dX9_reaches_80 hl (by decide) rfl (fun ls hl => ?_)
        refine lv_iconst (v := 0) hx hb dX9_reaches_82 (by decide) ?_
        refine lv_istore (lv' := [(7, .int 0), (6, .int (f_X9_shades mTo mSt p0 (nI j17_))), (5, .int 1), (0, .ref m0), (1, .int p0), (2, .int p1), (3, .int a17_0), (4, .int (nI j17_))]) hx hb dX9_reaches_83 hl (by decide) rfl (fun ls hl => ?_)
        have K85_ : ∀ (H : Heap) (locs : List Loc), va_P D vwCl [(m0, .inr (9, [.ref m1, .int (nI mTy), .ref m2, .ref m3, .ref m4, .ref m5, .int (nI mKn), .ref m6, .int (nI mKe), .ref m7, .int (nI mCa), .ref m8, .int (nI mSe), .int (nI mAt), .int mFi, .int mSc, .ref m9, .ref m10, .ref m11, .ref m12])), (m1, .inl (cI, 200, .inl mTx)), (m2, .inl (cI, 37, .inl mTo)), (m3, .inl (cI, 37, .inl mDr)), (m4, .inl (cI, 15, .inl mSt)), (m5, .inl (cI, 120, .inl mPa)), (m6, .inl (cI, 30, .inl mIm)), (m7, .inl (cI, 5, .inl mWi)), (m8, .inl (cI, 6, .inl mSn)), (m9, .inl (cI, 15, .inl mHe)), (m10, .inl (cI, 384, .inl (F_X9_reaches_85 p0 1 j17_ mTo mSt a17_1 (Int32.toNatClampNeg (mTo 0))))), (m11, .inl (cI, 5, .inl mRo)), (m12, .inl (cI, 5, .inl mBe))] H → va_D (va_A (wM cI cC cG m0 m1 m2 m3 m4 m5 m6 m7 m8 m9 m10 m11 m12 mTy mKn mKe mCa mSe mAt mFi mSc mTx mTo mDr mSt mPa mIm mWi mSn mHe mFw mRo mBe) sz) [(m0, .inr (9, [.ref m1, .int (nI mTy), .ref m2, .ref m3, .ref m4, .ref m5, .int (nI mKn), .ref m6, .int (nI mKe), .ref m7, .int (nI mCa), .ref m8, .int (nI mSe), .int (nI mAt), .int mFi, .int mSc, .ref m9, .ref m10, .ref m11, .ref m12])), (m1, .inl (cI, 200, .inl mTx)), (m2, .inl (cI, 37, .inl mTo)), (m3, .inl (cI, 37, .inl mDr)), (m4, .inl (cI, 15, .inl mSt)), (m5, .inl (cI, 120, .inl mPa)), (m6, .inl (cI, 30, .inl mIm)), (m7, .inl (cI, 5, .inl mWi)), (m8, .inl (cI, 6, .inl mSn)), (m9, .inl (cI, 15, .inl mHe)), (m10, .inl (cI, 384, .inl (F_X9_reaches_85 p0 1 j17_ mTo mSt a17_1 (Int32.toNatClampNeg (mTo 0))))), (m11, .inl (cI, 5, .inl mRo)), (m12, .inl (cI, 5, .inl mBe))] → va_S (va_A (wM cI cC cG m0 m1 m2 m3 m4 m5 m6 m7 m8 m9 m10 m11 m12 mTy mKn mKe mCa mSe mAt mFi mSc mTx mTo mDr mSt mPa mIm mWi mSn mHe mFw mRo mBe) sz) s.heap H locs → ∀ ls : Array Slot, lv_has ls 13 [(0, .ref m0), (1, .int p0), (2, .int p1), (3, .int a17_0), (4, .int (nI j17_)), (6, .int (f_X9_shades mTo mSt p0 (nI j17_)))] → W p l e rm_X9_reaches s m ([.ref m0, .int p0, .int p1] : List Value).toArray below meth c H locs 0 0 (MQ below (q_QWi D (wM cI cC cG m0 m1 m2 m3 m4 m5 m6 m7 m8 m9 m10 m11 m12 mTy mKn mKe mCa mSe mAt mFi mSc mTx mTo mDr mSt mPa mIm mWi mSn mHe mFw mRo mBe) (wM cI cC cG m0 m1 m2 m3 m4 m5 m6 m7 m8 m9 m10 m11 m12 mTy mKn mKe mCa mSe mAt mFi mSc mTx mTo mDr mSt mPa mIm mWi mSn mHe (g_X9_reaches_mFw mTo mSt mFw p0 p1) mRo mBe) sz (f_X9_reaches mTo mSt mFw p0 p1)) ([.ref m0, .int p0, .int p1] : List Value).toArray s 0 0 (va_A (wM cI cC cG m0 m1 m2 m3 m4 m5 m6 m7 m8 m9 m10 m11 m12 mTy mKn mKe mCa mSe mAt mFi mSc mTx mTo mDr mSt mPa mIm mWi mSn mHe mFw mRo mBe) sz)) (F0 m 300 ls []) := by
          intro H locs hP hD hS ls hl
          refine lv_aload_n hx hb dX9_reaches_300 rfl (lv_at hl 0 rfl) ?_
          refine va_get (D := D) (ci := 9) (v := .ref m10) (C := RX9) (T := TX9) (N := 20) hx hb hts hinX9 hown hK hP 0 rfl rfl 17 (by decide) hf37 (fun _ h9 => h9) rfl dX9_reaches_301 ?_
          refine lv_bipush (v := 6) hx hb dX9_reaches_304 (by decide) ?_
          refine lv_iload hx hb dX9_reaches_306 (lv_at hl 4 rfl) ?_
          refine q_imulN (a := 6) (b := j17_) hx hb dX9_reaches_308 ?_
          refine lv_iload_n hx hb dX9_reaches_309 rfl (lv_at hl 2 rfl) ?_
          refine lv_iadd hx hb dX9_reaches_310 ?_
          refine q_iald hx hb hK hP 10 0 rfl rfl (in_add (6 * j17_) (n := 6) hi (by omega) (by decide)) ((6 * j17_) + (Int32.toNatClampNeg p1)) (in_addc (6 * j17_) (n := 6) (N := 1000) hi (by omega) (by decide)) dX9_reaches_311 ?_
          refine lv_if_ge (tgt := 319) hx hb dX9_reaches_312 (by decide) (fun c_37 => ?_) (fun c_37 => ?_)
          · refine lv_aload_n hx hb dX9_reaches_319 rfl (lv_at hl 0 rfl) ?_
            refine va_get (D := D) (ci := 9) (v := .ref m10) (C := RX9) (T := TX9) (N := 20) hx hb hts hinX9 hown hK hP 0 rfl rfl 17 (by decide) hf37 (fun _ h9 => h9) rfl dX9_reaches_320 ?_
            refine lv_bipush (v := 6) hx hb dX9_reaches_323 (by decide) ?_
            refine lv_iload hx hb dX9_reaches_325 (lv_at hl 4 rfl) ?_
            refine q_imulN (a := 6) (b := j17_) hx hb dX9_reaches_327 ?_
            refine lv_iload_n hx hb dX9_reaches_328 rfl (lv_at hl 2 rfl) ?_
            refine lv_iadd hx hb dX9_reaches_329 ?_
            refine q_iald hx hb hK hP 10 0 rfl rfl (in_add (6 * j17_) (n := 6) hi (by omega) (by decide)) ((6 * j17_) + (Int32.toNatClampNeg p1)) (in_addc (6 * j17_) (n := 6) (N := 1000) hi (by omega) (by decide)) dX9_reaches_330 ?_
            refine lv_iload hx hb dX9_reaches_331 (lv_at hl 5 rfl) ?_
            refine lv_iadd hx hb dX9_reaches_333 ?_
            refine lv_istore (lv' := [(7, .int (((F_X9_reaches_85 p0 1 j17_ mTo mSt a17_1 (Int32.toNatClampNeg (mTo 0))) ((6 * j17_) + (Int32.toNatClampNeg p1))) + (f_X9_shades mTo mSt p0 (nI j17_)))), (0, .ref m0), (1, .int p0), (2, .int p1), (3, .int a17_0), (4, .int (nI j17_)), (6, .int (f_X9_shades mTo mSt p0 (nI j17_)))]) hx hb dX9_reaches_334 hl (by decide) rfl (fun ls hl => ?_)
            refine lv_iload hx hb dX9_reaches_336 (lv_at hl 0 rfl) ?_
            refine lv_if_lt (tgt := 358) hx hb dX9_reaches_338 (by decide) (fun c_38 => ?_) (fun c_38 => ?_)
            · refine lv_iload_n hx hb dX9_reaches_358 rfl (lv_at hl 4 rfl) ?_
              refine lv_istore_n (lv' := [(3, .int a17_0), (7, .int (((F_X9_reaches_85 p0 1 j17_ mTo mSt a17_1 (Int32.toNatClampNeg (mTo 0))) ((6 * j17_) + (Int32.toNatClampNeg p1))) + (f_X9_shades mTo mSt p0 (nI j17_)))), (0, .ref m0), (1, .int p0), (2, .int p1), (4, .int (nI j17_)), (6, .int (f_X9_shades mTo mSt p0 (nI j17_)))]) hx hb dX9_reaches_359 rfl hl (by decide) rfl (fun ls hl => ?_)
              refine lv_iinc (v := (nI (j17_ + 1))) (lv' := [(4, .int (nI (j17_ + 1))), (3, .int a17_0), (7, .int (((F_X9_reaches_85 p0 1 j17_ mTo mSt a17_1 (Int32.toNatClampNeg (mTo 0))) ((6 * j17_) + (Int32.toNatClampNeg p1))) + (f_X9_shades mTo mSt p0 (nI j17_)))), (0, .ref m0), (1, .int p0), (2, .int p1), (6, .int (f_X9_shades mTo mSt p0 (nI j17_)))]) hx hb dX9_reaches_360 hl (k := 5) rfl (nI_1 _) (by decide) rfl (fun ls hl => ?_)
              refine lv_goto (tgt := 17) hx hb dX9_reaches_363 (by decide) ?_
              exact ih17_ (j17_ + 1) a17_0 (F_X9_reaches_85 p0 1 j17_ mTo mSt a17_1 (Int32.toNatClampNeg (mTo 0))) (by omega) (by rw [← hv17_]; simp only [L_X9_reaches_17, if_pos c_8, if_pos c_22, if_neg (by decide : ¬ ((1 : Int32) = 0)), if_pos c_37, if_pos c_38, if_pos trivial, if_neg not_false]) _ _ hP hD hS _ (lv_sub hl [3, 4, 5, 1, 0] rfl)
            refine lv_iload_n hx hb dX9_reaches_341 rfl (lv_at hl 4 rfl) ?_
            refine lv_bipush (v := (-4)) hx hb dX9_reaches_342 (by decide) ?_
            refine lv_icmp_eq (tgt := 353) hx hb dX9_reaches_344 (by decide) (fun c_39 => ?_) (fun c_39 => ?_)
            · refine lv_iload hx hb dX9_reaches_353 (lv_at hl 0 rfl) ?_
              refine lv_goto (tgt := 359) hx hb dX9_reaches_355 (by decide) ?_
              refine lv_istore_n (lv' := [(3, .int (((F_X9_reaches_85 p0 1 j17_ mTo mSt a17_1 (Int32.toNatClampNeg (mTo 0))) ((6 * j17_) + (Int32.toNatClampNeg p1))) + (f_X9_shades mTo mSt p0 (nI j17_)))), (7, .int (((F_X9_reaches_85 p0 1 j17_ mTo mSt a17_1 (Int32.toNatClampNeg (mTo 0))) ((6 * j17_) + (Int32.toNatClampNeg p1))) + (f_X9_shades mTo mSt p0 (nI j17_)))), (0, .ref m0), (1, .int p0), (2, .int p1), (4, .int (nI j17_)), (6, .int (f_X9_shades mTo mSt p0 (nI j17_)))]) hx hb dX9_reaches_359 rfl hl (by decide) rfl (fun ls hl => ?_)
              refine lv_iinc (v := (nI (j17_ + 1))) (lv' := [(4, .int (nI (j17_ + 1))), (3, .int (((F_X9_reaches_85 p0 1 j17_ mTo mSt a17_1 (Int32.toNatClampNeg (mTo 0))) ((6 * j17_) + (Int32.toNatClampNeg p1))) + (f_X9_shades mTo mSt p0 (nI j17_)))), (7, .int (((F_X9_reaches_85 p0 1 j17_ mTo mSt a17_1 (Int32.toNatClampNeg (mTo 0))) ((6 * j17_) + (Int32.toNatClampNeg p1))) + (f_X9_shades mTo mSt p0 (nI j17_)))), (0, .ref m0), (1, .int p0), (2, .int p1), (6, .int (f_X9_shades mTo mSt p0 (nI j17_)))]) hx hb dX9_reaches_360 hl (k := 5) rfl (nI_1 _) (by decide) rfl (fun ls hl => ?_)
              refine lv_goto (tgt := 17) hx hb dX9_reaches_363 (by decide) ?_
              exact ih17_ (j17_ + 1) (((F_X9_reaches_85 p0 1 j17_ mTo mSt a17_1 (Int32.toNatClampNeg (mTo 0))) ((6 * j17_) + (Int32.toNatClampNeg p1))) + (f_X9_shades mTo mSt p0 (nI j17_))) (F_X9_reaches_85 p0 1 j17_ mTo mSt a17_1 (Int32.toNatClampNeg (mTo 0))) (by omega) (by rw [← hv17_]; simp only [L_X9_reaches_17, if_pos c_8, if_pos c_22, if_neg (by decide : ¬ ((1 : Int32) = 0)), if_pos c_37, if_neg c_38, if_pos c_39, if_pos trivial, if_neg not_false]) _ _ hP hD hS _ (lv_sub hl [3, 4, 5, 1, 0] rfl)
            refine lv_iload hx hb dX9_reaches_347 (lv_at hl 0 rfl) ?_
            refine lv_iload_n hx hb dX9_reaches_349 rfl (lv_at hl 4 rfl) ?_
            refine lv_icmp_ge (tgt := 358) hx hb dX9_reaches_350 (by decide) (fun c_40 => ?_) (fun c_40 => ?_)
            · refine lv_iload_n hx hb dX9_reaches_358 rfl (lv_at hl 4 rfl) ?_
              refine lv_istore_n (lv' := [(3, .int a17_0), (7, .int (((F_X9_reaches_85 p0 1 j17_ mTo mSt a17_1 (Int32.toNatClampNeg (mTo 0))) ((6 * j17_) + (Int32.toNatClampNeg p1))) + (f_X9_shades mTo mSt p0 (nI j17_)))), (0, .ref m0), (1, .int p0), (2, .int p1), (4, .int (nI j17_)), (6, .int (f_X9_shades mTo mSt p0 (nI j17_)))]) hx hb dX9_reaches_359 rfl hl (by decide) rfl (fun ls hl => ?_)
              refine lv_iinc (v := (nI (j17_ + 1))) (lv' := [(4, .int (nI (j17_ + 1))), (3, .int a17_0), (7, .int (((F_X9_reaches_85 p0 1 j17_ mTo mSt a17_1 (Int32.toNatClampNeg (mTo 0))) ((6 * j17_) + (Int32.toNatClampNeg p1))) + (f_X9_shades mTo mSt p0 (nI j17_)))), (0, .ref m0), (1, .int p0), (2, .int p1), (6, .int (f_X9_shades mTo mSt p0 (nI j17_)))]) hx hb dX9_reaches_360 hl (k := 5) rfl (nI_1 _) (by decide) rfl (fun ls hl => ?_)
              refine lv_goto (tgt := 17) hx hb dX9_reaches_363 (by decide) ?_
              exact ih17_ (j17_ + 1) a17_0 (F_X9_reaches_85 p0 1 j17_ mTo mSt a17_1 (Int32.toNatClampNeg (mTo 0))) (by omega) (by rw [← hv17_]; simp only [L_X9_reaches_17, if_pos c_8, if_pos c_22, if_neg (by decide : ¬ ((1 : Int32) = 0)), if_pos c_37, if_neg c_38, if_neg c_39, if_pos c_40, if_pos trivial, if_neg not_false]) _ _ hP hD hS _ (lv_sub hl [3, 4, 5, 1, 0] rfl)
            refine lv_iload hx hb dX9_reaches_353 (lv_at hl 0 rfl) ?_
            refine lv_goto (tgt := 359) hx hb dX9_reaches_355 (by decide) ?_
            refine lv_istore_n (lv' := [(3, .int (((F_X9_reaches_85 p0 1 j17_ mTo mSt a17_1 (Int32.toNatClampNeg (mTo 0))) ((6 * j17_) + (Int32.toNatClampNeg p1))) + (f_X9_shades mTo mSt p0 (nI j17_)))), (7, .int (((F_X9_reaches_85 p0 1 j17_ mTo mSt a17_1 (Int32.toNatClampNeg (mTo 0))) ((6 * j17_) + (Int32.toNatClampNeg p1))) + (f_X9_shades mTo mSt p0 (nI j17_)))), (0, .ref m0), (1, .int p0), (2, .int p1), (4, .int (nI j17_)), (6, .int (f_X9_shades mTo mSt p0 (nI j17_)))]) hx hb dX9_reaches_359 rfl hl (by decide) rfl (fun ls hl => ?_)
            refine lv_iinc (v := (nI (j17_ + 1))) (lv' := [(4, .int (nI (j17_ + 1))), (3, .int (((F_X9_reaches_85 p0 1 j17_ mTo mSt a17_1 (Int32.toNatClampNeg (mTo 0))) ((6 * j17_) + (Int32.toNatClampNeg p1))) + (f_X9_shades mTo mSt p0 (nI j17_)))), (7, .int (((F_X9_reaches_85 p0 1 j17_ mTo mSt a17_1 (Int32.toNatClampNeg (mTo 0))) ((6 * j17_) + (Int32.toNatClampNeg p1))) + (f_X9_shades mTo mSt p0 (nI j17_)))), (0, .ref m0), (1, .int p0), (2, .int p1), (6, .int (f_X9_shades mTo mSt p0 (nI j17_)))]) hx hb dX9_reaches_360 hl (k := 5) rfl (nI_1 _) (by decide) rfl (fun ls hl => ?_)
            refine lv_goto (tgt := 17) hx hb dX9_reaches_363 (by decide) ?_
            exact ih17_ (j17_ + 1) (((F_X9_reaches_85 p0 1 j17_ mTo mSt a17_1 (Int32.toNatClampNeg (mTo 0))) ((6 * j17_) + (Int32.toNatClampNeg p1))) + (f_X9_shades mTo mSt p0 (nI j17_))) (F_X9_reaches_85 p0 1 j17_ mTo mSt a17_1 (Int32.toNatClampNeg (mTo 0))) (by omega) (by rw [← hv17_]; simp only [L_X9_reaches_17, if_pos c_8, if_pos c_22, if_neg (by decide : ¬ ((1 : Int32) = 0)), if_pos c_37, if_neg c_38, if_neg c_39, if_neg c_40, if_pos trivial, if_neg not_false]) _ _ hP hD hS _ (lv_sub hl [3, 4, 5, 1, 0] rfl)
          refine lv_iconst (v := (-1)) hx hb dX9_reaches_315 (by decide) ?_
          refine lv_goto (tgt := 334) hx hb dX9_reaches_316 (by decide) ?_
          refine lv_istore (lv' := [(7, .int (-1)), (0, .ref m0), (1, .int p0), (2, .int p1), (3, .int a17_0), (4, .int (nI j17_)), (6, .int (f_X9_shades mTo mSt p0 (nI j17_)))]) hx hb dX9_reaches_334 hl (by decide) rfl (fun ls hl => ?_)
          refine lv_iload hx hb dX9_reaches_336 (lv_at hl 0 rfl) ?_
          refine lv_if_lt (tgt := 358) hx hb dX9_reaches_338 (by decide) (fun c_41 => ?_) (fun c_41 => ?_)
          rotate_left
          · exact absurd (by decide : (((-1) : Int32) < 0)) c_41
          refine lv_iload_n hx hb dX9_reaches_358 rfl (lv_at hl 4 rfl) ?_
          refine lv_istore_n (lv' := [(3, .int a17_0), (7, .int (-1)), (0, .ref m0), (1, .int p0), (2, .int p1), (4, .int (nI j17_)), (6, .int (f_X9_shades mTo mSt p0 (nI j17_)))]) hx hb dX9_reaches_359 rfl hl (by decide) rfl (fun ls hl => ?_)
          refine lv_iinc (v := (nI (j17_ + 1))) (lv' := [(4, .int (nI (j17_ + 1))), (3, .int a17_0), (7, .int (-1)), (0, .ref m0), (1, .int p0), (2, .int p1), (6, .int (f_X9_shades mTo mSt p0 (nI j17_)))]) hx hb dX9_reaches_360 hl (k := 5) rfl (nI_1 _) (by decide) rfl (fun ls hl => ?_)
          refine lv_goto (tgt := 17) hx hb dX9_reaches_363 (by decide) ?_
          exact ih17_ (j17_ + 1) a17_0 (F_X9_reaches_85 p0 1 j17_ mTo mSt a17_1 (Int32.toNatClampNeg (mTo 0))) (by omega) (by rw [← hv17_]; simp only [L_X9_reaches_17, if_pos c_8, if_pos c_22, if_neg (by decide : ¬ ((1 : Int32) = 0)), if_neg c_37, if_pos (by decide : (((-1) : Int32) < 0)), if_pos trivial, if_neg not_false]) _ _ hP hD hS _ (lv_sub hl [3, 4, 5, 1, 0] rfl)
        have loop85_ : ∀ (n85_ j85_ : Nat), j85_ + n85_ = (Int32.toNatClampNeg (mTo 0)) → ∀ (H : Heap) (locs : List Loc), va_P D vwCl [(m0, .inr (9, [.ref m1, .int (nI mTy), .ref m2, .ref m3, .ref m4, .ref m5, .int (nI mKn), .ref m6, .int (nI mKe), .ref m7, .int (nI mCa), .ref m8, .int (nI mSe), .int (nI mAt), .int mFi, .int mSc, .ref m9, .ref m10, .ref m11, .ref m12])), (m1, .inl (cI, 200, .inl mTx)), (m2, .inl (cI, 37, .inl mTo)), (m3, .inl (cI, 37, .inl mDr)), (m4, .inl (cI, 15, .inl mSt)), (m5, .inl (cI, 120, .inl mPa)), (m6, .inl (cI, 30, .inl mIm)), (m7, .inl (cI, 5, .inl mWi)), (m8, .inl (cI, 6, .inl mSn)), (m9, .inl (cI, 15, .inl mHe)), (m10, .inl (cI, 384, .inl (F_X9_reaches_85 p0 1 j17_ mTo mSt a17_1 j85_))), (m11, .inl (cI, 5, .inl mRo)), (m12, .inl (cI, 5, .inl mBe))] H → va_D (va_A (wM cI cC cG m0 m1 m2 m3 m4 m5 m6 m7 m8 m9 m10 m11 m12 mTy mKn mKe mCa mSe mAt mFi mSc mTx mTo mDr mSt mPa mIm mWi mSn mHe mFw mRo mBe) sz) [(m0, .inr (9, [.ref m1, .int (nI mTy), .ref m2, .ref m3, .ref m4, .ref m5, .int (nI mKn), .ref m6, .int (nI mKe), .ref m7, .int (nI mCa), .ref m8, .int (nI mSe), .int (nI mAt), .int mFi, .int mSc, .ref m9, .ref m10, .ref m11, .ref m12])), (m1, .inl (cI, 200, .inl mTx)), (m2, .inl (cI, 37, .inl mTo)), (m3, .inl (cI, 37, .inl mDr)), (m4, .inl (cI, 15, .inl mSt)), (m5, .inl (cI, 120, .inl mPa)), (m6, .inl (cI, 30, .inl mIm)), (m7, .inl (cI, 5, .inl mWi)), (m8, .inl (cI, 6, .inl mSn)), (m9, .inl (cI, 15, .inl mHe)), (m10, .inl (cI, 384, .inl (F_X9_reaches_85 p0 1 j17_ mTo mSt a17_1 j85_))), (m11, .inl (cI, 5, .inl mRo)), (m12, .inl (cI, 5, .inl mBe))] → va_S (va_A (wM cI cC cG m0 m1 m2 m3 m4 m5 m6 m7 m8 m9 m10 m11 m12 mTy mKn mKe mCa mSe mAt mFi mSc mTx mTo mDr mSt mPa mIm mWi mSn mHe mFw mRo mBe) sz) s.heap H locs → ∀ ls : Array Slot, lv_has ls 13 [(0, .ref m0), (1, .int p0), (2, .int p1), (3, .int a17_0), (4, .int (nI j17_)), (5, .int 1), (6, .int (f_X9_shades mTo mSt p0 (nI j17_))), (7, .int (nI j85_))] → W p l e rm_X9_reaches s m ([.ref m0, .int p0, .int p1] : List Value).toArray below meth c H locs 0 0 (MQ below (q_QWi D (wM cI cC cG m0 m1 m2 m3 m4 m5 m6 m7 m8 m9 m10 m11 m12 mTy mKn mKe mCa mSe mAt mFi mSc mTx mTo mDr mSt mPa mIm mWi mSn mHe mFw mRo mBe) (wM cI cC cG m0 m1 m2 m3 m4 m5 m6 m7 m8 m9 m10 m11 m12 mTy mKn mKe mCa mSe mAt mFi mSc mTx mTo mDr mSt mPa mIm mWi mSn mHe (g_X9_reaches_mFw mTo mSt mFw p0 p1) mRo mBe) sz (f_X9_reaches mTo mSt mFw p0 p1)) ([.ref m0, .int p0, .int p1] : List Value).toArray s 0 0 (va_A (wM cI cC cG m0 m1 m2 m3 m4 m5 m6 m7 m8 m9 m10 m11 m12 mTy mKn mKe mCa mSe mAt mFi mSc mTx mTo mDr mSt mPa mIm mWi mSn mHe mFw mRo mBe) sz)) (F0 m 85 ls []) := by
          intro n85_
          induction n85_ with
          | zero =>
            intro j85_ hj85_ H locs hP hD hS ls hl
            obtain rfl : j85_ = (Int32.toNatClampNeg (mTo 0)) := by omega
            refine lv_iload hx hb dX9_reaches_85 (lv_at hl 7 rfl) ?_
            refine lv_aload_n hx hb dX9_reaches_87 rfl (lv_at hl 0 rfl) ?_
            refine va_get (D := D) (ci := 9) (v := .ref m2) (C := RX9) (T := TX9) (N := 20) hx hb hts hinX9 hown hK hP 0 rfl rfl 2 (by decide) hf13 (fun _ h9 => h9) rfl dX9_reaches_88 ?_
            refine lv_iconst (v := 0) hx hb dX9_reaches_91 (by decide) ?_
            refine q_iald hx hb hK hP 2 0 rfl rfl (vp_in_nI (n := 0) (N := 37) (by decide) (by decide)) 0 (by decide) dX9_reaches_92 ?_
            refine lv_icmp_ge (tgt := 300) hx hb dX9_reaches_93 (by decide) (fun c_42 => ?_) (fun c_42 => ?_)
            rotate_left
            · exact absurd k_ge c_42
            exact K85_ _ _ hP hD hS _ (lv_sub hl [0, 1, 2, 3, 4, 6] rfl)
          | succ n85_ ih85_ =>
            intro j85_ hj85_ H locs hP hD hS ls hl
            refine lv_iload hx hb dX9_reaches_85 (lv_at hl 7 rfl) ?_
            refine lv_aload_n hx hb dX9_reaches_87 rfl (lv_at hl 0 rfl) ?_
            refine va_get (D := D) (ci := 9) (v := .ref m2) (C := RX9) (T := TX9) (N := 20) hx hb hts hinX9 hown hK hP 0 rfl rfl 2 (by decide) hf13 (fun _ h9 => h9) rfl dX9_reaches_88 ?_
            refine lv_iconst (v := 0) hx hb dX9_reaches_91 (by decide) ?_
            refine q_iald hx hb hK hP 2 0 rfl rfl (vp_in_nI (n := 0) (N := 37) (by decide) (by decide)) 0 (by decide) dX9_reaches_92 ?_
            refine lv_icmp_ge (tgt := 300) hx hb dX9_reaches_93 (by decide) (fun c_43 => ?_) (fun c_43 => ?_)
            · exact absurd c_43 (k_le (by omega))
            refine lv_aload_n hx hb dX9_reaches_96 rfl (lv_at hl 0 rfl) ?_
            refine va_get (D := D) (ci := 9) (v := .ref m2) (C := RX9) (T := TX9) (N := 20) hx hb hts hinX9 hown hK hP 0 rfl rfl 2 (by decide) hf13 (fun _ h9 => h9) rfl dX9_reaches_97 ?_
            refine lv_bipush (v := 9) hx hb dX9_reaches_100 (by decide) ?_
            refine lv_iload hx hb dX9_reaches_102 (lv_at hl 7 rfl) ?_
            refine q_iaddN (a := 9) (b := j85_) hx hb dX9_reaches_104 ?_
            refine q_iald hx hb hK hP 2 0 rfl rfl (vp_in_nI (by omega) (by decide)) (9 + j85_) (nI_clamp (by omega)) dX9_reaches_105 ?_
            refine lv_iconst (v := 4) hx hb dX9_reaches_106 (by decide) ?_
            refine lv_icmp_ne (tgt := 114) hx hb dX9_reaches_107 (by decide) (fun c_44 => ?_) (fun c_44 => ?_)
            · refine lv_iconst (v := 0) hx hb dX9_reaches_114 (by decide) ?_
              refine lv_istore (lv' := [(8, .int 0), (0, .ref m0), (1, .int p0), (2, .int p1), (3, .int a17_0), (4, .int (nI j17_)), (5, .int 1), (6, .int (f_X9_shades mTo mSt p0 (nI j17_))), (7, .int (nI j85_))]) hx hb dX9_reaches_115 hl (by decide) rfl (fun ls hl => ?_)
              refine lv_iconst (v := (-1)) hx hb dX9_reaches_117 (by decide) ?_
              refine lv_istore (lv' := [(9, .int (-1)), (8, .int 0), (0, .ref m0), (1, .int p0), (2, .int p1), (3, .int a17_0), (4, .int (nI j17_)), (5, .int 1), (6, .int (f_X9_shades mTo mSt p0 (nI j17_))), (7, .int (nI j85_))]) hx hb dX9_reaches_118 hl (by decide) rfl (fun ls hl => ?_)
              refine lv_iload hx hb dX9_reaches_120 (lv_at hl 7 rfl) ?_
              refine lv_if_eq (tgt := 279) hx hb dX9_reaches_122 (by decide) (fun c_45 => ?_) (fun c_45 => ?_)
              · exact absurd c_45 (by decide : ¬ ((1 : Int32) = 0))
              refine lv_iload hx hb dX9_reaches_125 (lv_at hl 6 rfl) ?_
              refine lv_iload hx hb dX9_reaches_127 (lv_at hl 9 rfl) ?_
              refine lv_ishr hx hb dX9_reaches_129 ?_
              refine lv_iconst (v := 1) hx hb dX9_reaches_130 (by decide) ?_
              refine lv_iand hx hb dX9_reaches_131 ?_
              refine lv_iconst (v := 1) hx hb dX9_reaches_132 (by decide) ?_
              refine lv_icmp_ne (tgt := 279) hx hb dX9_reaches_133 (by decide) (fun c_46 => ?_) (fun c_46 => ?_)
              · refine lv_aload_n hx hb dX9_reaches_279 rfl (lv_at hl 2 rfl) ?_
                refine va_get (D := D) (ci := 9) (v := .ref m10) (C := RX9) (T := TX9) (N := 20) hx hb hts hinX9 hown hK hP 0 rfl rfl 17 (by decide) hf37 (fun _ h9 => h9) rfl dX9_reaches_280 ?_
                refine lv_bipush (v := 6) hx hb dX9_reaches_283 (by decide) ?_
                refine lv_iload hx hb dX9_reaches_285 (lv_at hl 6 rfl) ?_
                refine q_imulN (a := 6) (b := j17_) hx hb dX9_reaches_287 ?_
                refine lv_iload hx hb dX9_reaches_288 (lv_at hl 9 rfl) ?_
                refine q_iaddN (a := (6 * j17_)) (b := j85_) hx hb dX9_reaches_290 ?_
                refine lv_iload hx hb dX9_reaches_291 (lv_at hl 0 rfl) ?_
                refine q_iast hx hb hK hP hD hS 10 0 rfl rfl (vp_in_nI (by omega) (by decide)) ((6 * j17_) + j85_) (nI_clamp (by omega)) dX9_reaches_293 (fun H locs hP hD hS => ?_)
                have hP : va_P D vwCl [(m0, .inr (9, [.ref m1, .int (nI mTy), .ref m2, .ref m3, .ref m4, .ref m5, .int (nI mKn), .ref m6, .int (nI mKe), .ref m7, .int (nI mCa), .ref m8, .int (nI mSe), .int (nI mAt), .int mFi, .int mSc, .ref m9, .ref m10, .ref m11, .ref m12])), (m1, .inl (cI, 200, .inl mTx)), (m2, .inl (cI, 37, .inl mTo)), (m3, .inl (cI, 37, .inl mDr)), (m4, .inl (cI, 15, .inl mSt)), (m5, .inl (cI, 120, .inl mPa)), (m6, .inl (cI, 30, .inl mIm)), (m7, .inl (cI, 5, .inl mWi)), (m8, .inl (cI, 6, .inl mSn)), (m9, .inl (cI, 15, .inl mHe)), (m10, .inl (cI, 384, .inl (upd (F_X9_reaches_85 p0 1 j17_ mTo mSt a17_1 j85_) ((6 * j17_) + j85_) (-1)))), (m11, .inl (cI, 5, .inl mRo)), (m12, .inl (cI, 5, .inl mBe))] H := hP
                have hD : va_D (va_A (wM cI cC cG m0 m1 m2 m3 m4 m5 m6 m7 m8 m9 m10 m11 m12 mTy mKn mKe mCa mSe mAt mFi mSc mTx mTo mDr mSt mPa mIm mWi mSn mHe mFw mRo mBe) sz) [(m0, .inr (9, [.ref m1, .int (nI mTy), .ref m2, .ref m3, .ref m4, .ref m5, .int (nI mKn), .ref m6, .int (nI mKe), .ref m7, .int (nI mCa), .ref m8, .int (nI mSe), .int (nI mAt), .int mFi, .int mSc, .ref m9, .ref m10, .ref m11, .ref m12])), (m1, .inl (cI, 200, .inl mTx)), (m2, .inl (cI, 37, .inl mTo)), (m3, .inl (cI, 37, .inl mDr)), (m4, .inl (cI, 15, .inl mSt)), (m5, .inl (cI, 120, .inl mPa)), (m6, .inl (cI, 30, .inl mIm)), (m7, .inl (cI, 5, .inl mWi)), (m8, .inl (cI, 6, .inl mSn)), (m9, .inl (cI, 15, .inl mHe)), (m10, .inl (cI, 384, .inl (upd (F_X9_reaches_85 p0 1 j17_ mTo mSt a17_1 j85_) ((6 * j17_) + j85_) (-1)))), (m11, .inl (cI, 5, .inl mRo)), (m12, .inl (cI, 5, .inl mBe))] := hD
                refine lv_iinc (v := (nI (j85_ + 1))) (lv' := [(7, .int (nI (j85_ + 1))), (9, .int (-1)), (8, .int 0), (0, .ref m0), (1, .int p0), (2, .int p1), (3, .int a17_0), (4, .int (nI j17_)), (5, .int 1), (6, .int (f_X9_shades mTo mSt p0 (nI j17_)))]) hx hb dX9_reaches_294 hl (k := 9) rfl (nI_1 _) (by decide) rfl (fun ls hl => ?_)
                refine lv_goto (tgt := 85) hx hb dX9_reaches_297 (by decide) ?_
                have e_47 : (F_X9_reaches_85 p0 1 j17_ mTo mSt a17_1 (j85_ + 1)) = (upd (F_X9_reaches_85 p0 1 j17_ mTo mSt a17_1 j85_) ((6 * j17_) + j85_) (-1)) := by simp only [F_X9_reaches_85, if_neg c_44, if_neg (by decide : ¬ ((1 : Int32) = 0)), if_neg c_46, if_pos trivial, if_neg not_false]
                exact ih85_ (j85_ + 1) (by omega) _ _ (by rw [e_47]; exact hP) (by rw [e_47]; exact hD) hS _ (lv_sub hl [3, 4, 5, 6, 7, 8, 9, 0] rfl)
              refine lv_iload hx hb dX9_reaches_136 (lv_at hl 6 rfl) ?_
              refine lv_iconst (v := 1) hx hb dX9_reaches_138 (by decide) ?_
              refine lv_iload hx hb dX9_reaches_139 (lv_at hl 9 rfl) ?_
              refine lv_ishl hx hb dX9_reaches_141 ?_
              refine lv_ixor hx hb dX9_reaches_142 ?_
              refine lv_istore (lv' := [(10, .int ((nI j17_) ^^^ ((1 : Int32) <<< ((nI j85_) &&& 31)))), (9, .int (-1)), (8, .int 0), (0, .ref m0), (1, .int p0), (2, .int p1), (3, .int a17_0), (4, .int (nI j17_)), (5, .int 1), (6, .int (f_X9_shades mTo mSt p0 (nI j17_))), (7, .int (nI j85_))]) hx hb dX9_reaches_143 hl (by decide) rfl (fun ls hl => ?_)
              refine lv_iload hx hb dX9_reaches_145 (lv_at hl 0 rfl) ?_
              refine lv_if_ne (tgt := 174) hx hb dX9_reaches_147 (by decide) (fun c_48 => ?_) (fun c_48 => ?_)
              · refine lv_iconst (v := (-1)) hx hb dX9_reaches_174 (by decide) ?_
                refine lv_istore (lv' := [(9, .int (-1)), (10, .int ((nI j17_) ^^^ ((1 : Int32) <<< ((nI j85_) &&& 31)))), (8, .int 0), (0, .ref m0), (1, .int p0), (2, .int p1), (3, .int a17_0), (4, .int (nI j17_)), (5, .int 1), (6, .int (f_X9_shades mTo mSt p0 (nI j17_))), (7, .int (nI j85_))]) hx hb dX9_reaches_175 hl (by decide) rfl (fun ls hl => ?_)
                refine lv_iconst (v := 0) hx hb dX9_reaches_177 (by decide) ?_
                refine lv_istore (lv' := [(11, .int 0), (9, .int (-1)), (10, .int ((nI j17_) ^^^ ((1 : Int32) <<< ((nI j85_) &&& 31)))), (8, .int 0), (0, .ref m0), (1, .int p0), (2, .int p1), (3, .int a17_0), (4, .int (nI j17_)), (5, .int 1), (6, .int (f_X9_shades mTo mSt p0 (nI j17_))), (7, .int (nI j85_))]) hx hb dX9_reaches_178 hl (by decide) rfl (fun ls hl => ?_)
                have K180_ : ∀ (H : Heap) (locs : List Loc), va_P D vwCl [(m0, .inr (9, [.ref m1, .int (nI mTy), .ref m2, .ref m3, .ref m4, .ref m5, .int (nI mKn), .ref m6, .int (nI mKe), .ref m7, .int (nI mCa), .ref m8, .int (nI mSe), .int (nI mAt), .int mFi, .int mSc, .ref m9, .ref m10, .ref m11, .ref m12])), (m1, .inl (cI, 200, .inl mTx)), (m2, .inl (cI, 37, .inl mTo)), (m3, .inl (cI, 37, .inl mDr)), (m4, .inl (cI, 15, .inl mSt)), (m5, .inl (cI, 120, .inl mPa)), (m6, .inl (cI, 30, .inl mIm)), (m7, .inl (cI, 5, .inl mWi)), (m8, .inl (cI, 6, .inl mSn)), (m9, .inl (cI, 15, .inl mHe)), (m10, .inl (cI, 384, .inl (F_X9_reaches_85 p0 1 j17_ mTo mSt a17_1 j85_))), (m11, .inl (cI, 5, .inl mRo)), (m12, .inl (cI, 5, .inl mBe))] H → va_D (va_A (wM cI cC cG m0 m1 m2 m3 m4 m5 m6 m7 m8 m9 m10 m11 m12 mTy mKn mKe mCa mSe mAt mFi mSc mTx mTo mDr mSt mPa mIm mWi mSn mHe mFw mRo mBe) sz) [(m0, .inr (9, [.ref m1, .int (nI mTy), .ref m2, .ref m3, .ref m4, .ref m5, .int (nI mKn), .ref m6, .int (nI mKe), .ref m7, .int (nI mCa), .ref m8, .int (nI mSe), .int (nI mAt), .int mFi, .int mSc, .ref m9, .ref m10, .ref m11, .ref m12])), (m1, .inl (cI, 200, .inl mTx)), (m2, .inl (cI, 37, .inl mTo)), (m3, .inl (cI, 37, .inl mDr)), (m4, .inl (cI, 15, .inl mSt)), (m5, .inl (cI, 120, .inl mPa)), (m6, .inl (cI, 30, .inl mIm)), (m7, .inl (cI, 5, .inl mWi)), (m8, .inl (cI, 6, .inl mSn)), (m9, .inl (cI, 15, .inl mHe)), (m10, .inl (cI, 384, .inl (F_X9_reaches_85 p0 1 j17_ mTo mSt a17_1 j85_))), (m11, .inl (cI, 5, .inl mRo)), (m12, .inl (cI, 5, .inl mBe))] → va_S (va_A (wM cI cC cG m0 m1 m2 m3 m4 m5 m6 m7 m8 m9 m10 m11 m12 mTy mKn mKe mCa mSe mAt mFi mSc mTx mTo mDr mSt mPa mIm mWi mSn mHe mFw mRo mBe) sz) s.heap H locs → ∀ ls : Array Slot, lv_has ls 13 [(0, .ref m0), (1, .int p0), (2, .int p1), (3, .int a17_0), (4, .int (nI j17_)), (5, .int 1), (6, .int (f_X9_shades mTo mSt p0 (nI j17_))), (7, .int (nI j85_)), (9, .int (L_X9_reaches_180 0 ((nI j17_) ^^^ ((1 : Int32) <<< ((nI j85_) &&& 31))) j85_ mTo mSt (F_X9_reaches_85 p0 1 j17_ mTo mSt a17_1 j85_) (Int32.toNatClampNeg (mTo 0)) 0 (-1)))] → W p l e rm_X9_reaches s m ([.ref m0, .int p0, .int p1] : List Value).toArray below meth c H locs 0 0 (MQ below (q_QWi D (wM cI cC cG m0 m1 m2 m3 m4 m5 m6 m7 m8 m9 m10 m11 m12 mTy mKn mKe mCa mSe mAt mFi mSc mTx mTo mDr mSt mPa mIm mWi mSn mHe mFw mRo mBe) (wM cI cC cG m0 m1 m2 m3 m4 m5 m6 m7 m8 m9 m10 m11 m12 mTy mKn mKe mCa mSe mAt mFi mSc mTx mTo mDr mSt mPa mIm mWi mSn mHe (g_X9_reaches_mFw mTo mSt mFw p0 p1) mRo mBe) sz (f_X9_reaches mTo mSt mFw p0 p1)) ([.ref m0, .int p0, .int p1] : List Value).toArray s 0 0 (va_A (wM cI cC cG m0 m1 m2 m3 m4 m5 m6 m7 m8 m9 m10 m11 m12 mTy mKn mKe mCa mSe mAt mFi mSc mTx mTo mDr mSt mPa mIm mWi mSn mHe mFw mRo mBe) sz)) (F0 m 279 ls []) := by
                  intro H locs hP hD hS ls hl
                  refine lv_aload_n hx hb dX9_reaches_279 rfl (lv_at hl 0 rfl) ?_
                  refine va_get (D := D) (ci := 9) (v := .ref m10) (C := RX9) (T := TX9) (N := 20) hx hb hts hinX9 hown hK hP 0 rfl rfl 17 (by decide) hf37 (fun _ h9 => h9) rfl dX9_reaches_280 ?_
                  refine lv_bipush (v := 6) hx hb dX9_reaches_283 (by decide) ?_
                  refine lv_iload hx hb dX9_reaches_285 (lv_at hl 4 rfl) ?_
                  refine q_imulN (a := 6) (b := j17_) hx hb dX9_reaches_287 ?_
                  refine lv_iload hx hb dX9_reaches_288 (lv_at hl 7 rfl) ?_
                  refine q_iaddN (a := (6 * j17_)) (b := j85_) hx hb dX9_reaches_290 ?_
                  refine lv_iload hx hb dX9_reaches_291 (lv_at hl 8 rfl) ?_
                  refine q_iast hx hb hK hP hD hS 10 0 rfl rfl (vp_in_nI (by omega) (by decide)) ((6 * j17_) + j85_) (nI_clamp (by omega)) dX9_reaches_293 (fun H locs hP hD hS => ?_)
                  have hP : va_P D vwCl [(m0, .inr (9, [.ref m1, .int (nI mTy), .ref m2, .ref m3, .ref m4, .ref m5, .int (nI mKn), .ref m6, .int (nI mKe), .ref m7, .int (nI mCa), .ref m8, .int (nI mSe), .int (nI mAt), .int mFi, .int mSc, .ref m9, .ref m10, .ref m11, .ref m12])), (m1, .inl (cI, 200, .inl mTx)), (m2, .inl (cI, 37, .inl mTo)), (m3, .inl (cI, 37, .inl mDr)), (m4, .inl (cI, 15, .inl mSt)), (m5, .inl (cI, 120, .inl mPa)), (m6, .inl (cI, 30, .inl mIm)), (m7, .inl (cI, 5, .inl mWi)), (m8, .inl (cI, 6, .inl mSn)), (m9, .inl (cI, 15, .inl mHe)), (m10, .inl (cI, 384, .inl (upd (F_X9_reaches_85 p0 1 j17_ mTo mSt a17_1 j85_) ((6 * j17_) + j85_) (L_X9_reaches_180 0 ((nI j17_) ^^^ ((1 : Int32) <<< ((nI j85_) &&& 31))) j85_ mTo mSt (F_X9_reaches_85 p0 1 j17_ mTo mSt a17_1 j85_) (Int32.toNatClampNeg (mTo 0)) 0 (-1))))), (m11, .inl (cI, 5, .inl mRo)), (m12, .inl (cI, 5, .inl mBe))] H := hP
                  have hD : va_D (va_A (wM cI cC cG m0 m1 m2 m3 m4 m5 m6 m7 m8 m9 m10 m11 m12 mTy mKn mKe mCa mSe mAt mFi mSc mTx mTo mDr mSt mPa mIm mWi mSn mHe mFw mRo mBe) sz) [(m0, .inr (9, [.ref m1, .int (nI mTy), .ref m2, .ref m3, .ref m4, .ref m5, .int (nI mKn), .ref m6, .int (nI mKe), .ref m7, .int (nI mCa), .ref m8, .int (nI mSe), .int (nI mAt), .int mFi, .int mSc, .ref m9, .ref m10, .ref m11, .ref m12])), (m1, .inl (cI, 200, .inl mTx)), (m2, .inl (cI, 37, .inl mTo)), (m3, .inl (cI, 37, .inl mDr)), (m4, .inl (cI, 15, .inl mSt)), (m5, .inl (cI, 120, .inl mPa)), (m6, .inl (cI, 30, .inl mIm)), (m7, .inl (cI, 5, .inl mWi)), (m8, .inl (cI, 6, .inl mSn)), (m9, .inl (cI, 15, .inl mHe)), (m10, .inl (cI, 384, .inl (upd (F_X9_reaches_85 p0 1 j17_ mTo mSt a17_1 j85_) ((6 * j17_) + j85_) (L_X9_reaches_180 0 ((nI j17_) ^^^ ((1 : Int32) <<< ((nI j85_) &&& 31))) j85_ mTo mSt (F_X9_reaches_85 p0 1 j17_ mTo mSt a17_1 j85_) (Int32.toNatClampNeg (mTo 0)) 0 (-1))))), (m11, .inl (cI, 5, .inl mRo)), (m12, .inl (cI, 5, .inl mBe))] := hD
                  refine lv_iinc (v := (nI (j85_ + 1))) (lv' := [(7, .int (nI (j85_ + 1))), (0, .ref m0), (1, .int p0), (2, .int p1), (3, .int a17_0), (4, .int (nI j17_)), (5, .int 1), (6, .int (f_X9_shades mTo mSt p0 (nI j17_))), (9, .int (L_X9_reaches_180 0 ((nI j17_) ^^^ ((1 : Int32) <<< ((nI j85_) &&& 31))) j85_ mTo mSt (F_X9_reaches_85 p0 1 j17_ mTo mSt a17_1 j85_) (Int32.toNatClampNeg (mTo 0)) 0 (-1)))]) hx hb dX9_reaches_294 hl (k := 7) rfl (nI_1 _) (by decide) rfl (fun ls hl => ?_)
                  refine lv_goto (tgt := 85) hx hb dX9_reaches_297 (by decide) ?_
                  have e_49 : (F_X9_reaches_85 p0 1 j17_ mTo mSt a17_1 (j85_ + 1)) = (upd (F_X9_reaches_85 p0 1 j17_ mTo mSt a17_1 j85_) ((6 * j17_) + j85_) (L_X9_reaches_180 0 ((nI j17_) ^^^ ((1 : Int32) <<< ((nI j85_) &&& 31))) j85_ mTo mSt (F_X9_reaches_85 p0 1 j17_ mTo mSt a17_1 j85_) (Int32.toNatClampNeg (mTo 0)) 0 (-1))) := by simp only [F_X9_reaches_85, if_neg c_44, if_neg (by decide : ¬ ((1 : Int32) = 0)), if_pos c_46, if_neg c_48, if_pos trivial, if_neg not_false]
                  exact ih85_ (j85_ + 1) (by omega) _ _ (by rw [e_49]; exact hP) (by rw [e_49]; exact hD) hS _ (lv_sub hl [1, 2, 3, 4, 5, 6, 7, 0] rfl)
                have loop180_ : ∀ (n180_ j180_ : Nat) (a180_0 : Int32), j180_ + n180_ = (Int32.toNatClampNeg (mTo 0)) → (L_X9_reaches_180 0 ((nI j17_) ^^^ ((1 : Int32) <<< ((nI j85_) &&& 31))) j85_ mTo mSt (F_X9_reaches_85 p0 1 j17_ mTo mSt a17_1 j85_) n180_ j180_ a180_0) = (L_X9_reaches_180 0 ((nI j17_) ^^^ ((1 : Int32) <<< ((nI j85_) &&& 31))) j85_ mTo mSt (F_X9_reaches_85 p0 1 j17_ mTo mSt a17_1 j85_) (Int32.toNatClampNeg (mTo 0)) 0 (-1)) → ∀ (H : Heap) (locs : List Loc), va_P D vwCl [(m0, .inr (9, [.ref m1, .int (nI mTy), .ref m2, .ref m3, .ref m4, .ref m5, .int (nI mKn), .ref m6, .int (nI mKe), .ref m7, .int (nI mCa), .ref m8, .int (nI mSe), .int (nI mAt), .int mFi, .int mSc, .ref m9, .ref m10, .ref m11, .ref m12])), (m1, .inl (cI, 200, .inl mTx)), (m2, .inl (cI, 37, .inl mTo)), (m3, .inl (cI, 37, .inl mDr)), (m4, .inl (cI, 15, .inl mSt)), (m5, .inl (cI, 120, .inl mPa)), (m6, .inl (cI, 30, .inl mIm)), (m7, .inl (cI, 5, .inl mWi)), (m8, .inl (cI, 6, .inl mSn)), (m9, .inl (cI, 15, .inl mHe)), (m10, .inl (cI, 384, .inl (F_X9_reaches_85 p0 1 j17_ mTo mSt a17_1 j85_))), (m11, .inl (cI, 5, .inl mRo)), (m12, .inl (cI, 5, .inl mBe))] H → va_D (va_A (wM cI cC cG m0 m1 m2 m3 m4 m5 m6 m7 m8 m9 m10 m11 m12 mTy mKn mKe mCa mSe mAt mFi mSc mTx mTo mDr mSt mPa mIm mWi mSn mHe mFw mRo mBe) sz) [(m0, .inr (9, [.ref m1, .int (nI mTy), .ref m2, .ref m3, .ref m4, .ref m5, .int (nI mKn), .ref m6, .int (nI mKe), .ref m7, .int (nI mCa), .ref m8, .int (nI mSe), .int (nI mAt), .int mFi, .int mSc, .ref m9, .ref m10, .ref m11, .ref m12])), (m1, .inl (cI, 200, .inl mTx)), (m2, .inl (cI, 37, .inl mTo)), (m3, .inl (cI, 37, .inl mDr)), (m4, .inl (cI, 15, .inl mSt)), (m5, .inl (cI, 120, .inl mPa)), (m6, .inl (cI, 30, .inl mIm)), (m7, .inl (cI, 5, .inl mWi)), (m8, .inl (cI, 6, .inl mSn)), (m9, .inl (cI, 15, .inl mHe)), (m10, .inl (cI, 384, .inl (F_X9_reaches_85 p0 1 j17_ mTo mSt a17_1 j85_))), (m11, .inl (cI, 5, .inl mRo)), (m12, .inl (cI, 5, .inl mBe))] → va_S (va_A (wM cI cC cG m0 m1 m2 m3 m4 m5 m6 m7 m8 m9 m10 m11 m12 mTy mKn mKe mCa mSe mAt mFi mSc mTx mTo mDr mSt mPa mIm mWi mSn mHe mFw mRo mBe) sz) s.heap H locs → ∀ ls : Array Slot, lv_has ls 13 [(0, .ref m0), (1, .int p0), (2, .int p1), (3, .int a17_0), (4, .int (nI j17_)), (5, .int 1), (6, .int (f_X9_shades mTo mSt p0 (nI j17_))), (7, .int (nI j85_)), (8, .int 0), (9, .int a180_0), (10, .int ((nI j17_) ^^^ ((1 : Int32) <<< ((nI j85_) &&& 31)))), (11, .int (nI j180_))] → W p l e rm_X9_reaches s m ([.ref m0, .int p0, .int p1] : List Value).toArray below meth c H locs 0 0 (MQ below (q_QWi D (wM cI cC cG m0 m1 m2 m3 m4 m5 m6 m7 m8 m9 m10 m11 m12 mTy mKn mKe mCa mSe mAt mFi mSc mTx mTo mDr mSt mPa mIm mWi mSn mHe mFw mRo mBe) (wM cI cC cG m0 m1 m2 m3 m4 m5 m6 m7 m8 m9 m10 m11 m12 mTy mKn mKe mCa mSe mAt mFi mSc mTx mTo mDr mSt mPa mIm mWi mSn mHe (g_X9_reaches_mFw mTo mSt mFw p0 p1) mRo mBe) sz (f_X9_reaches mTo mSt mFw p0 p1)) ([.ref m0, .int p0, .int p1] : List Value).toArray s 0 0 (va_A (wM cI cC cG m0 m1 m2 m3 m4 m5 m6 m7 m8 m9 m10 m11 m12 mTy mKn mKe mCa mSe mAt mFi mSc mTx mTo mDr mSt mPa mIm mWi mSn mHe mFw mRo mBe) sz)) (F0 m 180 ls []) := by
                  intro n180_
                  induction n180_ with
                  | zero =>
                    intro j180_ a180_0 hj180_ hv180_ H locs hP hD hS ls hl
                    obtain rfl : j180_ = (Int32.toNatClampNeg (mTo 0)) := by omega
                    refine lv_iload hx hb dX9_reaches_180 (lv_at hl 11 rfl) ?_
                    refine lv_aload_n hx hb dX9_reaches_182 rfl (lv_at hl 0 rfl) ?_
                    refine va_get (D := D) (ci := 9) (v := .ref m2) (C := RX9) (T := TX9) (N := 20) hx hb hts hinX9 hown hK hP 0 rfl rfl 2 (by decide) hf13 (fun _ h9 => h9) rfl dX9_reaches_183 ?_
                    refine lv_iconst (v := 0) hx hb dX9_reaches_186 (by decide) ?_
                    refine q_iald hx hb hK hP 2 0 rfl rfl (vp_in_nI (n := 0) (N := 37) (by decide) (by decide)) 0 (by decide) dX9_reaches_187 ?_
                    refine lv_icmp_ge (tgt := 279) hx hb dX9_reaches_188 (by decide) (fun c_50 => ?_) (fun c_50 => ?_)
                    rotate_left
                    · exact absurd k_ge c_50
                    have e_51 : a180_0 = (L_X9_reaches_180 0 ((nI j17_) ^^^ ((1 : Int32) <<< ((nI j85_) &&& 31))) j85_ mTo mSt (F_X9_reaches_85 p0 1 j17_ mTo mSt a17_1 j85_) (Int32.toNatClampNeg (mTo 0)) 0 (-1)) := by rw [← hv180_]; simp only [L_X9_reaches_180]
                    have e_52 : a180_0 = (L_X9_reaches_180 0 ((nI j17_) ^^^ ((1 : Int32) <<< ((nI j85_) &&& 31))) j85_ mTo mSt (F_X9_reaches_85 p0 1 j17_ mTo mSt a17_1 j85_) (Int32.toNatClampNeg (mTo 0)) 0 (-1)) := e_51
                    exact K180_ _ _ hP hD hS _ (by rw [← e_52]; exact (lv_sub hl [0, 1, 2, 3, 4, 5, 6, 7, 9] rfl))
                  | succ n180_ ih180_ =>
                    intro j180_ a180_0 hj180_ hv180_ H locs hP hD hS ls hl
                    refine lv_iload hx hb dX9_reaches_180 (lv_at hl 11 rfl) ?_
                    refine lv_aload_n hx hb dX9_reaches_182 rfl (lv_at hl 0 rfl) ?_
                    refine va_get (D := D) (ci := 9) (v := .ref m2) (C := RX9) (T := TX9) (N := 20) hx hb hts hinX9 hown hK hP 0 rfl rfl 2 (by decide) hf13 (fun _ h9 => h9) rfl dX9_reaches_183 ?_
                    refine lv_iconst (v := 0) hx hb dX9_reaches_186 (by decide) ?_
                    refine q_iald hx hb hK hP 2 0 rfl rfl (vp_in_nI (n := 0) (N := 37) (by decide) (by decide)) 0 (by decide) dX9_reaches_187 ?_
                    refine lv_icmp_ge (tgt := 279) hx hb dX9_reaches_188 (by decide) (fun c_53 => ?_) (fun c_53 => ?_)
                    · exact absurd c_53 (k_le (by omega))
                    refine lv_iload hx hb dX9_reaches_191 (lv_at hl 10 rfl) ?_
                    refine lv_if_eq (tgt := 279) hx hb dX9_reaches_193 (by decide) (fun c_54 => ?_) (fun c_54 => ?_)
                    · have e_55 : a180_0 = (L_X9_reaches_180 0 ((nI j17_) ^^^ ((1 : Int32) <<< ((nI j85_) &&& 31))) j85_ mTo mSt (F_X9_reaches_85 p0 1 j17_ mTo mSt a17_1 j85_) (Int32.toNatClampNeg (mTo 0)) 0 (-1)) := by rw [← hv180_]; simp only [L_X9_reaches_180, if_pos c_54]
                      have e_56 : a180_0 = (L_X9_reaches_180 0 ((nI j17_) ^^^ ((1 : Int32) <<< ((nI j85_) &&& 31))) j85_ mTo mSt (F_X9_reaches_85 p0 1 j17_ mTo mSt a17_1 j85_) (Int32.toNatClampNeg (mTo 0)) 0 (-1)) := e_55
                      exact K180_ _ _ hP hD hS _ (by rw [← e_56]; exact (lv_sub hl [0, 1, 2, 3, 4, 5, 6, 7, 9] rfl))
                    refine lv_iload hx hb dX9_reaches_196 (lv_at hl 10 rfl) ?_
                    refine lv_iload hx hb dX9_reaches_198 (lv_at hl 11 rfl) ?_
                    refine lv_ishr hx hb dX9_reaches_200 ?_
                    refine lv_iconst (v := 1) hx hb dX9_reaches_201 (by decide) ?_
                    refine lv_iand hx hb dX9_reaches_202 ?_
                    refine lv_iconst (v := 1) hx hb dX9_reaches_203 (by decide) ?_
                    refine lv_icmp_ne (tgt := 238) hx hb dX9_reaches_204 (by decide) (fun c_57 => ?_) (fun c_57 => ?_)
                    · refine lv_iconst (v := (-1)) hx hb dX9_reaches_238 (by decide) ?_
                      refine lv_istore (lv' := [(12, .int (-1)), (0, .ref m0), (1, .int p0), (2, .int p1), (3, .int a17_0), (4, .int (nI j17_)), (5, .int 1), (6, .int (f_X9_shades mTo mSt p0 (nI j17_))), (7, .int (nI j85_)), (8, .int 0), (9, .int a180_0), (10, .int ((nI j17_) ^^^ ((1 : Int32) <<< ((nI j85_) &&& 31)))), (11, .int (nI j180_))]) hx hb dX9_reaches_239 hl (by decide) rfl (fun ls hl => ?_)
                      refine lv_iload hx hb dX9_reaches_241 (lv_at hl 0 rfl) ?_
                      refine lv_if_lt (tgt := 269) hx hb dX9_reaches_243 (by decide) (fun c_58 => ?_) (fun c_58 => ?_)
                      rotate_left
                      · exact absurd (by decide : (((-1) : Int32) < 0)) c_58
                      refine lv_iload hx hb dX9_reaches_269 (lv_at hl 10 rfl) ?_
                      refine lv_istore (lv' := [(9, .int a180_0), (12, .int (-1)), (0, .ref m0), (1, .int p0), (2, .int p1), (3, .int a17_0), (4, .int (nI j17_)), (5, .int 1), (6, .int (f_X9_shades mTo mSt p0 (nI j17_))), (7, .int (nI j85_)), (8, .int 0), (10, .int ((nI j17_) ^^^ ((1 : Int32) <<< ((nI j85_) &&& 31)))), (11, .int (nI j180_))]) hx hb dX9_reaches_271 hl (by decide) rfl (fun ls hl => ?_)
                      refine lv_iinc (v := (nI (j180_ + 1))) (lv' := [(11, .int (nI (j180_ + 1))), (9, .int a180_0), (12, .int (-1)), (0, .ref m0), (1, .int p0), (2, .int p1), (3, .int a17_0), (4, .int (nI j17_)), (5, .int 1), (6, .int (f_X9_shades mTo mSt p0 (nI j17_))), (7, .int (nI j85_)), (8, .int 0), (10, .int ((nI j17_) ^^^ ((1 : Int32) <<< ((nI j85_) &&& 31))))]) hx hb dX9_reaches_273 hl (k := 12) rfl (nI_1 _) (by decide) rfl (fun ls hl => ?_)
                      refine lv_goto (tgt := 180) hx hb dX9_reaches_276 (by decide) ?_
                      exact ih180_ (j180_ + 1) a180_0 (by omega) (by rw [← hv180_]; simp only [L_X9_reaches_180, if_neg c_54, if_neg c_57, if_pos (by decide : (((-1) : Int32) < 0)), if_pos trivial, if_neg not_false]) _ _ hP hD hS _ (lv_sub hl [3, 4, 5, 6, 7, 8, 9, 10, 11, 1, 12, 0] rfl)
                    refine lv_aload_n hx hb dX9_reaches_207 rfl (lv_at hl 0 rfl) ?_
                    refine lv_iload hx hb dX9_reaches_208 (lv_at hl 7 rfl) ?_
                    refine ro_i (va_runV (As := [.int (nI j85_)]) (rest := []) ⟨hx, hb, hml, hown, hts⟩ (c_X9_met l D cI cC cG m0 m1 m2 m3 m4 m5 m6 m7 m8 m9 m10 m11 m12 mTy mKn mKe mCa mSe mAt mFi mSc mTx mTo mDr mSt mPa mIm mWi mSn mHe (F_X9_reaches_85 p0 1 j17_ mTo mSt a17_1 j85_) mRo mBe (nI j85_) hM (vp_in_nI (by omega) (by decide))) (cwV 1 hts gX9_reaches_X9_met rfl rfl rfl (by decide +kernel) ⟨Nat.le_of_ble_eq_true rfl, Nat.le_of_ble_eq_true rfl⟩) (q_preV hK hP hN [0, 1, 2, 3, 4, 5, 6, 7, 8, 9, 10, 11, 12] rfl (ci := 9) (q0 := 0) rfl rfl) rfl rfl hl.1 rfl (lv_room (Nat.le_of_ble_eq_true rfl)) dX9_reaches_210 ⟨Nat.zero_le _, Nat.zero_le _⟩) hS hP (fun H locs hP hS => ?_)
                    refine lv_iload hx hb dX9_reaches_213 (lv_at hl 11 rfl) ?_
                    refine lv_ishr hx hb dX9_reaches_215 ?_
                    refine lv_iconst (v := 1) hx hb dX9_reaches_216 (by decide) ?_
                    refine lv_iand hx hb dX9_reaches_217 ?_
                    refine lv_iconst (v := 1) hx hb dX9_reaches_218 (by decide) ?_
                    refine lv_icmp_ne (tgt := 238) hx hb dX9_reaches_219 (by decide) (fun c_59 => ?_) (fun c_59 => ?_)
                    · refine lv_iconst (v := (-1)) hx hb dX9_reaches_238 (by decide) ?_
                      refine lv_istore (lv' := [(12, .int (-1)), (0, .ref m0), (1, .int p0), (2, .int p1), (3, .int a17_0), (4, .int (nI j17_)), (5, .int 1), (6, .int (f_X9_shades mTo mSt p0 (nI j17_))), (7, .int (nI j85_)), (8, .int 0), (9, .int a180_0), (10, .int ((nI j17_) ^^^ ((1 : Int32) <<< ((nI j85_) &&& 31)))), (11, .int (nI j180_))]) hx hb dX9_reaches_239 hl (by decide) rfl (fun ls hl => ?_)
                      refine lv_iload hx hb dX9_reaches_241 (lv_at hl 0 rfl) ?_
                      refine lv_if_lt (tgt := 269) hx hb dX9_reaches_243 (by decide) (fun c_60 => ?_) (fun c_60 => ?_)
                      rotate_left
                      · exact absurd (by decide : (((-1) : Int32) < 0)) c_60
                      refine lv_iload hx hb dX9_reaches_269 (lv_at hl 10 rfl) ?_
                      refine lv_istore (lv' := [(9, .int a180_0), (12, .int (-1)), (0, .ref m0), (1, .int p0), (2, .int p1), (3, .int a17_0), (4, .int (nI j17_)), (5, .int 1), (6, .int (f_X9_shades mTo mSt p0 (nI j17_))), (7, .int (nI j85_)), (8, .int 0), (10, .int ((nI j17_) ^^^ ((1 : Int32) <<< ((nI j85_) &&& 31)))), (11, .int (nI j180_))]) hx hb dX9_reaches_271 hl (by decide) rfl (fun ls hl => ?_)
                      refine lv_iinc (v := (nI (j180_ + 1))) (lv' := [(11, .int (nI (j180_ + 1))), (9, .int a180_0), (12, .int (-1)), (0, .ref m0), (1, .int p0), (2, .int p1), (3, .int a17_0), (4, .int (nI j17_)), (5, .int 1), (6, .int (f_X9_shades mTo mSt p0 (nI j17_))), (7, .int (nI j85_)), (8, .int 0), (10, .int ((nI j17_) ^^^ ((1 : Int32) <<< ((nI j85_) &&& 31))))]) hx hb dX9_reaches_273 hl (k := 12) rfl (nI_1 _) (by decide) rfl (fun ls hl => ?_)
                      refine lv_goto (tgt := 180) hx hb dX9_reaches_276 (by decide) ?_
                      exact ih180_ (j180_ + 1) a180_0 (by omega) (by rw [← hv180_]; simp only [L_X9_reaches_180, if_neg c_54, if_pos c_57, if_neg c_59, if_pos (by decide : (((-1) : Int32) < 0)), if_pos trivial, if_neg not_false]) _ _ hP hD hS _ (lv_sub hl [3, 4, 5, 6, 7, 8, 9, 10, 11, 1, 12, 0] rfl)
                    refine lv_aload_n hx hb dX9_reaches_222 rfl (lv_at hl 0 rfl) ?_
                    refine va_get (D := D) (ci := 9) (v := .ref m10) (C := RX9) (T := TX9) (N := 20) hx hb hts hinX9 hown hK hP 0 rfl rfl 17 (by decide) hf37 (fun _ h9 => h9) rfl dX9_reaches_223 ?_
                    refine lv_bipush (v := 6) hx hb dX9_reaches_226 (by decide) ?_
                    refine lv_iload hx hb dX9_reaches_228 (lv_at hl 10 rfl) ?_
                    refine lv_imul hx hb dX9_reaches_230 ?_
                    refine lv_iload hx hb dX9_reaches_231 (lv_at hl 11 rfl) ?_
                    refine lv_iadd hx hb dX9_reaches_233 ?_
                    refine q_iald hx hb hK hP 10 0 rfl rfl (fw_in (left_in (by omega) (by omega)) (by omega)) (Int32.toNatClampNeg ((6 * ((nI j17_) ^^^ ((1 : Int32) <<< ((nI j85_) &&& 31)))) + (nI j180_))) rfl dX9_reaches_234 ?_
                    refine lv_goto (tgt := 239) hx hb dX9_reaches_235 (by decide) ?_
                    refine lv_istore (lv' := [(12, .int ((F_X9_reaches_85 p0 1 j17_ mTo mSt a17_1 j85_) (Int32.toNatClampNeg ((6 * ((nI j17_) ^^^ ((1 : Int32) <<< ((nI j85_) &&& 31)))) + (nI j180_))))), (0, .ref m0), (1, .int p0), (2, .int p1), (3, .int a17_0), (4, .int (nI j17_)), (5, .int 1), (6, .int (f_X9_shades mTo mSt p0 (nI j17_))), (7, .int (nI j85_)), (8, .int 0), (9, .int a180_0), (10, .int ((nI j17_) ^^^ ((1 : Int32) <<< ((nI j85_) &&& 31)))), (11, .int (nI j180_))]) hx hb dX9_reaches_239 hl (by decide) rfl (fun ls hl => ?_)
                    refine lv_iload hx hb dX9_reaches_241 (lv_at hl 0 rfl) ?_
                    refine lv_if_lt (tgt := 269) hx hb dX9_reaches_243 (by decide) (fun c_61 => ?_) (fun c_61 => ?_)
                    · refine lv_iload hx hb dX9_reaches_269 (lv_at hl 10 rfl) ?_
                      refine lv_istore (lv' := [(9, .int a180_0), (12, .int ((F_X9_reaches_85 p0 1 j17_ mTo mSt a17_1 j85_) (Int32.toNatClampNeg ((6 * ((nI j17_) ^^^ ((1 : Int32) <<< ((nI j85_) &&& 31)))) + (nI j180_))))), (0, .ref m0), (1, .int p0), (2, .int p1), (3, .int a17_0), (4, .int (nI j17_)), (5, .int 1), (6, .int (f_X9_shades mTo mSt p0 (nI j17_))), (7, .int (nI j85_)), (8, .int 0), (10, .int ((nI j17_) ^^^ ((1 : Int32) <<< ((nI j85_) &&& 31)))), (11, .int (nI j180_))]) hx hb dX9_reaches_271 hl (by decide) rfl (fun ls hl => ?_)
                      refine lv_iinc (v := (nI (j180_ + 1))) (lv' := [(11, .int (nI (j180_ + 1))), (9, .int a180_0), (12, .int ((F_X9_reaches_85 p0 1 j17_ mTo mSt a17_1 j85_) (Int32.toNatClampNeg ((6 * ((nI j17_) ^^^ ((1 : Int32) <<< ((nI j85_) &&& 31)))) + (nI j180_))))), (0, .ref m0), (1, .int p0), (2, .int p1), (3, .int a17_0), (4, .int (nI j17_)), (5, .int 1), (6, .int (f_X9_shades mTo mSt p0 (nI j17_))), (7, .int (nI j85_)), (8, .int 0), (10, .int ((nI j17_) ^^^ ((1 : Int32) <<< ((nI j85_) &&& 31))))]) hx hb dX9_reaches_273 hl (k := 12) rfl (nI_1 _) (by decide) rfl (fun ls hl => ?_)
                      refine lv_goto (tgt := 180) hx hb dX9_reaches_276 (by decide) ?_
                      exact ih180_ (j180_ + 1) a180_0 (by omega) (by rw [← hv180_]; simp only [L_X9_reaches_180, if_neg c_54, if_pos c_57, if_pos c_59, if_pos c_61]) _ _ hP hD hS _ (lv_sub hl [3, 4, 5, 6, 7, 8, 9, 10, 11, 1, 12, 0] rfl)
                    refine lv_iload hx hb dX9_reaches_246 (lv_at hl 10 rfl) ?_
                    refine lv_if_lt (tgt := 261) hx hb dX9_reaches_248 (by decide) (fun c_62 => ?_) (fun c_62 => ?_)
                    · refine lv_iload hx hb dX9_reaches_261 (lv_at hl 0 rfl) ?_
                      refine lv_iload hx hb dX9_reaches_263 (lv_at hl 9 rfl) ?_
                      refine lv_iadd hx hb dX9_reaches_265 ?_
                      refine lv_goto (tgt := 271) hx hb dX9_reaches_266 (by decide) ?_
                      refine lv_istore (lv' := [(9, .int (((F_X9_reaches_85 p0 1 j17_ mTo mSt a17_1 j85_) (Int32.toNatClampNeg ((6 * ((nI j17_) ^^^ ((1 : Int32) <<< ((nI j85_) &&& 31)))) + (nI j180_)))) + 0)), (12, .int ((F_X9_reaches_85 p0 1 j17_ mTo mSt a17_1 j85_) (Int32.toNatClampNeg ((6 * ((nI j17_) ^^^ ((1 : Int32) <<< ((nI j85_) &&& 31)))) + (nI j180_))))), (0, .ref m0), (1, .int p0), (2, .int p1), (3, .int a17_0), (4, .int (nI j17_)), (5, .int 1), (6, .int (f_X9_shades mTo mSt p0 (nI j17_))), (7, .int (nI j85_)), (8, .int 0), (10, .int ((nI j17_) ^^^ ((1 : Int32) <<< ((nI j85_) &&& 31)))), (11, .int (nI j180_))]) hx hb dX9_reaches_271 hl (by decide) rfl (fun ls hl => ?_)
                      refine lv_iinc (v := (nI (j180_ + 1))) (lv' := [(11, .int (nI (j180_ + 1))), (9, .int (((F_X9_reaches_85 p0 1 j17_ mTo mSt a17_1 j85_) (Int32.toNatClampNeg ((6 * ((nI j17_) ^^^ ((1 : Int32) <<< ((nI j85_) &&& 31)))) + (nI j180_)))) + 0)), (12, .int ((F_X9_reaches_85 p0 1 j17_ mTo mSt a17_1 j85_) (Int32.toNatClampNeg ((6 * ((nI j17_) ^^^ ((1 : Int32) <<< ((nI j85_) &&& 31)))) + (nI j180_))))), (0, .ref m0), (1, .int p0), (2, .int p1), (3, .int a17_0), (4, .int (nI j17_)), (5, .int 1), (6, .int (f_X9_shades mTo mSt p0 (nI j17_))), (7, .int (nI j85_)), (8, .int 0), (10, .int ((nI j17_) ^^^ ((1 : Int32) <<< ((nI j85_) &&& 31))))]) hx hb dX9_reaches_273 hl (k := 12) rfl (nI_1 _) (by decide) rfl (fun ls hl => ?_)
                      refine lv_goto (tgt := 180) hx hb dX9_reaches_276 (by decide) ?_
                      exact ih180_ (j180_ + 1) (((F_X9_reaches_85 p0 1 j17_ mTo mSt a17_1 j85_) (Int32.toNatClampNeg ((6 * ((nI j17_) ^^^ ((1 : Int32) <<< ((nI j85_) &&& 31)))) + (nI j180_)))) + 0) (by omega) (by rw [← hv180_]; simp only [L_X9_reaches_180, if_neg c_54, if_pos c_57, if_pos c_59, if_neg c_61, if_pos c_62]) _ _ hP hD hS _ (lv_sub hl [3, 4, 5, 6, 7, 8, 9, 10, 11, 1, 12, 0] rfl)
                    refine lv_iload hx hb dX9_reaches_251 (lv_at hl 0 rfl) ?_
                    refine lv_iload hx hb dX9_reaches_253 (lv_at hl 9 rfl) ?_
                    refine lv_iadd hx hb dX9_reaches_255 ?_
                    refine lv_iload hx hb dX9_reaches_256 (lv_at hl 10 rfl) ?_
                    refine lv_icmp_ge (tgt := 269) hx hb dX9_reaches_258 (by decide) (fun c_63 => ?_) (fun c_63 => ?_)
                    · refine lv_iload hx hb dX9_reaches_269 (lv_at hl 10 rfl) ?_
                      refine lv_istore (lv' := [(9, .int a180_0), (12, .int ((F_X9_reaches_85 p0 1 j17_ mTo mSt a17_1 j85_) (Int32.toNatClampNeg ((6 * ((nI j17_) ^^^ ((1 : Int32) <<< ((nI j85_) &&& 31)))) + (nI j180_))))), (0, .ref m0), (1, .int p0), (2, .int p1), (3, .int a17_0), (4, .int (nI j17_)), (5, .int 1), (6, .int (f_X9_shades mTo mSt p0 (nI j17_))), (7, .int (nI j85_)), (8, .int 0), (10, .int ((nI j17_) ^^^ ((1 : Int32) <<< ((nI j85_) &&& 31)))), (11, .int (nI j180_))]) hx hb dX9_reaches_271 hl (by decide) rfl (fun ls hl => ?_)
                      refine lv_iinc (v := (nI (j180_ + 1))) (lv' := [(11, .int (nI (j180_ + 1))), (9, .int a180_0), (12, .int ((F_X9_reaches_85 p0 1 j17_ mTo mSt a17_1 j85_) (Int32.toNatClampNeg ((6 * ((nI j17_) ^^^ ((1 : Int32) <<< ((nI j85_) &&& 31)))) + (nI j180_))))), (0, .ref m0), (1, .int p0), (2, .int p1), (3, .int a17_0), (4, .int (nI j17_)), (5, .int 1), (6, .int (f_X9_shades mTo mSt p0 (nI j17_))), (7, .int (nI j85_)), (8, .int 0), (10, .int ((nI j17_) ^^^ ((1 : Int32) <<< ((nI j85_) &&& 31))))]) hx hb dX9_reaches_273 hl (k := 12) rfl (nI_1 _) (by decide) rfl (fun ls hl => ?_)
                      refine lv_goto (tgt := 180) hx hb dX9_reaches_276 (by decide) ?_
                      exact ih180_ (j180_ + 1) a180_0 (by omega) (by rw [← hv180_]; simp only [L_X9_reaches_180, if_neg c_54, if_pos c_57, if_pos c_59, if_neg c_61, if_neg c_62, if_pos c_63]) _ _ hP hD hS _ (lv_sub hl [3, 4, 5, 6, 7, 8, 9, 10, 11, 1, 12, 0] rfl)
                    refine lv_iload hx hb dX9_reaches_261 (lv_at hl 0 rfl) ?_
                    refine lv_iload hx hb dX9_reaches_263 (lv_at hl 9 rfl) ?_
                    refine lv_iadd hx hb dX9_reaches_265 ?_
                    refine lv_goto (tgt := 271) hx hb dX9_reaches_266 (by decide) ?_
                    refine lv_istore (lv' := [(9, .int (((F_X9_reaches_85 p0 1 j17_ mTo mSt a17_1 j85_) (Int32.toNatClampNeg ((6 * ((nI j17_) ^^^ ((1 : Int32) <<< ((nI j85_) &&& 31)))) + (nI j180_)))) + 0)), (12, .int ((F_X9_reaches_85 p0 1 j17_ mTo mSt a17_1 j85_) (Int32.toNatClampNeg ((6 * ((nI j17_) ^^^ ((1 : Int32) <<< ((nI j85_) &&& 31)))) + (nI j180_))))), (0, .ref m0), (1, .int p0), (2, .int p1), (3, .int a17_0), (4, .int (nI j17_)), (5, .int 1), (6, .int (f_X9_shades mTo mSt p0 (nI j17_))), (7, .int (nI j85_)), (8, .int 0), (10, .int ((nI j17_) ^^^ ((1 : Int32) <<< ((nI j85_) &&& 31)))), (11, .int (nI j180_))]) hx hb dX9_reaches_271 hl (by decide) rfl (fun ls hl => ?_)
                    refine lv_iinc (v := (nI (j180_ + 1))) (lv' := [(11, .int (nI (j180_ + 1))), (9, .int (((F_X9_reaches_85 p0 1 j17_ mTo mSt a17_1 j85_) (Int32.toNatClampNeg ((6 * ((nI j17_) ^^^ ((1 : Int32) <<< ((nI j85_) &&& 31)))) + (nI j180_)))) + 0)), (12, .int ((F_X9_reaches_85 p0 1 j17_ mTo mSt a17_1 j85_) (Int32.toNatClampNeg ((6 * ((nI j17_) ^^^ ((1 : Int32) <<< ((nI j85_) &&& 31)))) + (nI j180_))))), (0, .ref m0), (1, .int p0), (2, .int p1), (3, .int a17_0), (4, .int (nI j17_)), (5, .int 1), (6, .int (f_X9_shades mTo mSt p0 (nI j17_))), (7, .int (nI j85_)), (8, .int 0), (10, .int ((nI j17_) ^^^ ((1 : Int32) <<< ((nI j85_) &&& 31))))]) hx hb dX9_reaches_273 hl (k := 12) rfl (nI_1 _) (by decide) rfl (fun ls hl => ?_)
                    refine lv_goto (tgt := 180) hx hb dX9_reaches_276 (by decide) ?_
                    exact ih180_ (j180_ + 1) (((F_X9_reaches_85 p0 1 j17_ mTo mSt a17_1 j85_) (Int32.toNatClampNeg ((6 * ((nI j17_) ^^^ ((1 : Int32) <<< ((nI j85_) &&& 31)))) + (nI j180_)))) + 0) (by omega) (by rw [← hv180_]; simp only [L_X9_reaches_180, if_neg c_54, if_pos c_57, if_pos c_59, if_neg c_61, if_neg c_62, if_neg c_63]) _ _ hP hD hS _ (lv_sub hl [3, 4, 5, 6, 7, 8, 9, 10, 11, 1, 12, 0] rfl)
                exact loop180_ (Int32.toNatClampNeg (mTo 0)) 0 (-1) (by omega) rfl _ _ hP hD hS _ (lv_sub hl [4, 5, 6, 7, 8, 9, 10, 11, 3, 1, 2, 0] rfl)
              refine lv_aload_n hx hb dX9_reaches_150 rfl (lv_at hl 3 rfl) ?_
              refine lv_iload hx hb dX9_reaches_151 (lv_at hl 10 rfl) ?_
              refine ro_i (va_runV (As := [.int (nI j85_)]) (rest := []) ⟨hx, hb, hml, hown, hts⟩ (c_X9_met l D cI cC cG m0 m1 m2 m3 m4 m5 m6 m7 m8 m9 m10 m11 m12 mTy mKn mKe mCa mSe mAt mFi mSc mTx mTo mDr mSt mPa mIm mWi mSn mHe (F_X9_reaches_85 p0 1 j17_ mTo mSt a17_1 j85_) mRo mBe (nI j85_) hM (vp_in_nI (by omega) (by decide))) (cwV 1 hts gX9_reaches_X9_met rfl rfl rfl (by decide +kernel) ⟨Nat.le_of_ble_eq_true rfl, Nat.le_of_ble_eq_true rfl⟩) (q_preV hK hP hN [0, 1, 2, 3, 4, 5, 6, 7, 8, 9, 10, 11, 12] rfl (ci := 9) (q0 := 0) rfl rfl) rfl rfl hl.1 rfl (lv_room (Nat.le_of_ble_eq_true rfl)) dX9_reaches_153 ⟨Nat.zero_le _, Nat.zero_le _⟩) hS hP (fun H locs hP hS => ?_)
              refine lv_aload_n hx hb dX9_reaches_156 rfl (lv_at hl 3 rfl) ?_
              refine va_get (D := D) (ci := 9) (v := .ref m4) (C := RX9) (T := TX9) (N := 20) hx hb hts hinX9 hown hK hP 0 rfl rfl 4 (by decide) hf19 (fun _ h9 => h9) rfl dX9_reaches_157 ?_
              refine lv_bipush (v := 6) hx hb dX9_reaches_160 (by decide) ?_
              refine lv_iload_n hx hb dX9_reaches_162 rfl (lv_at hl 4 rfl) ?_
              refine lv_iadd hx hb dX9_reaches_163 ?_
              refine q_iald hx hb hK hP 4 0 rfl rfl (in_add 6 (n := 8) hk (by decide) (by decide)) (6 + (Int32.toNatClampNeg p0)) (in_addc 6 (n := 8) (N := 1000) hk (by decide) (by decide)) dX9_reaches_164 ?_
              refine lv_iand hx hb dX9_reaches_165 ?_
              refine lv_if_eq (tgt := 174) hx hb dX9_reaches_166 (by decide) (fun c_64 => ?_) (fun c_64 => ?_)
              · refine lv_iconst (v := (-1)) hx hb dX9_reaches_174 (by decide) ?_
                refine lv_istore (lv' := [(9, .int (-1)), (10, .int ((nI j17_) ^^^ ((1 : Int32) <<< ((nI j85_) &&& 31)))), (8, .int 0), (0, .ref m0), (1, .int p0), (2, .int p1), (3, .int a17_0), (4, .int (nI j17_)), (5, .int 1), (6, .int (f_X9_shades mTo mSt p0 (nI j17_))), (7, .int (nI j85_))]) hx hb dX9_reaches_175 hl (by decide) rfl (fun ls hl => ?_)
                refine lv_iconst (v := 0) hx hb dX9_reaches_177 (by decide) ?_
                refine lv_istore (lv' := [(11, .int 0), (9, .int (-1)), (10, .int ((nI j17_) ^^^ ((1 : Int32) <<< ((nI j85_) &&& 31)))), (8, .int 0), (0, .ref m0), (1, .int p0), (2, .int p1), (3, .int a17_0), (4, .int (nI j17_)), (5, .int 1), (6, .int (f_X9_shades mTo mSt p0 (nI j17_))), (7, .int (nI j85_))]) hx hb dX9_reaches_178 hl (by decide) rfl (fun ls hl => ?_)
                have K180_ : ∀ (H : Heap) (locs : List Loc), va_P D vwCl [(m0, .inr (9, [.ref m1, .int (nI mTy), .ref m2, .ref m3, .ref m4, .ref m5, .int (nI mKn), .ref m6, .int (nI mKe), .ref m7, .int (nI mCa), .ref m8, .int (nI mSe), .int (nI mAt), .int mFi, .int mSc, .ref m9, .ref m10, .ref m11, .ref m12])), (m1, .inl (cI, 200, .inl mTx)), (m2, .inl (cI, 37, .inl mTo)), (m3, .inl (cI, 37, .inl mDr)), (m4, .inl (cI, 15, .inl mSt)), (m5, .inl (cI, 120, .inl mPa)), (m6, .inl (cI, 30, .inl mIm)), (m7, .inl (cI, 5, .inl mWi)), (m8, .inl (cI, 6, .inl mSn)), (m9, .inl (cI, 15, .inl mHe)), (m10, .inl (cI, 384, .inl (F_X9_reaches_85 p0 1 j17_ mTo mSt a17_1 j85_))), (m11, .inl (cI, 5, .inl mRo)), (m12, .inl (cI, 5, .inl mBe))] H → va_D (va_A (wM cI cC cG m0 m1 m2 m3 m4 m5 m6 m7 m8 m9 m10 m11 m12 mTy mKn mKe mCa mSe mAt mFi mSc mTx mTo mDr mSt mPa mIm mWi mSn mHe mFw mRo mBe) sz) [(m0, .inr (9, [.ref m1, .int (nI mTy), .ref m2, .ref m3, .ref m4, .ref m5, .int (nI mKn), .ref m6, .int (nI mKe), .ref m7, .int (nI mCa), .ref m8, .int (nI mSe), .int (nI mAt), .int mFi, .int mSc, .ref m9, .ref m10, .ref m11, .ref m12])), (m1, .inl (cI, 200, .inl mTx)), (m2, .inl (cI, 37, .inl mTo)), (m3, .inl (cI, 37, .inl mDr)), (m4, .inl (cI, 15, .inl mSt)), (m5, .inl (cI, 120, .inl mPa)), (m6, .inl (cI, 30, .inl mIm)), (m7, .inl (cI, 5, .inl mWi)), (m8, .inl (cI, 6, .inl mSn)), (m9, .inl (cI, 15, .inl mHe)), (m10, .inl (cI, 384, .inl (F_X9_reaches_85 p0 1 j17_ mTo mSt a17_1 j85_))), (m11, .inl (cI, 5, .inl mRo)), (m12, .inl (cI, 5, .inl mBe))] → va_S (va_A (wM cI cC cG m0 m1 m2 m3 m4 m5 m6 m7 m8 m9 m10 m11 m12 mTy mKn mKe mCa mSe mAt mFi mSc mTx mTo mDr mSt mPa mIm mWi mSn mHe mFw mRo mBe) sz) s.heap H locs → ∀ ls : Array Slot, lv_has ls 13 [(0, .ref m0), (1, .int p0), (2, .int p1), (3, .int a17_0), (4, .int (nI j17_)), (5, .int 1), (6, .int (f_X9_shades mTo mSt p0 (nI j17_))), (7, .int (nI j85_)), (9, .int (L_X9_reaches_180 0 ((nI j17_) ^^^ ((1 : Int32) <<< ((nI j85_) &&& 31))) j85_ mTo mSt (F_X9_reaches_85 p0 1 j17_ mTo mSt a17_1 j85_) (Int32.toNatClampNeg (mTo 0)) 0 (-1)))] → W p l e rm_X9_reaches s m ([.ref m0, .int p0, .int p1] : List Value).toArray below meth c H locs 0 0 (MQ below (q_QWi D (wM cI cC cG m0 m1 m2 m3 m4 m5 m6 m7 m8 m9 m10 m11 m12 mTy mKn mKe mCa mSe mAt mFi mSc mTx mTo mDr mSt mPa mIm mWi mSn mHe mFw mRo mBe) (wM cI cC cG m0 m1 m2 m3 m4 m5 m6 m7 m8 m9 m10 m11 m12 mTy mKn mKe mCa mSe mAt mFi mSc mTx mTo mDr mSt mPa mIm mWi mSn mHe (g_X9_reaches_mFw mTo mSt mFw p0 p1) mRo mBe) sz (f_X9_reaches mTo mSt mFw p0 p1)) ([.ref m0, .int p0, .int p1] : List Value).toArray s 0 0 (va_A (wM cI cC cG m0 m1 m2 m3 m4 m5 m6 m7 m8 m9 m10 m11 m12 mTy mKn mKe mCa mSe mAt mFi mSc mTx mTo mDr mSt mPa mIm mWi mSn mHe mFw mRo mBe) sz)) (F0 m 279 ls []) := by
                  intro H locs hP hD hS ls hl
                  refine lv_aload_n hx hb dX9_reaches_279 rfl (lv_at hl 0 rfl) ?_
                  refine va_get (D := D) (ci := 9) (v := .ref m10) (C := RX9) (T := TX9) (N := 20) hx hb hts hinX9 hown hK hP 0 rfl rfl 17 (by decide) hf37 (fun _ h9 => h9) rfl dX9_reaches_280 ?_
                  refine lv_bipush (v := 6) hx hb dX9_reaches_283 (by decide) ?_
                  refine lv_iload hx hb dX9_reaches_285 (lv_at hl 4 rfl) ?_
                  refine q_imulN (a := 6) (b := j17_) hx hb dX9_reaches_287 ?_
                  refine lv_iload hx hb dX9_reaches_288 (lv_at hl 7 rfl) ?_
                  refine q_iaddN (a := (6 * j17_)) (b := j85_) hx hb dX9_reaches_290 ?_
                  refine lv_iload hx hb dX9_reaches_291 (lv_at hl 8 rfl) ?_
                  refine q_iast hx hb hK hP hD hS 10 0 rfl rfl (vp_in_nI (by omega) (by decide)) ((6 * j17_) + j85_) (nI_clamp (by omega)) dX9_reaches_293 (fun H locs hP hD hS => ?_)
                  have hP : va_P D vwCl [(m0, .inr (9, [.ref m1, .int (nI mTy), .ref m2, .ref m3, .ref m4, .ref m5, .int (nI mKn), .ref m6, .int (nI mKe), .ref m7, .int (nI mCa), .ref m8, .int (nI mSe), .int (nI mAt), .int mFi, .int mSc, .ref m9, .ref m10, .ref m11, .ref m12])), (m1, .inl (cI, 200, .inl mTx)), (m2, .inl (cI, 37, .inl mTo)), (m3, .inl (cI, 37, .inl mDr)), (m4, .inl (cI, 15, .inl mSt)), (m5, .inl (cI, 120, .inl mPa)), (m6, .inl (cI, 30, .inl mIm)), (m7, .inl (cI, 5, .inl mWi)), (m8, .inl (cI, 6, .inl mSn)), (m9, .inl (cI, 15, .inl mHe)), (m10, .inl (cI, 384, .inl (upd (F_X9_reaches_85 p0 1 j17_ mTo mSt a17_1 j85_) ((6 * j17_) + j85_) (L_X9_reaches_180 0 ((nI j17_) ^^^ ((1 : Int32) <<< ((nI j85_) &&& 31))) j85_ mTo mSt (F_X9_reaches_85 p0 1 j17_ mTo mSt a17_1 j85_) (Int32.toNatClampNeg (mTo 0)) 0 (-1))))), (m11, .inl (cI, 5, .inl mRo)), (m12, .inl (cI, 5, .inl mBe))] H := hP
                  have hD : va_D (va_A (wM cI cC cG m0 m1 m2 m3 m4 m5 m6 m7 m8 m9 m10 m11 m12 mTy mKn mKe mCa mSe mAt mFi mSc mTx mTo mDr mSt mPa mIm mWi mSn mHe mFw mRo mBe) sz) [(m0, .inr (9, [.ref m1, .int (nI mTy), .ref m2, .ref m3, .ref m4, .ref m5, .int (nI mKn), .ref m6, .int (nI mKe), .ref m7, .int (nI mCa), .ref m8, .int (nI mSe), .int (nI mAt), .int mFi, .int mSc, .ref m9, .ref m10, .ref m11, .ref m12])), (m1, .inl (cI, 200, .inl mTx)), (m2, .inl (cI, 37, .inl mTo)), (m3, .inl (cI, 37, .inl mDr)), (m4, .inl (cI, 15, .inl mSt)), (m5, .inl (cI, 120, .inl mPa)), (m6, .inl (cI, 30, .inl mIm)), (m7, .inl (cI, 5, .inl mWi)), (m8, .inl (cI, 6, .inl mSn)), (m9, .inl (cI, 15, .inl mHe)), (m10, .inl (cI, 384, .inl (upd (F_X9_reaches_85 p0 1 j17_ mTo mSt a17_1 j85_) ((6 * j17_) + j85_) (L_X9_reaches_180 0 ((nI j17_) ^^^ ((1 : Int32) <<< ((nI j85_) &&& 31))) j85_ mTo mSt (F_X9_reaches_85 p0 1 j17_ mTo mSt a17_1 j85_) (Int32.toNatClampNeg (mTo 0)) 0 (-1))))), (m11, .inl (cI, 5, .inl mRo)), (m12, .inl (cI, 5, .inl mBe))] := hD
                  refine lv_iinc (v := (nI (j85_ + 1))) (lv' := [(7, .int (nI (j85_ + 1))), (0, .ref m0), (1, .int p0), (2, .int p1), (3, .int a17_0), (4, .int (nI j17_)), (5, .int 1), (6, .int (f_X9_shades mTo mSt p0 (nI j17_))), (9, .int (L_X9_reaches_180 0 ((nI j17_) ^^^ ((1 : Int32) <<< ((nI j85_) &&& 31))) j85_ mTo mSt (F_X9_reaches_85 p0 1 j17_ mTo mSt a17_1 j85_) (Int32.toNatClampNeg (mTo 0)) 0 (-1)))]) hx hb dX9_reaches_294 hl (k := 7) rfl (nI_1 _) (by decide) rfl (fun ls hl => ?_)
                  refine lv_goto (tgt := 85) hx hb dX9_reaches_297 (by decide) ?_
                  have e_65 : (F_X9_reaches_85 p0 1 j17_ mTo mSt a17_1 (j85_ + 1)) = (upd (F_X9_reaches_85 p0 1 j17_ mTo mSt a17_1 j85_) ((6 * j17_) + j85_) (L_X9_reaches_180 0 ((nI j17_) ^^^ ((1 : Int32) <<< ((nI j85_) &&& 31))) j85_ mTo mSt (F_X9_reaches_85 p0 1 j17_ mTo mSt a17_1 j85_) (Int32.toNatClampNeg (mTo 0)) 0 (-1))) := by simp only [F_X9_reaches_85, if_neg c_44, if_neg (by decide : ¬ ((1 : Int32) = 0)), if_pos c_46, if_pos c_48, if_pos c_64, if_pos trivial, if_neg not_false]
                  exact ih85_ (j85_ + 1) (by omega) _ _ (by rw [e_65]; exact hP) (by rw [e_65]; exact hD) hS _ (lv_sub hl [1, 2, 3, 4, 5, 6, 7, 0] rfl)
                have loop180_ : ∀ (n180_ j180_ : Nat) (a180_0 : Int32), j180_ + n180_ = (Int32.toNatClampNeg (mTo 0)) → (L_X9_reaches_180 0 ((nI j17_) ^^^ ((1 : Int32) <<< ((nI j85_) &&& 31))) j85_ mTo mSt (F_X9_reaches_85 p0 1 j17_ mTo mSt a17_1 j85_) n180_ j180_ a180_0) = (L_X9_reaches_180 0 ((nI j17_) ^^^ ((1 : Int32) <<< ((nI j85_) &&& 31))) j85_ mTo mSt (F_X9_reaches_85 p0 1 j17_ mTo mSt a17_1 j85_) (Int32.toNatClampNeg (mTo 0)) 0 (-1)) → ∀ (H : Heap) (locs : List Loc), va_P D vwCl [(m0, .inr (9, [.ref m1, .int (nI mTy), .ref m2, .ref m3, .ref m4, .ref m5, .int (nI mKn), .ref m6, .int (nI mKe), .ref m7, .int (nI mCa), .ref m8, .int (nI mSe), .int (nI mAt), .int mFi, .int mSc, .ref m9, .ref m10, .ref m11, .ref m12])), (m1, .inl (cI, 200, .inl mTx)), (m2, .inl (cI, 37, .inl mTo)), (m3, .inl (cI, 37, .inl mDr)), (m4, .inl (cI, 15, .inl mSt)), (m5, .inl (cI, 120, .inl mPa)), (m6, .inl (cI, 30, .inl mIm)), (m7, .inl (cI, 5, .inl mWi)), (m8, .inl (cI, 6, .inl mSn)), (m9, .inl (cI, 15, .inl mHe)), (m10, .inl (cI, 384, .inl (F_X9_reaches_85 p0 1 j17_ mTo mSt a17_1 j85_))), (m11, .inl (cI, 5, .inl mRo)), (m12, .inl (cI, 5, .inl mBe))] H → va_D (va_A (wM cI cC cG m0 m1 m2 m3 m4 m5 m6 m7 m8 m9 m10 m11 m12 mTy mKn mKe mCa mSe mAt mFi mSc mTx mTo mDr mSt mPa mIm mWi mSn mHe mFw mRo mBe) sz) [(m0, .inr (9, [.ref m1, .int (nI mTy), .ref m2, .ref m3, .ref m4, .ref m5, .int (nI mKn), .ref m6, .int (nI mKe), .ref m7, .int (nI mCa), .ref m8, .int (nI mSe), .int (nI mAt), .int mFi, .int mSc, .ref m9, .ref m10, .ref m11, .ref m12])), (m1, .inl (cI, 200, .inl mTx)), (m2, .inl (cI, 37, .inl mTo)), (m3, .inl (cI, 37, .inl mDr)), (m4, .inl (cI, 15, .inl mSt)), (m5, .inl (cI, 120, .inl mPa)), (m6, .inl (cI, 30, .inl mIm)), (m7, .inl (cI, 5, .inl mWi)), (m8, .inl (cI, 6, .inl mSn)), (m9, .inl (cI, 15, .inl mHe)), (m10, .inl (cI, 384, .inl (F_X9_reaches_85 p0 1 j17_ mTo mSt a17_1 j85_))), (m11, .inl (cI, 5, .inl mRo)), (m12, .inl (cI, 5, .inl mBe))] → va_S (va_A (wM cI cC cG m0 m1 m2 m3 m4 m5 m6 m7 m8 m9 m10 m11 m12 mTy mKn mKe mCa mSe mAt mFi mSc mTx mTo mDr mSt mPa mIm mWi mSn mHe mFw mRo mBe) sz) s.heap H locs → ∀ ls : Array Slot, lv_has ls 13 [(0, .ref m0), (1, .int p0), (2, .int p1), (3, .int a17_0), (4, .int (nI j17_)), (5, .int 1), (6, .int (f_X9_shades mTo mSt p0 (nI j17_))), (7, .int (nI j85_)), (8, .int 0), (9, .int a180_0), (10, .int ((nI j17_) ^^^ ((1 : Int32) <<< ((nI j85_) &&& 31)))), (11, .int (nI j180_))] → W p l e rm_X9_reaches s m ([.ref m0, .int p0, .int p1] : List Value).toArray below meth c H locs 0 0 (MQ below (q_QWi D (wM cI cC cG m0 m1 m2 m3 m4 m5 m6 m7 m8 m9 m10 m11 m12 mTy mKn mKe mCa mSe mAt mFi mSc mTx mTo mDr mSt mPa mIm mWi mSn mHe mFw mRo mBe) (wM cI cC cG m0 m1 m2 m3 m4 m5 m6 m7 m8 m9 m10 m11 m12 mTy mKn mKe mCa mSe mAt mFi mSc mTx mTo mDr mSt mPa mIm mWi mSn mHe (g_X9_reaches_mFw mTo mSt mFw p0 p1) mRo mBe) sz (f_X9_reaches mTo mSt mFw p0 p1)) ([.ref m0, .int p0, .int p1] : List Value).toArray s 0 0 (va_A (wM cI cC cG m0 m1 m2 m3 m4 m5 m6 m7 m8 m9 m10 m11 m12 mTy mKn mKe mCa mSe mAt mFi mSc mTx mTo mDr mSt mPa mIm mWi mSn mHe mFw mRo mBe) sz)) (F0 m 180 ls []) := by
                  intro n180_
                  induction n180_ with
                  | zero =>
                    intro j180_ a180_0 hj180_ hv180_ H locs hP hD hS ls hl
                    obtain rfl : j180_ = (Int32.toNatClampNeg (mTo 0)) := by omega
                    refine lv_iload hx hb dX9_reaches_180 (lv_at hl 11 rfl) ?_
                    refine lv_aload_n hx hb dX9_reaches_182 rfl (lv_at hl 0 rfl) ?_
                    refine va_get (D := D) (ci := 9) (v := .ref m2) (C := RX9) (T := TX9) (N := 20) hx hb hts hinX9 hown hK hP 0 rfl rfl 2 (by decide) hf13 (fun _ h9 => h9) rfl dX9_reaches_183 ?_
                    refine lv_iconst (v := 0) hx hb dX9_reaches_186 (by decide) ?_
                    refine q_iald hx hb hK hP 2 0 rfl rfl (vp_in_nI (n := 0) (N := 37) (by decide) (by decide)) 0 (by decide) dX9_reaches_187 ?_
                    refine lv_icmp_ge (tgt := 279) hx hb dX9_reaches_188 (by decide) (fun c_66 => ?_) (fun c_66 => ?_)
                    rotate_left
                    · exact absurd k_ge c_66
                    have e_67 : a180_0 = (L_X9_reaches_180 0 ((nI j17_) ^^^ ((1 : Int32) <<< ((nI j85_) &&& 31))) j85_ mTo mSt (F_X9_reaches_85 p0 1 j17_ mTo mSt a17_1 j85_) (Int32.toNatClampNeg (mTo 0)) 0 (-1)) := by rw [← hv180_]; simp only [L_X9_reaches_180]
                    have e_68 : a180_0 = (L_X9_reaches_180 0 ((nI j17_) ^^^ ((1 : Int32) <<< ((nI j85_) &&& 31))) j85_ mTo mSt (F_X9_reaches_85 p0 1 j17_ mTo mSt a17_1 j85_) (Int32.toNatClampNeg (mTo 0)) 0 (-1)) := e_67
                    exact K180_ _ _ hP hD hS _ (by rw [← e_68]; exact (lv_sub hl [0, 1, 2, 3, 4, 5, 6, 7, 9] rfl))
                  | succ n180_ ih180_ =>
                    intro j180_ a180_0 hj180_ hv180_ H locs hP hD hS ls hl
                    refine lv_iload hx hb dX9_reaches_180 (lv_at hl 11 rfl) ?_
                    refine lv_aload_n hx hb dX9_reaches_182 rfl (lv_at hl 0 rfl) ?_
                    refine va_get (D := D) (ci := 9) (v := .ref m2) (C := RX9) (T := TX9) (N := 20) hx hb hts hinX9 hown hK hP 0 rfl rfl 2 (by decide) hf13 (fun _ h9 => h9) rfl dX9_reaches_183 ?_
                    refine lv_iconst (v := 0) hx hb dX9_reaches_186 (by decide) ?_
                    refine q_iald hx hb hK hP 2 0 rfl rfl (vp_in_nI (n := 0) (N := 37) (by decide) (by decide)) 0 (by decide) dX9_reaches_187 ?_
                    refine lv_icmp_ge (tgt := 279) hx hb dX9_reaches_188 (by decide) (fun c_69 => ?_) (fun c_69 => ?_)
                    · exact absurd c_69 (k_le (by omega))
                    refine lv_iload hx hb dX9_reaches_191 (lv_at hl 10 rfl) ?_
                    refine lv_if_eq (tgt := 279) hx hb dX9_reaches_193 (by decide) (fun c_70 => ?_) (fun c_70 => ?_)
                    · have e_71 : a180_0 = (L_X9_reaches_180 0 ((nI j17_) ^^^ ((1 : Int32) <<< ((nI j85_) &&& 31))) j85_ mTo mSt (F_X9_reaches_85 p0 1 j17_ mTo mSt a17_1 j85_) (Int32.toNatClampNeg (mTo 0)) 0 (-1)) := by rw [← hv180_]; simp only [L_X9_reaches_180, if_pos c_70]
                      have e_72 : a180_0 = (L_X9_reaches_180 0 ((nI j17_) ^^^ ((1 : Int32) <<< ((nI j85_) &&& 31))) j85_ mTo mSt (F_X9_reaches_85 p0 1 j17_ mTo mSt a17_1 j85_) (Int32.toNatClampNeg (mTo 0)) 0 (-1)) := e_71
                      exact K180_ _ _ hP hD hS _ (by rw [← e_72]; exact (lv_sub hl [0, 1, 2, 3, 4, 5, 6, 7, 9] rfl))
                    refine lv_iload hx hb dX9_reaches_196 (lv_at hl 10 rfl) ?_
                    refine lv_iload hx hb dX9_reaches_198 (lv_at hl 11 rfl) ?_
                    refine lv_ishr hx hb dX9_reaches_200 ?_
                    refine lv_iconst (v := 1) hx hb dX9_reaches_201 (by decide) ?_
                    refine lv_iand hx hb dX9_reaches_202 ?_
                    refine lv_iconst (v := 1) hx hb dX9_reaches_203 (by decide) ?_
                    refine lv_icmp_ne (tgt := 238) hx hb dX9_reaches_204 (by decide) (fun c_73 => ?_) (fun c_73 => ?_)
                    · refine lv_iconst (v := (-1)) hx hb dX9_reaches_238 (by decide) ?_
                      refine lv_istore (lv' := [(12, .int (-1)), (0, .ref m0), (1, .int p0), (2, .int p1), (3, .int a17_0), (4, .int (nI j17_)), (5, .int 1), (6, .int (f_X9_shades mTo mSt p0 (nI j17_))), (7, .int (nI j85_)), (8, .int 0), (9, .int a180_0), (10, .int ((nI j17_) ^^^ ((1 : Int32) <<< ((nI j85_) &&& 31)))), (11, .int (nI j180_))]) hx hb dX9_reaches_239 hl (by decide) rfl (fun ls hl => ?_)
                      refine lv_iload hx hb dX9_reaches_241 (lv_at hl 0 rfl) ?_
                      refine lv_if_lt (tgt := 269) hx hb dX9_reaches_243 (by decide) (fun c_74 => ?_) (fun c_74 => ?_)
                      rotate_left
                      · exact absurd (by decide : (((-1) : Int32) < 0)) c_74
                      refine lv_iload hx hb dX9_reaches_269 (lv_at hl 10 rfl) ?_
                      refine lv_istore (lv' := [(9, .int a180_0), (12, .int (-1)), (0, .ref m0), (1, .int p0), (2, .int p1), (3, .int a17_0), (4, .int (nI j17_)), (5, .int 1), (6, .int (f_X9_shades mTo mSt p0 (nI j17_))), (7, .int (nI j85_)), (8, .int 0), (10, .int ((nI j17_) ^^^ ((1 : Int32) <<< ((nI j85_) &&& 31)))), (11, .int (nI j180_))]) hx hb dX9_reaches_271 hl (by decide) rfl (fun ls hl => ?_)
                      refine lv_iinc (v := (nI (j180_ + 1))) (lv' := [(11, .int (nI (j180_ + 1))), (9, .int a180_0), (12, .int (-1)), (0, .ref m0), (1, .int p0), (2, .int p1), (3, .int a17_0), (4, .int (nI j17_)), (5, .int 1), (6, .int (f_X9_shades mTo mSt p0 (nI j17_))), (7, .int (nI j85_)), (8, .int 0), (10, .int ((nI j17_) ^^^ ((1 : Int32) <<< ((nI j85_) &&& 31))))]) hx hb dX9_reaches_273 hl (k := 12) rfl (nI_1 _) (by decide) rfl (fun ls hl => ?_)
                      refine lv_goto (tgt := 180) hx hb dX9_reaches_276 (by decide) ?_
                      exact ih180_ (j180_ + 1) a180_0 (by omega) (by rw [← hv180_]; simp only [L_X9_reaches_180, if_neg c_70, if_neg c_73, if_pos (by decide : (((-1) : Int32) < 0)), if_pos trivial, if_neg not_false]) _ _ hP hD hS _ (lv_sub hl [3, 4, 5, 6, 7, 8, 9, 10, 11, 1, 12, 0] rfl)
                    refine lv_aload_n hx hb dX9_reaches_207 rfl (lv_at hl 0 rfl) ?_
                    refine lv_iload hx hb dX9_reaches_208 (lv_at hl 7 rfl) ?_
                    refine ro_i (va_runV (As := [.int (nI j85_)]) (rest := []) ⟨hx, hb, hml, hown, hts⟩ (c_X9_met l D cI cC cG m0 m1 m2 m3 m4 m5 m6 m7 m8 m9 m10 m11 m12 mTy mKn mKe mCa mSe mAt mFi mSc mTx mTo mDr mSt mPa mIm mWi mSn mHe (F_X9_reaches_85 p0 1 j17_ mTo mSt a17_1 j85_) mRo mBe (nI j85_) hM (vp_in_nI (by omega) (by decide))) (cwV 1 hts gX9_reaches_X9_met rfl rfl rfl (by decide +kernel) ⟨Nat.le_of_ble_eq_true rfl, Nat.le_of_ble_eq_true rfl⟩) (q_preV hK hP hN [0, 1, 2, 3, 4, 5, 6, 7, 8, 9, 10, 11, 12] rfl (ci := 9) (q0 := 0) rfl rfl) rfl rfl hl.1 rfl (lv_room (Nat.le_of_ble_eq_true rfl)) dX9_reaches_210 ⟨Nat.zero_le _, Nat.zero_le _⟩) hS hP (fun H locs hP hS => ?_)
                    refine lv_iload hx hb dX9_reaches_213 (lv_at hl 11 rfl) ?_
                    refine lv_ishr hx hb dX9_reaches_215 ?_
                    refine lv_iconst (v := 1) hx hb dX9_reaches_216 (by decide) ?_
                    refine lv_iand hx hb dX9_reaches_217 ?_
                    refine lv_iconst (v := 1) hx hb dX9_reaches_218 (by decide) ?_
                    refine lv_icmp_ne (tgt := 238) hx hb dX9_reaches_219 (by decide) (fun c_75 => ?_) (fun c_75 => ?_)
                    · refine lv_iconst (v := (-1)) hx hb dX9_reaches_238 (by decide) ?_
                      refine lv_istore (lv' := [(12, .int (-1)), (0, .ref m0), (1, .int p0), (2, .int p1), (3, .int a17_0), (4, .int (nI j17_)), (5, .int 1), (6, .int (f_X9_shades mTo mSt p0 (nI j17_))), (7, .int (nI j85_)), (8, .int 0), (9, .int a180_0), (10, .int ((nI j17_) ^^^ ((1 : Int32) <<< ((nI j85_) &&& 31)))), (11, .int (nI j180_))]) hx hb dX9_reaches_239 hl (by decide) rfl (fun ls hl => ?_)
                      refine lv_iload hx hb dX9_reaches_241 (lv_at hl 0 rfl) ?_
                      refine lv_if_lt (tgt := 269) hx hb dX9_reaches_243 (by decide) (fun c_76 => ?_) (fun c_76 => ?_)
                      rotate_left
                      · exact absurd (by decide : (((-1) : Int32) < 0)) c_76
                      refine lv_iload hx hb dX9_reaches_269 (lv_at hl 10 rfl) ?_
                      refine lv_istore (lv' := [(9, .int a180_0), (12, .int (-1)), (0, .ref m0), (1, .int p0), (2, .int p1), (3, .int a17_0), (4, .int (nI j17_)), (5, .int 1), (6, .int (f_X9_shades mTo mSt p0 (nI j17_))), (7, .int (nI j85_)), (8, .int 0), (10, .int ((nI j17_) ^^^ ((1 : Int32) <<< ((nI j85_) &&& 31)))), (11, .int (nI j180_))]) hx hb dX9_reaches_271 hl (by decide) rfl (fun ls hl => ?_)
                      refine lv_iinc (v := (nI (j180_ + 1))) (lv' := [(11, .int (nI (j180_ + 1))), (9, .int a180_0), (12, .int (-1)), (0, .ref m0), (1, .int p0), (2, .int p1), (3, .int a17_0), (4, .int (nI j17_)), (5, .int 1), (6, .int (f_X9_shades mTo mSt p0 (nI j17_))), (7, .int (nI j85_)), (8, .int 0), (10, .int ((nI j17_) ^^^ ((1 : Int32) <<< ((nI j85_) &&& 31))))]) hx hb dX9_reaches_273 hl (k := 12) rfl (nI_1 _) (by decide) rfl (fun ls hl => ?_)
                      refine lv_goto (tgt := 180) hx hb dX9_reaches_276 (by decide) ?_
                      exact ih180_ (j180_ + 1) a180_0 (by omega) (by rw [← hv180_]; simp only [L_X9_reaches_180, if_neg c_70, if_pos c_73, if_neg c_75, if_pos (by decide : (((-1) : Int32) < 0)), if_pos trivial, if_neg not_false]) _ _ hP hD hS _ (lv_sub hl [3, 4, 5, 6, 7, 8, 9, 10, 11, 1, 12, 0] rfl)
                    refine lv_aload_n hx hb dX9_reaches_222 rfl (lv_at hl 0 rfl) ?_
                    refine va_get (D := D) (ci := 9) (v := .ref m10) (C := RX9) (T := TX9) (N := 20) hx hb hts hinX9 hown hK hP 0 rfl rfl 17 (by decide) hf37 (fun _ h9 => h9) rfl dX9_reaches_223 ?_
                    refine lv_bipush (v := 6) hx hb dX9_reaches_226 (by decide) ?_
                    refine lv_iload hx hb dX9_reaches_228 (lv_at hl 10 rfl) ?_
                    refine lv_imul hx hb dX9_reaches_230 ?_
                    refine lv_iload hx hb dX9_reaches_231 (lv_at hl 11 rfl) ?_
                    refine lv_iadd hx hb dX9_reaches_233 ?_
                    refine q_iald hx hb hK hP 10 0 rfl rfl (fw_in (left_in (by omega) (by omega)) (by omega)) (Int32.toNatClampNeg ((6 * ((nI j17_) ^^^ ((1 : Int32) <<< ((nI j85_) &&& 31)))) + (nI j180_))) rfl dX9_reaches_234 ?_
                    refine lv_goto (tgt := 239) hx hb dX9_reaches_235 (by decide) ?_
                    refine lv_istore (lv' := [(12, .int ((F_X9_reaches_85 p0 1 j17_ mTo mSt a17_1 j85_) (Int32.toNatClampNeg ((6 * ((nI j17_) ^^^ ((1 : Int32) <<< ((nI j85_) &&& 31)))) + (nI j180_))))), (0, .ref m0), (1, .int p0), (2, .int p1), (3, .int a17_0), (4, .int (nI j17_)), (5, .int 1), (6, .int (f_X9_shades mTo mSt p0 (nI j17_))), (7, .int (nI j85_)), (8, .int 0), (9, .int a180_0), (10, .int ((nI j17_) ^^^ ((1 : Int32) <<< ((nI j85_) &&& 31)))), (11, .int (nI j180_))]) hx hb dX9_reaches_239 hl (by decide) rfl (fun ls hl => ?_)
                    refine lv_iload hx hb dX9_reaches_241 (lv_at hl 0 rfl) ?_
                    refine lv_if_lt (tgt := 269) hx hb dX9_reaches_243 (by decide) (fun c_77 => ?_) (fun c_77 => ?_)
                    · refine lv_iload hx hb dX9_reaches_269 (lv_at hl 10 rfl) ?_
                      refine lv_istore (lv' := [(9, .int a180_0), (12, .int ((F_X9_reaches_85 p0 1 j17_ mTo mSt a17_1 j85_) (Int32.toNatClampNeg ((6 * ((nI j17_) ^^^ ((1 : Int32) <<< ((nI j85_) &&& 31)))) + (nI j180_))))), (0, .ref m0), (1, .int p0), (2, .int p1), (3, .int a17_0), (4, .int (nI j17_)), (5, .int 1), (6, .int (f_X9_shades mTo mSt p0 (nI j17_))), (7, .int (nI j85_)), (8, .int 0), (10, .int ((nI j17_) ^^^ ((1 : Int32) <<< ((nI j85_) &&& 31)))), (11, .int (nI j180_))]) hx hb dX9_reaches_271 hl (by decide) rfl (fun ls hl => ?_)
                      refine lv_iinc (v := (nI (j180_ + 1))) (lv' := [(11, .int (nI (j180_ + 1))), (9, .int a180_0), (12, .int ((F_X9_reaches_85 p0 1 j17_ mTo mSt a17_1 j85_) (Int32.toNatClampNeg ((6 * ((nI j17_) ^^^ ((1 : Int32) <<< ((nI j85_) &&& 31)))) + (nI j180_))))), (0, .ref m0), (1, .int p0), (2, .int p1), (3, .int a17_0), (4, .int (nI j17_)), (5, .int 1), (6, .int (f_X9_shades mTo mSt p0 (nI j17_))), (7, .int (nI j85_)), (8, .int 0), (10, .int ((nI j17_) ^^^ ((1 : Int32) <<< ((nI j85_) &&& 31))))]) hx hb dX9_reaches_273 hl (k := 12) rfl (nI_1 _) (by decide) rfl (fun ls hl => ?_)
                      refine lv_goto (tgt := 180) hx hb dX9_reaches_276 (by decide) ?_
                      exact ih180_ (j180_ + 1) a180_0 (by omega) (by rw [← hv180_]; simp only [L_X9_reaches_180, if_neg c_70, if_pos c_73, if_pos c_75, if_pos c_77]) _ _ hP hD hS _ (lv_sub hl [3, 4, 5, 6, 7, 8, 9, 10, 11, 1, 12, 0] rfl)
                    refine lv_iload hx hb dX9_reaches_246 (lv_at hl 10 rfl) ?_
                    refine lv_if_lt (tgt := 261) hx hb dX9_reaches_248 (by decide) (fun c_78 => ?_) (fun c_78 => ?_)
                    · refine lv_iload hx hb dX9_reaches_261 (lv_at hl 0 rfl) ?_
                      refine lv_iload hx hb dX9_reaches_263 (lv_at hl 9 rfl) ?_
                      refine lv_iadd hx hb dX9_reaches_265 ?_
                      refine lv_goto (tgt := 271) hx hb dX9_reaches_266 (by decide) ?_
                      refine lv_istore (lv' := [(9, .int (((F_X9_reaches_85 p0 1 j17_ mTo mSt a17_1 j85_) (Int32.toNatClampNeg ((6 * ((nI j17_) ^^^ ((1 : Int32) <<< ((nI j85_) &&& 31)))) + (nI j180_)))) + 0)), (12, .int ((F_X9_reaches_85 p0 1 j17_ mTo mSt a17_1 j85_) (Int32.toNatClampNeg ((6 * ((nI j17_) ^^^ ((1 : Int32) <<< ((nI j85_) &&& 31)))) + (nI j180_))))), (0, .ref m0), (1, .int p0), (2, .int p1), (3, .int a17_0), (4, .int (nI j17_)), (5, .int 1), (6, .int (f_X9_shades mTo mSt p0 (nI j17_))), (7, .int (nI j85_)), (8, .int 0), (10, .int ((nI j17_) ^^^ ((1 : Int32) <<< ((nI j85_) &&& 31)))), (11, .int (nI j180_))]) hx hb dX9_reaches_271 hl (by decide) rfl (fun ls hl => ?_)
                      refine lv_iinc (v := (nI (j180_ + 1))) (lv' := [(11, .int (nI (j180_ + 1))), (9, .int (((F_X9_reaches_85 p0 1 j17_ mTo mSt a17_1 j85_) (Int32.toNatClampNeg ((6 * ((nI j17_) ^^^ ((1 : Int32) <<< ((nI j85_) &&& 31)))) + (nI j180_)))) + 0)), (12, .int ((F_X9_reaches_85 p0 1 j17_ mTo mSt a17_1 j85_) (Int32.toNatClampNeg ((6 * ((nI j17_) ^^^ ((1 : Int32) <<< ((nI j85_) &&& 31)))) + (nI j180_))))), (0, .ref m0), (1, .int p0), (2, .int p1), (3, .int a17_0), (4, .int (nI j17_)), (5, .int 1), (6, .int (f_X9_shades mTo mSt p0 (nI j17_))), (7, .int (nI j85_)), (8, .int 0), (10, .int ((nI j17_) ^^^ ((1 : Int32) <<< ((nI j85_) &&& 31))))]) hx hb dX9_reaches_273 hl (k := 12) rfl (nI_1 _) (by decide) rfl (fun ls hl => ?_)
                      refine lv_goto (tgt := 180) hx hb dX9_reaches_276 (by decide) ?_
                      exact ih180_ (j180_ + 1) (((F_X9_reaches_85 p0 1 j17_ mTo mSt a17_1 j85_) (Int32.toNatClampNeg ((6 * ((nI j17_) ^^^ ((1 : Int32) <<< ((nI j85_) &&& 31)))) + (nI j180_)))) + 0) (by omega) (by rw [← hv180_]; simp only [L_X9_reaches_180, if_neg c_70, if_pos c_73, if_pos c_75, if_neg c_77, if_pos c_78]) _ _ hP hD hS _ (lv_sub hl [3, 4, 5, 6, 7, 8, 9, 10, 11, 1, 12, 0] rfl)
                    refine lv_iload hx hb dX9_reaches_251 (lv_at hl 0 rfl) ?_
                    refine lv_iload hx hb dX9_reaches_253 (lv_at hl 9 rfl) ?_
                    refine lv_iadd hx hb dX9_reaches_255 ?_
                    refine lv_iload hx hb dX9_reaches_256 (lv_at hl 10 rfl) ?_
                    refine lv_icmp_ge (tgt := 269) hx hb dX9_reaches_258 (by decide) (fun c_79 => ?_) (fun c_79 => ?_)
                    · refine lv_iload hx hb dX9_reaches_269 (lv_at hl 10 rfl) ?_
                      refine lv_istore (lv' := [(9, .int a180_0), (12, .int ((F_X9_reaches_85 p0 1 j17_ mTo mSt a17_1 j85_) (Int32.toNatClampNeg ((6 * ((nI j17_) ^^^ ((1 : Int32) <<< ((nI j85_) &&& 31)))) + (nI j180_))))), (0, .ref m0), (1, .int p0), (2, .int p1), (3, .int a17_0), (4, .int (nI j17_)), (5, .int 1), (6, .int (f_X9_shades mTo mSt p0 (nI j17_))), (7, .int (nI j85_)), (8, .int 0), (10, .int ((nI j17_) ^^^ ((1 : Int32) <<< ((nI j85_) &&& 31)))), (11, .int (nI j180_))]) hx hb dX9_reaches_271 hl (by decide) rfl (fun ls hl => ?_)
                      refine lv_iinc (v := (nI (j180_ + 1))) (lv' := [(11, .int (nI (j180_ + 1))), (9, .int a180_0), (12, .int ((F_X9_reaches_85 p0 1 j17_ mTo mSt a17_1 j85_) (Int32.toNatClampNeg ((6 * ((nI j17_) ^^^ ((1 : Int32) <<< ((nI j85_) &&& 31)))) + (nI j180_))))), (0, .ref m0), (1, .int p0), (2, .int p1), (3, .int a17_0), (4, .int (nI j17_)), (5, .int 1), (6, .int (f_X9_shades mTo mSt p0 (nI j17_))), (7, .int (nI j85_)), (8, .int 0), (10, .int ((nI j17_) ^^^ ((1 : Int32) <<< ((nI j85_) &&& 31))))]) hx hb dX9_reaches_273 hl (k := 12) rfl (nI_1 _) (by decide) rfl (fun ls hl => ?_)
                      refine lv_goto (tgt := 180) hx hb dX9_reaches_276 (by decide) ?_
                      exact ih180_ (j180_ + 1) a180_0 (by omega) (by rw [← hv180_]; simp only [L_X9_reaches_180, if_neg c_70, if_pos c_73, if_pos c_75, if_neg c_77, if_neg c_78, if_pos c_79]) _ _ hP hD hS _ (lv_sub hl [3, 4, 5, 6, 7, 8, 9, 10, 11, 1, 12, 0] rfl)
                    refine lv_iload hx hb dX9_reaches_261 (lv_at hl 0 rfl) ?_
                    refine lv_iload hx hb dX9_reaches_263 (lv_at hl 9 rfl) ?_
                    refine lv_iadd hx hb dX9_reaches_265 ?_
                    refine lv_goto (tgt := 271) hx hb dX9_reaches_266 (by decide) ?_
                    refine lv_istore (lv' := [(9, .int (((F_X9_reaches_85 p0 1 j17_ mTo mSt a17_1 j85_) (Int32.toNatClampNeg ((6 * ((nI j17_) ^^^ ((1 : Int32) <<< ((nI j85_) &&& 31)))) + (nI j180_)))) + 0)), (12, .int ((F_X9_reaches_85 p0 1 j17_ mTo mSt a17_1 j85_) (Int32.toNatClampNeg ((6 * ((nI j17_) ^^^ ((1 : Int32) <<< ((nI j85_) &&& 31)))) + (nI j180_))))), (0, .ref m0), (1, .int p0), (2, .int p1), (3, .int a17_0), (4, .int (nI j17_)), (5, .int 1), (6, .int (f_X9_shades mTo mSt p0 (nI j17_))), (7, .int (nI j85_)), (8, .int 0), (10, .int ((nI j17_) ^^^ ((1 : Int32) <<< ((nI j85_) &&& 31)))), (11, .int (nI j180_))]) hx hb dX9_reaches_271 hl (by decide) rfl (fun ls hl => ?_)
                    refine lv_iinc (v := (nI (j180_ + 1))) (lv' := [(11, .int (nI (j180_ + 1))), (9, .int (((F_X9_reaches_85 p0 1 j17_ mTo mSt a17_1 j85_) (Int32.toNatClampNeg ((6 * ((nI j17_) ^^^ ((1 : Int32) <<< ((nI j85_) &&& 31)))) + (nI j180_)))) + 0)), (12, .int ((F_X9_reaches_85 p0 1 j17_ mTo mSt a17_1 j85_) (Int32.toNatClampNeg ((6 * ((nI j17_) ^^^ ((1 : Int32) <<< ((nI j85_) &&& 31)))) + (nI j180_))))), (0, .ref m0), (1, .int p0), (2, .int p1), (3, .int a17_0), (4, .int (nI j17_)), (5, .int 1), (6, .int (f_X9_shades mTo mSt p0 (nI j17_))), (7, .int (nI j85_)), (8, .int 0), (10, .int ((nI j17_) ^^^ ((1 : Int32) <<< ((nI j85_) &&& 31))))]) hx hb dX9_reaches_273 hl (k := 12) rfl (nI_1 _) (by decide) rfl (fun ls hl => ?_)
                    refine lv_goto (tgt := 180) hx hb dX9_reaches_276 (by decide) ?_
                    exact ih180_ (j180_ + 1) (((F_X9_reaches_85 p0 1 j17_ mTo mSt a17_1 j85_) (Int32.toNatClampNeg ((6 * ((nI j17_) ^^^ ((1 : Int32) <<< ((nI j85_) &&& 31)))) + (nI j180_)))) + 0) (by omega) (by rw [← hv180_]; simp only [L_X9_reaches_180, if_neg c_70, if_pos c_73, if_pos c_75, if_neg c_77, if_neg c_78, if_neg c_79]) _ _ hP hD hS _ (lv_sub hl [3, 4, 5, 6, 7, 8, 9, 10, 11, 1, 12, 0] rfl)
                exact loop180_ (Int32.toNatClampNeg (mTo 0)) 0 (-1) (by omega) rfl _ _ hP hD hS _ (lv_sub hl [4, 5, 6, 7, 8, 9, 10, 11, 3, 1, 2, 0] rfl)
              refine lv_iload hx hb dX9_reaches_169 (lv_at hl 2 rfl) ?_
              refine lv_goto (tgt := 175) hx hb dX9_reaches_171 (by decide) ?_
              refine lv_istore (lv' := [(9, .int 0), (10, .int ((nI j17_) ^^^ ((1 : Int32) <<< ((nI j85_) &&& 31)))), (8, .int 0), (0, .ref m0), (1, .int p0), (2, .int p1), (3, .int a17_0), (4, .int (nI j17_)), (5, .int 1), (6, .int (f_X9_shades mTo mSt p0 (nI j17_))), (7, .int (nI j85_))]) hx hb dX9_reaches_175 hl (by decide) rfl (fun ls hl => ?_)
              refine lv_iconst (v := 0) hx hb dX9_reaches_177 (by decide) ?_
              refine lv_istore (lv' := [(11, .int 0), (9, .int 0), (10, .int ((nI j17_) ^^^ ((1 : Int32) <<< ((nI j85_) &&& 31)))), (8, .int 0), (0, .ref m0), (1, .int p0), (2, .int p1), (3, .int a17_0), (4, .int (nI j17_)), (5, .int 1), (6, .int (f_X9_shades mTo mSt p0 (nI j17_))), (7, .int (nI j85_))]) hx hb dX9_reaches_178 hl (by decide) rfl (fun ls hl => ?_)
              have K180_ : ∀ (H : Heap) (locs : List Loc), va_P D vwCl [(m0, .inr (9, [.ref m1, .int (nI mTy), .ref m2, .ref m3, .ref m4, .ref m5, .int (nI mKn), .ref m6, .int (nI mKe), .ref m7, .int (nI mCa), .ref m8, .int (nI mSe), .int (nI mAt), .int mFi, .int mSc, .ref m9, .ref m10, .ref m11, .ref m12])), (m1, .inl (cI, 200, .inl mTx)), (m2, .inl (cI, 37, .inl mTo)), (m3, .inl (cI, 37, .inl mDr)), (m4, .inl (cI, 15, .inl mSt)), (m5, .inl (cI, 120, .inl mPa)), (m6, .inl (cI, 30, .inl mIm)), (m7, .inl (cI, 5, .inl mWi)), (m8, .inl (cI, 6, .inl mSn)), (m9, .inl (cI, 15, .inl mHe)), (m10, .inl (cI, 384, .inl (F_X9_reaches_85 p0 1 j17_ mTo mSt a17_1 j85_))), (m11, .inl (cI, 5, .inl mRo)), (m12, .inl (cI, 5, .inl mBe))] H → va_D (va_A (wM cI cC cG m0 m1 m2 m3 m4 m5 m6 m7 m8 m9 m10 m11 m12 mTy mKn mKe mCa mSe mAt mFi mSc mTx mTo mDr mSt mPa mIm mWi mSn mHe mFw mRo mBe) sz) [(m0, .inr (9, [.ref m1, .int (nI mTy), .ref m2, .ref m3, .ref m4, .ref m5, .int (nI mKn), .ref m6, .int (nI mKe), .ref m7, .int (nI mCa), .ref m8, .int (nI mSe), .int (nI mAt), .int mFi, .int mSc, .ref m9, .ref m10, .ref m11, .ref m12])), (m1, .inl (cI, 200, .inl mTx)), (m2, .inl (cI, 37, .inl mTo)), (m3, .inl (cI, 37, .inl mDr)), (m4, .inl (cI, 15, .inl mSt)), (m5, .inl (cI, 120, .inl mPa)), (m6, .inl (cI, 30, .inl mIm)), (m7, .inl (cI, 5, .inl mWi)), (m8, .inl (cI, 6, .inl mSn)), (m9, .inl (cI, 15, .inl mHe)), (m10, .inl (cI, 384, .inl (F_X9_reaches_85 p0 1 j17_ mTo mSt a17_1 j85_))), (m11, .inl (cI, 5, .inl mRo)), (m12, .inl (cI, 5, .inl mBe))] → va_S (va_A (wM cI cC cG m0 m1 m2 m3 m4 m5 m6 m7 m8 m9 m10 m11 m12 mTy mKn mKe mCa mSe mAt mFi mSc mTx mTo mDr mSt mPa mIm mWi mSn mHe mFw mRo mBe) sz) s.heap H locs → ∀ ls : Array Slot, lv_has ls 13 [(0, .ref m0), (1, .int p0), (2, .int p1), (3, .int a17_0), (4, .int (nI j17_)), (5, .int 1), (6, .int (f_X9_shades mTo mSt p0 (nI j17_))), (7, .int (nI j85_)), (9, .int (L_X9_reaches_180 0 ((nI j17_) ^^^ ((1 : Int32) <<< ((nI j85_) &&& 31))) j85_ mTo mSt (F_X9_reaches_85 p0 1 j17_ mTo mSt a17_1 j85_) (Int32.toNatClampNeg (mTo 0)) 0 0))] → W p l e rm_X9_reaches s m ([.ref m0, .int p0, .int p1] : List Value).toArray below meth c H locs 0 0 (MQ below (q_QWi D (wM cI cC cG m0 m1 m2 m3 m4 m5 m6 m7 m8 m9 m10 m11 m12 mTy mKn mKe mCa mSe mAt mFi mSc mTx mTo mDr mSt mPa mIm mWi mSn mHe mFw mRo mBe) (wM cI cC cG m0 m1 m2 m3 m4 m5 m6 m7 m8 m9 m10 m11 m12 mTy mKn mKe mCa mSe mAt mFi mSc mTx mTo mDr mSt mPa mIm mWi mSn mHe (g_X9_reaches_mFw mTo mSt mFw p0 p1) mRo mBe) sz (f_X9_reaches mTo mSt mFw p0 p1)) ([.ref m0, .int p0, .int p1] : List Value).toArray s 0 0 (va_A (wM cI cC cG m0 m1 m2 m3 m4 m5 m6 m7 m8 m9 m10 m11 m12 mTy mKn mKe mCa mSe mAt mFi mSc mTx mTo mDr mSt mPa mIm mWi mSn mHe mFw mRo mBe) sz)) (F0 m 279 ls []) := by
                intro H locs hP hD hS ls hl
                refine lv_aload_n hx hb dX9_reaches_279 rfl (lv_at hl 0 rfl) ?_
                refine va_get (D := D) (ci := 9) (v := .ref m10) (C := RX9) (T := TX9) (N := 20) hx hb hts hinX9 hown hK hP 0 rfl rfl 17 (by decide) hf37 (fun _ h9 => h9) rfl dX9_reaches_280 ?_
                refine lv_bipush (v := 6) hx hb dX9_reaches_283 (by decide) ?_
                refine lv_iload hx hb dX9_reaches_285 (lv_at hl 4 rfl) ?_
                refine q_imulN (a := 6) (b := j17_) hx hb dX9_reaches_287 ?_
                refine lv_iload hx hb dX9_reaches_288 (lv_at hl 7 rfl) ?_
                refine q_iaddN (a := (6 * j17_)) (b := j85_) hx hb dX9_reaches_290 ?_
                refine lv_iload hx hb dX9_reaches_291 (lv_at hl 8 rfl) ?_
                refine q_iast hx hb hK hP hD hS 10 0 rfl rfl (vp_in_nI (by omega) (by decide)) ((6 * j17_) + j85_) (nI_clamp (by omega)) dX9_reaches_293 (fun H locs hP hD hS => ?_)
                have hP : va_P D vwCl [(m0, .inr (9, [.ref m1, .int (nI mTy), .ref m2, .ref m3, .ref m4, .ref m5, .int (nI mKn), .ref m6, .int (nI mKe), .ref m7, .int (nI mCa), .ref m8, .int (nI mSe), .int (nI mAt), .int mFi, .int mSc, .ref m9, .ref m10, .ref m11, .ref m12])), (m1, .inl (cI, 200, .inl mTx)), (m2, .inl (cI, 37, .inl mTo)), (m3, .inl (cI, 37, .inl mDr)), (m4, .inl (cI, 15, .inl mSt)), (m5, .inl (cI, 120, .inl mPa)), (m6, .inl (cI, 30, .inl mIm)), (m7, .inl (cI, 5, .inl mWi)), (m8, .inl (cI, 6, .inl mSn)), (m9, .inl (cI, 15, .inl mHe)), (m10, .inl (cI, 384, .inl (upd (F_X9_reaches_85 p0 1 j17_ mTo mSt a17_1 j85_) ((6 * j17_) + j85_) (L_X9_reaches_180 0 ((nI j17_) ^^^ ((1 : Int32) <<< ((nI j85_) &&& 31))) j85_ mTo mSt (F_X9_reaches_85 p0 1 j17_ mTo mSt a17_1 j85_) (Int32.toNatClampNeg (mTo 0)) 0 0)))), (m11, .inl (cI, 5, .inl mRo)), (m12, .inl (cI, 5, .inl mBe))] H := hP
                have hD : va_D (va_A (wM cI cC cG m0 m1 m2 m3 m4 m5 m6 m7 m8 m9 m10 m11 m12 mTy mKn mKe mCa mSe mAt mFi mSc mTx mTo mDr mSt mPa mIm mWi mSn mHe mFw mRo mBe) sz) [(m0, .inr (9, [.ref m1, .int (nI mTy), .ref m2, .ref m3, .ref m4, .ref m5, .int (nI mKn), .ref m6, .int (nI mKe), .ref m7, .int (nI mCa), .ref m8, .int (nI mSe), .int (nI mAt), .int mFi, .int mSc, .ref m9, .ref m10, .ref m11, .ref m12])), (m1, .inl (cI, 200, .inl mTx)), (m2, .inl (cI, 37, .inl mTo)), (m3, .inl (cI, 37, .inl mDr)), (m4, .inl (cI, 15, .inl mSt)), (m5, .inl (cI, 120, .inl mPa)), (m6, .inl (cI, 30, .inl mIm)), (m7, .inl (cI, 5, .inl mWi)), (m8, .inl (cI, 6, .inl mSn)), (m9, .inl (cI, 15, .inl mHe)), (m10, .inl (cI, 384, .inl (upd (F_X9_reaches_85 p0 1 j17_ mTo mSt a17_1 j85_) ((6 * j17_) + j85_) (L_X9_reaches_180 0 ((nI j17_) ^^^ ((1 : Int32) <<< ((nI j85_) &&& 31))) j85_ mTo mSt (F_X9_reaches_85 p0 1 j17_ mTo mSt a17_1 j85_) (Int32.toNatClampNeg (mTo 0)) 0 0)))), (m11, .inl (cI, 5, .inl mRo)), (m12, .inl (cI, 5, .inl mBe))] := hD
                refine lv_iinc (v := (nI (j85_ + 1))) (lv' := [(7, .int (nI (j85_ + 1))), (0, .ref m0), (1, .int p0), (2, .int p1), (3, .int a17_0), (4, .int (nI j17_)), (5, .int 1), (6, .int (f_X9_shades mTo mSt p0 (nI j17_))), (9, .int (L_X9_reaches_180 0 ((nI j17_) ^^^ ((1 : Int32) <<< ((nI j85_) &&& 31))) j85_ mTo mSt (F_X9_reaches_85 p0 1 j17_ mTo mSt a17_1 j85_) (Int32.toNatClampNeg (mTo 0)) 0 0))]) hx hb dX9_reaches_294 hl (k := 7) rfl (nI_1 _) (by decide) rfl (fun ls hl => ?_)
                refine lv_goto (tgt := 85) hx hb dX9_reaches_297 (by decide) ?_
                have e_80 : (F_X9_reaches_85 p0 1 j17_ mTo mSt a17_1 (j85_ + 1)) = (upd (F_X9_reaches_85 p0 1 j17_ mTo mSt a17_1 j85_) ((6 * j17_) + j85_) (L_X9_reaches_180 0 ((nI j17_) ^^^ ((1 : Int32) <<< ((nI j85_) &&& 31))) j85_ mTo mSt (F_X9_reaches_85 p0 1 j17_ mTo mSt a17_1 j85_) (Int32.toNatClampNeg (mTo 0)) 0 0)) := by simp only [F_X9_reaches_85, if_neg c_44, if_neg (by decide : ¬ ((1 : Int32) = 0)), if_pos c_46, if_pos c_48, if_neg c_64, if_pos trivial, if_neg not_false]
                exact ih85_ (j85_ + 1) (by omega) _ _ (by rw [e_80]; exact hP) (by rw [e_80]; exact hD) hS _ (lv_sub hl [1, 2, 3, 4, 5, 6, 7, 0] rfl)
              have loop180_ : ∀ (n180_ j180_ : Nat) (a180_0 : Int32), j180_ + n180_ = (Int32.toNatClampNeg (mTo 0)) → (L_X9_reaches_180 0 ((nI j17_) ^^^ ((1 : Int32) <<< ((nI j85_) &&& 31))) j85_ mTo mSt (F_X9_reaches_85 p0 1 j17_ mTo mSt a17_1 j85_) n180_ j180_ a180_0) = (L_X9_reaches_180 0 ((nI j17_) ^^^ ((1 : Int32) <<< ((nI j85_) &&& 31))) j85_ mTo mSt (F_X9_reaches_85 p0 1 j17_ mTo mSt a17_1 j85_) (Int32.toNatClampNeg (mTo 0)) 0 0) → ∀ (H : Heap) (locs : List Loc), va_P D vwCl [(m0, .inr (9, [.ref m1, .int (nI mTy), .ref m2, .ref m3, .ref m4, .ref m5, .int (nI mKn), .ref m6, .int (nI mKe), .ref m7, .int (nI mCa), .ref m8, .int (nI mSe), .int (nI mAt), .int mFi, .int mSc, .ref m9, .ref m10, .ref m11, .ref m12])), (m1, .inl (cI, 200, .inl mTx)), (m2, .inl (cI, 37, .inl mTo)), (m3, .inl (cI, 37, .inl mDr)), (m4, .inl (cI, 15, .inl mSt)), (m5, .inl (cI, 120, .inl mPa)), (m6, .inl (cI, 30, .inl mIm)), (m7, .inl (cI, 5, .inl mWi)), (m8, .inl (cI, 6, .inl mSn)), (m9, .inl (cI, 15, .inl mHe)), (m10, .inl (cI, 384, .inl (F_X9_reaches_85 p0 1 j17_ mTo mSt a17_1 j85_))), (m11, .inl (cI, 5, .inl mRo)), (m12, .inl (cI, 5, .inl mBe))] H → va_D (va_A (wM cI cC cG m0 m1 m2 m3 m4 m5 m6 m7 m8 m9 m10 m11 m12 mTy mKn mKe mCa mSe mAt mFi mSc mTx mTo mDr mSt mPa mIm mWi mSn mHe mFw mRo mBe) sz) [(m0, .inr (9, [.ref m1, .int (nI mTy), .ref m2, .ref m3, .ref m4, .ref m5, .int (nI mKn), .ref m6, .int (nI mKe), .ref m7, .int (nI mCa), .ref m8, .int (nI mSe), .int (nI mAt), .int mFi, .int mSc, .ref m9, .ref m10, .ref m11, .ref m12])), (m1, .inl (cI, 200, .inl mTx)), (m2, .inl (cI, 37, .inl mTo)), (m3, .inl (cI, 37, .inl mDr)), (m4, .inl (cI, 15, .inl mSt)), (m5, .inl (cI, 120, .inl mPa)), (m6, .inl (cI, 30, .inl mIm)), (m7, .inl (cI, 5, .inl mWi)), (m8, .inl (cI, 6, .inl mSn)), (m9, .inl (cI, 15, .inl mHe)), (m10, .inl (cI, 384, .inl (F_X9_reaches_85 p0 1 j17_ mTo mSt a17_1 j85_))), (m11, .inl (cI, 5, .inl mRo)), (m12, .inl (cI, 5, .inl mBe))] → va_S (va_A (wM cI cC cG m0 m1 m2 m3 m4 m5 m6 m7 m8 m9 m10 m11 m12 mTy mKn mKe mCa mSe mAt mFi mSc mTx mTo mDr mSt mPa mIm mWi mSn mHe mFw mRo mBe) sz) s.heap H locs → ∀ ls : Array Slot, lv_has ls 13 [(0, .ref m0), (1, .int p0), (2, .int p1), (3, .int a17_0), (4, .int (nI j17_)), (5, .int 1), (6, .int (f_X9_shades mTo mSt p0 (nI j17_))), (7, .int (nI j85_)), (8, .int 0), (9, .int a180_0), (10, .int ((nI j17_) ^^^ ((1 : Int32) <<< ((nI j85_) &&& 31)))), (11, .int (nI j180_))] → W p l e rm_X9_reaches s m ([.ref m0, .int p0, .int p1] : List Value).toArray below meth c H locs 0 0 (MQ below (q_QWi D (wM cI cC cG m0 m1 m2 m3 m4 m5 m6 m7 m8 m9 m10 m11 m12 mTy mKn mKe mCa mSe mAt mFi mSc mTx mTo mDr mSt mPa mIm mWi mSn mHe mFw mRo mBe) (wM cI cC cG m0 m1 m2 m3 m4 m5 m6 m7 m8 m9 m10 m11 m12 mTy mKn mKe mCa mSe mAt mFi mSc mTx mTo mDr mSt mPa mIm mWi mSn mHe (g_X9_reaches_mFw mTo mSt mFw p0 p1) mRo mBe) sz (f_X9_reaches mTo mSt mFw p0 p1)) ([.ref m0, .int p0, .int p1] : List Value).toArray s 0 0 (va_A (wM cI cC cG m0 m1 m2 m3 m4 m5 m6 m7 m8 m9 m10 m11 m12 mTy mKn mKe mCa mSe mAt mFi mSc mTx mTo mDr mSt mPa mIm mWi mSn mHe mFw mRo mBe) sz)) (F0 m 180 ls []) := by
                intro n180_
                induction n180_ with
                | zero =>
                  intro j180_ a180_0 hj180_ hv180_ H locs hP hD hS ls hl
                  obtain rfl : j180_ = (Int32.toNatClampNeg (mTo 0)) := by omega
                  refine lv_iload hx hb dX9_reaches_180 (lv_at hl 11 rfl) ?_
                  refine lv_aload_n hx hb dX9_reaches_182 rfl (lv_at hl 0 rfl) ?_
                  refine va_get (D := D) (ci := 9) (v := .ref m2) (C := RX9) (T := TX9) (N := 20) hx hb hts hinX9 hown hK hP 0 rfl rfl 2 (by decide) hf13 (fun _ h9 => h9) rfl dX9_reaches_183 ?_
                  refine lv_iconst (v := 0) hx hb dX9_reaches_186 (by decide) ?_
                  refine q_iald hx hb hK hP 2 0 rfl rfl (vp_in_nI (n := 0) (N := 37) (by decide) (by decide)) 0 (by decide) dX9_reaches_187 ?_
                  refine lv_icmp_ge (tgt := 279) hx hb dX9_reaches_188 (by decide) (fun c_81 => ?_) (fun c_81 => ?_)
                  rotate_left
                  · exact absurd k_ge c_81
                  have e_82 : a180_0 = (L_X9_reaches_180 0 ((nI j17_) ^^^ ((1 : Int32) <<< ((nI j85_) &&& 31))) j85_ mTo mSt (F_X9_reaches_85 p0 1 j17_ mTo mSt a17_1 j85_) (Int32.toNatClampNeg (mTo 0)) 0 0) := by rw [← hv180_]; simp only [L_X9_reaches_180]
                  have e_83 : a180_0 = (L_X9_reaches_180 0 ((nI j17_) ^^^ ((1 : Int32) <<< ((nI j85_) &&& 31))) j85_ mTo mSt (F_X9_reaches_85 p0 1 j17_ mTo mSt a17_1 j85_) (Int32.toNatClampNeg (mTo 0)) 0 0) := e_82
                  exact K180_ _ _ hP hD hS _ (by rw [← e_83]; exact (lv_sub hl [0, 1, 2, 3, 4, 5, 6, 7, 9] rfl))
                | succ n180_ ih180_ =>
                  intro j180_ a180_0 hj180_ hv180_ H locs hP hD hS ls hl
                  refine lv_iload hx hb dX9_reaches_180 (lv_at hl 11 rfl) ?_
                  refine lv_aload_n hx hb dX9_reaches_182 rfl (lv_at hl 0 rfl) ?_
                  refine va_get (D := D) (ci := 9) (v := .ref m2) (C := RX9) (T := TX9) (N := 20) hx hb hts hinX9 hown hK hP 0 rfl rfl 2 (by decide) hf13 (fun _ h9 => h9) rfl dX9_reaches_183 ?_
                  refine lv_iconst (v := 0) hx hb dX9_reaches_186 (by decide) ?_
                  refine q_iald hx hb hK hP 2 0 rfl rfl (vp_in_nI (n := 0) (N := 37) (by decide) (by decide)) 0 (by decide) dX9_reaches_187 ?_
                  refine lv_icmp_ge (tgt := 279) hx hb dX9_reaches_188 (by decide) (fun c_84 => ?_) (fun c_84 => ?_)
                  · exact absurd c_84 (k_le (by omega))
                  refine lv_iload hx hb dX9_reaches_191 (lv_at hl 10 rfl) ?_
                  refine lv_if_eq (tgt := 279) hx hb dX9_reaches_193 (by decide) (fun c_85 => ?_) (fun c_85 => ?_)
                  · have e_86 : a180_0 = (L_X9_reaches_180 0 ((nI j17_) ^^^ ((1 : Int32) <<< ((nI j85_) &&& 31))) j85_ mTo mSt (F_X9_reaches_85 p0 1 j17_ mTo mSt a17_1 j85_) (Int32.toNatClampNeg (mTo 0)) 0 0) := by rw [← hv180_]; simp only [L_X9_reaches_180, if_pos c_85]
                    have e_87 : a180_0 = (L_X9_reaches_180 0 ((nI j17_) ^^^ ((1 : Int32) <<< ((nI j85_) &&& 31))) j85_ mTo mSt (F_X9_reaches_85 p0 1 j17_ mTo mSt a17_1 j85_) (Int32.toNatClampNeg (mTo 0)) 0 0) := e_86
                    exact K180_ _ _ hP hD hS _ (by rw [← e_87]; exact (lv_sub hl [0, 1, 2, 3, 4, 5, 6, 7, 9] rfl))
                  refine lv_iload hx hb dX9_reaches_196 (lv_at hl 10 rfl) ?_
                  refine lv_iload hx hb dX9_reaches_198 (lv_at hl 11 rfl) ?_
                  refine lv_ishr hx hb dX9_reaches_200 ?_
                  refine lv_iconst (v := 1) hx hb dX9_reaches_201 (by decide) ?_
                  refine lv_iand hx hb dX9_reaches_202 ?_
                  refine lv_iconst (v := 1) hx hb dX9_reaches_203 (by decide) ?_
                  refine lv_icmp_ne (tgt := 238) hx hb dX9_reaches_204 (by decide) (fun c_88 => ?_) (fun c_88 => ?_)
                  · refine lv_iconst (v := (-1)) hx hb dX9_reaches_238 (by decide) ?_
                    refine lv_istore (lv' := [(12, .int (-1)), (0, .ref m0), (1, .int p0), (2, .int p1), (3, .int a17_0), (4, .int (nI j17_)), (5, .int 1), (6, .int (f_X9_shades mTo mSt p0 (nI j17_))), (7, .int (nI j85_)), (8, .int 0), (9, .int a180_0), (10, .int ((nI j17_) ^^^ ((1 : Int32) <<< ((nI j85_) &&& 31)))), (11, .int (nI j180_))]) hx hb dX9_reaches_239 hl (by decide) rfl (fun ls hl => ?_)
                    refine lv_iload hx hb dX9_reaches_241 (lv_at hl 0 rfl) ?_
                    refine lv_if_lt (tgt := 269) hx hb dX9_reaches_243 (by decide) (fun c_89 => ?_) (fun c_89 => ?_)
                    rotate_left
                    · exact absurd (by decide : (((-1) : Int32) < 0)) c_89
                    refine lv_iload hx hb dX9_reaches_269 (lv_at hl 10 rfl) ?_
                    refine lv_istore (lv' := [(9, .int a180_0), (12, .int (-1)), (0, .ref m0), (1, .int p0), (2, .int p1), (3, .int a17_0), (4, .int (nI j17_)), (5, .int 1), (6, .int (f_X9_shades mTo mSt p0 (nI j17_))), (7, .int (nI j85_)), (8, .int 0), (10, .int ((nI j17_) ^^^ ((1 : Int32) <<< ((nI j85_) &&& 31)))), (11, .int (nI j180_))]) hx hb dX9_reaches_271 hl (by decide) rfl (fun ls hl => ?_)
                    refine lv_iinc (v := (nI (j180_ + 1))) (lv' := [(11, .int (nI (j180_ + 1))), (9, .int a180_0), (12, .int (-1)), (0, .ref m0), (1, .int p0), (2, .int p1), (3, .int a17_0), (4, .int (nI j17_)), (5, .int 1), (6, .int (f_X9_shades mTo mSt p0 (nI j17_))), (7, .int (nI j85_)), (8, .int 0), (10, .int ((nI j17_) ^^^ ((1 : Int32) <<< ((nI j85_) &&& 31))))]) hx hb dX9_reaches_273 hl (k := 12) rfl (nI_1 _) (by decide) rfl (fun ls hl => ?_)
                    refine lv_goto (tgt := 180) hx hb dX9_reaches_276 (by decide) ?_
                    exact ih180_ (j180_ + 1) a180_0 (by omega) (by rw [← hv180_]; simp only [L_X9_reaches_180, if_neg c_85, if_neg c_88, if_pos (by decide : (((-1) : Int32) < 0)), if_pos trivial, if_neg not_false]) _ _ hP hD hS _ (lv_sub hl [3, 4, 5, 6, 7, 8, 9, 10, 11, 1, 12, 0] rfl)
                  refine lv_aload_n hx hb dX9_reaches_207 rfl (lv_at hl 0 rfl) ?_
                  refine lv_iload hx hb dX9_reaches_208 (lv_at hl 7 rfl) ?_
                  refine ro_i (va_runV (As := [.int (nI j85_)]) (rest := []) ⟨hx, hb, hml, hown, hts⟩ (c_X9_met l D cI cC cG m0 m1 m2 m3 m4 m5 m6 m7 m8 m9 m10 m11 m12 mTy mKn mKe mCa mSe mAt mFi mSc mTx mTo mDr mSt mPa mIm mWi mSn mHe (F_X9_reaches_85 p0 1 j17_ mTo mSt a17_1 j85_) mRo mBe (nI j85_) hM (vp_in_nI (by omega) (by decide))) (cwV 1 hts gX9_reaches_X9_met rfl rfl rfl (by decide +kernel) ⟨Nat.le_of_ble_eq_true rfl, Nat.le_of_ble_eq_true rfl⟩) (q_preV hK hP hN [0, 1, 2, 3, 4, 5, 6, 7, 8, 9, 10, 11, 12] rfl (ci := 9) (q0 := 0) rfl rfl) rfl rfl hl.1 rfl (lv_room (Nat.le_of_ble_eq_true rfl)) dX9_reaches_210 ⟨Nat.zero_le _, Nat.zero_le _⟩) hS hP (fun H locs hP hS => ?_)
                  refine lv_iload hx hb dX9_reaches_213 (lv_at hl 11 rfl) ?_
                  refine lv_ishr hx hb dX9_reaches_215 ?_
                  refine lv_iconst (v := 1) hx hb dX9_reaches_216 (by decide) ?_
                  refine lv_iand hx hb dX9_reaches_217 ?_
                  refine lv_iconst (v := 1) hx hb dX9_reaches_218 (by decide) ?_
                  refine lv_icmp_ne (tgt := 238) hx hb dX9_reaches_219 (by decide) (fun c_90 => ?_) (fun c_90 => ?_)
                  · refine lv_iconst (v := (-1)) hx hb dX9_reaches_238 (by decide) ?_
                    refine lv_istore (lv' := [(12, .int (-1)), (0, .ref m0), (1, .int p0), (2, .int p1), (3, .int a17_0), (4, .int (nI j17_)), (5, .int 1), (6, .int (f_X9_shades mTo mSt p0 (nI j17_))), (7, .int (nI j85_)), (8, .int 0), (9, .int a180_0), (10, .int ((nI j17_) ^^^ ((1 : Int32) <<< ((nI j85_) &&& 31)))), (11, .int (nI j180_))]) hx hb dX9_reaches_239 hl (by decide) rfl (fun ls hl => ?_)
                    refine lv_iload hx hb dX9_reaches_241 (lv_at hl 0 rfl) ?_
                    refine lv_if_lt (tgt := 269) hx hb dX9_reaches_243 (by decide) (fun c_91 => ?_) (fun c_91 => ?_)
                    rotate_left
                    · exact absurd (by decide : (((-1) : Int32) < 0)) c_91
                    refine lv_iload hx hb dX9_reaches_269 (lv_at hl 10 rfl) ?_
                    refine lv_istore (lv' := [(9, .int a180_0), (12, .int (-1)), (0, .ref m0), (1, .int p0), (2, .int p1), (3, .int a17_0), (4, .int (nI j17_)), (5, .int 1), (6, .int (f_X9_shades mTo mSt p0 (nI j17_))), (7, .int (nI j85_)), (8, .int 0), (10, .int ((nI j17_) ^^^ ((1 : Int32) <<< ((nI j85_) &&& 31)))), (11, .int (nI j180_))]) hx hb dX9_reaches_271 hl (by decide) rfl (fun ls hl => ?_)
                    refine lv_iinc (v := (nI (j180_ + 1))) (lv' := [(11, .int (nI (j180_ + 1))), (9, .int a180_0), (12, .int (-1)), (0, .ref m0), (1, .int p0), (2, .int p1), (3, .int a17_0), (4, .int (nI j17_)), (5, .int 1), (6, .int (f_X9_shades mTo mSt p0 (nI j17_))), (7, .int (nI j85_)), (8, .int 0), (10, .int ((nI j17_) ^^^ ((1 : Int32) <<< ((nI j85_) &&& 31))))]) hx hb dX9_reaches_273 hl (k := 12) rfl (nI_1 _) (by decide) rfl (fun ls hl => ?_)
                    refine lv_goto (tgt := 180) hx hb dX9_reaches_276 (by decide) ?_
                    exact ih180_ (j180_ + 1) a180_0 (by omega) (by rw [← hv180_]; simp only [L_X9_reaches_180, if_neg c_85, if_pos c_88, if_neg c_90, if_pos (by decide : (((-1) : Int32) < 0)), if_pos trivial, if_neg not_false]) _ _ hP hD hS _ (lv_sub hl [3, 4, 5, 6, 7, 8, 9, 10, 11, 1, 12, 0] rfl)
                  refine lv_aload_n hx hb dX9_reaches_222 rfl (lv_at hl 0 rfl) ?_
                  refine va_get (D := D) (ci := 9) (v := .ref m10) (C := RX9) (T := TX9) (N := 20) hx hb hts hinX9 hown hK hP 0 rfl rfl 17 (by decide) hf37 (fun _ h9 => h9) rfl dX9_reaches_223 ?_
                  refine lv_bipush (v := 6) hx hb dX9_reaches_226 (by decide) ?_
                  refine lv_iload hx hb dX9_reaches_228 (lv_at hl 10 rfl) ?_
                  refine lv_imul hx hb dX9_reaches_230 ?_
                  refine lv_iload hx hb dX9_reaches_231 (lv_at hl 11 rfl) ?_
                  refine lv_iadd hx hb dX9_reaches_233 ?_
                  refine q_iald hx hb hK hP 10 0 rfl rfl (fw_in (left_in (by omega) (by omega)) (by omega)) (Int32.toNatClampNeg ((6 * ((nI j17_) ^^^ ((1 : Int32) <<< ((nI j85_) &&& 31)))) + (nI j180_))) rfl dX9_reaches_234 ?_
                  refine lv_goto (tgt := 239) hx hb dX9_reaches_235 (by decide) ?_
                  refine lv_istore (lv' := [(12, .int ((F_X9_reaches_85 p0 1 j17_ mTo mSt a17_1 j85_) (Int32.toNatClampNeg ((6 * ((nI j17_) ^^^ ((1 : Int32) <<< ((nI j85_) &&& 31)))) + (nI j180_))))), (0, .ref m0), (1, .int p0), (2, .int p1), (3, .int a17_0), (4, .int (nI j17_)), (5, .int 1), (6, .int (f_X9_shades mTo mSt p0 (nI j17_))), (7, .int (nI j85_)), (8, .int 0), (9, .int a180_0), (10, .int ((nI j17_) ^^^ ((1 : Int32) <<< ((nI j85_) &&& 31)))), (11, .int (nI j180_))]) hx hb dX9_reaches_239 hl (by decide) rfl (fun ls hl => ?_)
                  refine lv_iload hx hb dX9_reaches_241 (lv_at hl 0 rfl) ?_
                  refine lv_if_lt (tgt := 269) hx hb dX9_reaches_243 (by decide) (fun c_92 => ?_) (fun c_92 => ?_)
                  · refine lv_iload hx hb dX9_reaches_269 (lv_at hl 10 rfl) ?_
                    refine lv_istore (lv' := [(9, .int a180_0), (12, .int ((F_X9_reaches_85 p0 1 j17_ mTo mSt a17_1 j85_) (Int32.toNatClampNeg ((6 * ((nI j17_) ^^^ ((1 : Int32) <<< ((nI j85_) &&& 31)))) + (nI j180_))))), (0, .ref m0), (1, .int p0), (2, .int p1), (3, .int a17_0), (4, .int (nI j17_)), (5, .int 1), (6, .int (f_X9_shades mTo mSt p0 (nI j17_))), (7, .int (nI j85_)), (8, .int 0), (10, .int ((nI j17_) ^^^ ((1 : Int32) <<< ((nI j85_) &&& 31)))), (11, .int (nI j180_))]) hx hb dX9_reaches_271 hl (by decide) rfl (fun ls hl => ?_)
                    refine lv_iinc (v := (nI (j180_ + 1))) (lv' := [(11, .int (nI (j180_ + 1))), (9, .int a180_0), (12, .int ((F_X9_reaches_85 p0 1 j17_ mTo mSt a17_1 j85_) (Int32.toNatClampNeg ((6 * ((nI j17_) ^^^ ((1 : Int32) <<< ((nI j85_) &&& 31)))) + (nI j180_))))), (0, .ref m0), (1, .int p0), (2, .int p1), (3, .int a17_0), (4, .int (nI j17_)), (5, .int 1), (6, .int (f_X9_shades mTo mSt p0 (nI j17_))), (7, .int (nI j85_)), (8, .int 0), (10, .int ((nI j17_) ^^^ ((1 : Int32) <<< ((nI j85_) &&& 31))))]) hx hb dX9_reaches_273 hl (k := 12) rfl (nI_1 _) (by decide) rfl (fun ls hl => ?_)
                    refine lv_goto (tgt := 180) hx hb dX9_reaches_276 (by decide) ?_
                    exact ih180_ (j180_ + 1) a180_0 (by omega) (by rw [← hv180_]; simp only [L_X9_reaches_180, if_neg c_85, if_pos c_88, if_pos c_90, if_pos c_92]) _ _ hP hD hS _ (lv_sub hl [3, 4, 5, 6, 7, 8, 9, 10, 11, 1, 12, 0] rfl)
                  refine lv_iload hx hb dX9_reaches_246 (lv_at hl 10 rfl) ?_
                  refine lv_if_lt (tgt := 261) hx hb dX9_reaches_248 (by decide) (fun c_93 => ?_) (fun c_93 => ?_)
                  · refine lv_iload hx hb dX9_reaches_261 (lv_at hl 0 rfl) ?_
                    refine lv_iload hx hb dX9_reaches_263 (lv_at hl 9 rfl) ?_
                    refine lv_iadd hx hb dX9_reaches_265 ?_
                    refine lv_goto (tgt := 271) hx hb dX9_reaches_266 (by decide) ?_
                    refine lv_istore (lv' := [(9, .int (((F_X9_reaches_85 p0 1 j17_ mTo mSt a17_1 j85_) (Int32.toNatClampNeg ((6 * ((nI j17_) ^^^ ((1 : Int32) <<< ((nI j85_) &&& 31)))) + (nI j180_)))) + 0)), (12, .int ((F_X9_reaches_85 p0 1 j17_ mTo mSt a17_1 j85_) (Int32.toNatClampNeg ((6 * ((nI j17_) ^^^ ((1 : Int32) <<< ((nI j85_) &&& 31)))) + (nI j180_))))), (0, .ref m0), (1, .int p0), (2, .int p1), (3, .int a17_0), (4, .int (nI j17_)), (5, .int 1), (6, .int (f_X9_shades mTo mSt p0 (nI j17_))), (7, .int (nI j85_)), (8, .int 0), (10, .int ((nI j17_) ^^^ ((1 : Int32) <<< ((nI j85_) &&& 31)))), (11, .int (nI j180_))]) hx hb dX9_reaches_271 hl (by decide) rfl (fun ls hl => ?_)
                    refine lv_iinc (v := (nI (j180_ + 1))) (lv' := [(11, .int (nI (j180_ + 1))), (9, .int (((F_X9_reaches_85 p0 1 j17_ mTo mSt a17_1 j85_) (Int32.toNatClampNeg ((6 * ((nI j17_) ^^^ ((1 : Int32) <<< ((nI j85_) &&& 31)))) + (nI j180_)))) + 0)), (12, .int ((F_X9_reaches_85 p0 1 j17_ mTo mSt a17_1 j85_) (Int32.toNatClampNeg ((6 * ((nI j17_) ^^^ ((1 : Int32) <<< ((nI j85_) &&& 31)))) + (nI j180_))))), (0, .ref m0), (1, .int p0), (2, .int p1), (3, .int a17_0), (4, .int (nI j17_)), (5, .int 1), (6, .int (f_X9_shades mTo mSt p0 (nI j17_))), (7, .int (nI j85_)), (8, .int 0), (10, .int ((nI j17_) ^^^ ((1 : Int32) <<< ((nI j85_) &&& 31))))]) hx hb dX9_reaches_273 hl (k := 12) rfl (nI_1 _) (by decide) rfl (fun ls hl => ?_)
                    refine lv_goto (tgt := 180) hx hb dX9_reaches_276 (by decide) ?_
                    exact ih180_ (j180_ + 1) (((F_X9_reaches_85 p0 1 j17_ mTo mSt a17_1 j85_) (Int32.toNatClampNeg ((6 * ((nI j17_) ^^^ ((1 : Int32) <<< ((nI j85_) &&& 31)))) + (nI j180_)))) + 0) (by omega) (by rw [← hv180_]; simp only [L_X9_reaches_180, if_neg c_85, if_pos c_88, if_pos c_90, if_neg c_92, if_pos c_93]) _ _ hP hD hS _ (lv_sub hl [3, 4, 5, 6, 7, 8, 9, 10, 11, 1, 12, 0] rfl)
                  refine lv_iload hx hb dX9_reaches_251 (lv_at hl 0 rfl) ?_
                  refine lv_iload hx hb dX9_reaches_253 (lv_at hl 9 rfl) ?_
                  refine lv_iadd hx hb dX9_reaches_255 ?_
                  refine lv_iload hx hb dX9_reaches_256 (lv_at hl 10 rfl) ?_
                  refine lv_icmp_ge (tgt := 269) hx hb dX9_reaches_258 (by decide) (fun c_94 => ?_) (fun c_94 => ?_)
                  · refine lv_iload hx hb dX9_reaches_269 (lv_at hl 10 rfl) ?_
                    refine lv_istore (lv' := [(9, .int a180_0), (12, .int ((F_X9_reaches_85 p0 1 j17_ mTo mSt a17_1 j85_) (Int32.toNatClampNeg ((6 * ((nI j17_) ^^^ ((1 : Int32) <<< ((nI j85_) &&& 31)))) + (nI j180_))))), (0, .ref m0), (1, .int p0), (2, .int p1), (3, .int a17_0), (4, .int (nI j17_)), (5, .int 1), (6, .int (f_X9_shades mTo mSt p0 (nI j17_))), (7, .int (nI j85_)), (8, .int 0), (10, .int ((nI j17_) ^^^ ((1 : Int32) <<< ((nI j85_) &&& 31)))), (11, .int (nI j180_))]) hx hb dX9_reaches_271 hl (by decide) rfl (fun ls hl => ?_)
                    refine lv_iinc (v := (nI (j180_ + 1))) (lv' := [(11, .int (nI (j180_ + 1))), (9, .int a180_0), (12, .int ((F_X9_reaches_85 p0 1 j17_ mTo mSt a17_1 j85_) (Int32.toNatClampNeg ((6 * ((nI j17_) ^^^ ((1 : Int32) <<< ((nI j85_) &&& 31)))) + (nI j180_))))), (0, .ref m0), (1, .int p0), (2, .int p1), (3, .int a17_0), (4, .int (nI j17_)), (5, .int 1), (6, .int (f_X9_shades mTo mSt p0 (nI j17_))), (7, .int (nI j85_)), (8, .int 0), (10, .int ((nI j17_) ^^^ ((1 : Int32) <<< ((nI j85_) &&& 31))))]) hx hb dX9_reaches_273 hl (k := 12) rfl (nI_1 _) (by decide) rfl (fun ls hl => ?_)
                    refine lv_goto (tgt := 180) hx hb dX9_reaches_276 (by decide) ?_
                    exact ih180_ (j180_ + 1) a180_0 (by omega) (by rw [← hv180_]; simp only [L_X9_reaches_180, if_neg c_85, if_pos c_88, if_pos c_90, if_neg c_92, if_neg c_93, if_pos c_94]) _ _ hP hD hS _ (lv_sub hl [3, 4, 5, 6, 7, 8, 9, 10, 11, 1, 12, 0] rfl)
                  refine lv_iload hx hb dX9_reaches_261 (lv_at hl 0 rfl) ?_
                  refine lv_iload hx hb dX9_reaches_263 (lv_at hl 9 rfl) ?_
                  refine lv_iadd hx hb dX9_reaches_265 ?_
                  refine lv_goto (tgt := 271) hx hb dX9_reaches_266 (by decide) ?_
                  refine lv_istore (lv' := [(9, .int (((F_X9_reaches_85 p0 1 j17_ mTo mSt a17_1 j85_) (Int32.toNatClampNeg ((6 * ((nI j17_) ^^^ ((1 : Int32) <<< ((nI j85_) &&& 31)))) + (nI j180_)))) + 0)), (12, .int ((F_X9_reaches_85 p0 1 j17_ mTo mSt a17_1 j85_) (Int32.toNatClampNeg ((6 * ((nI j17_) ^^^ ((1 : Int32) <<< ((nI j85_) &&& 31)))) + (nI j180_))))), (0, .ref m0), (1, .int p0), (2, .int p1), (3, .int a17_0), (4, .int (nI j17_)), (5, .int 1), (6, .int (f_X9_shades mTo mSt p0 (nI j17_))), (7, .int (nI j85_)), (8, .int 0), (10, .int ((nI j17_) ^^^ ((1 : Int32) <<< ((nI j85_) &&& 31)))), (11, .int (nI j180_))]) hx hb dX9_reaches_271 hl (by decide) rfl (fun ls hl => ?_)
                  refine lv_iinc (v := (nI (j180_ + 1))) (lv' := [(11, .int (nI (j180_ + 1))), (9, .int (((F_X9_reaches_85 p0 1 j17_ mTo mSt a17_1 j85_) (Int32.toNatClampNeg ((6 * ((nI j17_) ^^^ ((1 : Int32) <<< ((nI j85_) &&& 31)))) + (nI j180_)))) + 0)), (12, .int ((F_X9_reaches_85 p0 1 j17_ mTo mSt a17_1 j85_) (Int32.toNatClampNeg ((6 * ((nI j17_) ^^^ ((1 : Int32) <<< ((nI j85_) &&& 31)))) + (nI j180_))))), (0, .ref m0), (1, .int p0), (2, .int p1), (3, .int a17_0), (4, .int (nI j17_)), (5, .int 1), (6, .int (f_X9_shades mTo mSt p0 (nI j17_))), (7, .int (nI j85_)), (8, .int 0), (10, .int ((nI j17_) ^^^ ((1 : Int32) <<< ((nI j85_) &&& 31))))]) hx hb dX9_reaches_273 hl (k := 12) rfl (nI_1 _) (by decide) rfl (fun ls hl => ?_)
                  refine lv_goto (tgt := 180) hx hb dX9_reaches_276 (by decide) ?_
                  exact ih180_ (j180_ + 1) (((F_X9_reaches_85 p0 1 j17_ mTo mSt a17_1 j85_) (Int32.toNatClampNeg ((6 * ((nI j17_) ^^^ ((1 : Int32) <<< ((nI j85_) &&& 31)))) + (nI j180_)))) + 0) (by omega) (by rw [← hv180_]; simp only [L_X9_reaches_180, if_neg c_85, if_pos c_88, if_pos c_90, if_neg c_92, if_neg c_93, if_neg c_94]) _ _ hP hD hS _ (lv_sub hl [3, 4, 5, 6, 7, 8, 9, 10, 11, 1, 12, 0] rfl)
              exact loop180_ (Int32.toNatClampNeg (mTo 0)) 0 0 (by omega) rfl _ _ hP hD hS _ (lv_sub hl [4, 5, 6, 7, 8, 9, 10, 11, 3, 1, 2, 0] rfl)
            refine lv_iconst (v := 1) hx hb dX9_reaches_110 (by decide) ?_
            refine lv_goto (tgt := 115) hx hb dX9_reaches_111 (by decide) ?_
            refine lv_istore (lv' := [(8, .int 1), (0, .ref m0), (1, .int p0), (2, .int p1), (3, .int a17_0), (4, .int (nI j17_)), (5, .int 1), (6, .int (f_X9_shades mTo mSt p0 (nI j17_))), (7, .int (nI j85_))]) hx hb dX9_reaches_115 hl (by decide) rfl (fun ls hl => ?_)
            refine lv_iconst (v := (-1)) hx hb dX9_reaches_117 (by decide) ?_
            refine lv_istore (lv' := [(9, .int (-1)), (8, .int 1), (0, .ref m0), (1, .int p0), (2, .int p1), (3, .int a17_0), (4, .int (nI j17_)), (5, .int 1), (6, .int (f_X9_shades mTo mSt p0 (nI j17_))), (7, .int (nI j85_))]) hx hb dX9_reaches_118 hl (by decide) rfl (fun ls hl => ?_)
            refine lv_iload hx hb dX9_reaches_120 (lv_at hl 7 rfl) ?_
            refine lv_if_eq (tgt := 279) hx hb dX9_reaches_122 (by decide) (fun c_95 => ?_) (fun c_95 => ?_)
            · exact absurd c_95 (by decide : ¬ ((1 : Int32) = 0))
            refine lv_iload hx hb dX9_reaches_125 (lv_at hl 6 rfl) ?_
            refine lv_iload hx hb dX9_reaches_127 (lv_at hl 9 rfl) ?_
            refine lv_ishr hx hb dX9_reaches_129 ?_
            refine lv_iconst (v := 1) hx hb dX9_reaches_130 (by decide) ?_
            refine lv_iand hx hb dX9_reaches_131 ?_
            refine lv_iconst (v := 1) hx hb dX9_reaches_132 (by decide) ?_
            refine lv_icmp_ne (tgt := 279) hx hb dX9_reaches_133 (by decide) (fun c_96 => ?_) (fun c_96 => ?_)
            · refine lv_aload_n hx hb dX9_reaches_279 rfl (lv_at hl 2 rfl) ?_
              refine va_get (D := D) (ci := 9) (v := .ref m10) (C := RX9) (T := TX9) (N := 20) hx hb hts hinX9 hown hK hP 0 rfl rfl 17 (by decide) hf37 (fun _ h9 => h9) rfl dX9_reaches_280 ?_
              refine lv_bipush (v := 6) hx hb dX9_reaches_283 (by decide) ?_
              refine lv_iload hx hb dX9_reaches_285 (lv_at hl 6 rfl) ?_
              refine q_imulN (a := 6) (b := j17_) hx hb dX9_reaches_287 ?_
              refine lv_iload hx hb dX9_reaches_288 (lv_at hl 9 rfl) ?_
              refine q_iaddN (a := (6 * j17_)) (b := j85_) hx hb dX9_reaches_290 ?_
              refine lv_iload hx hb dX9_reaches_291 (lv_at hl 0 rfl) ?_
              refine q_iast hx hb hK hP hD hS 10 0 rfl rfl (vp_in_nI (by omega) (by decide)) ((6 * j17_) + j85_) (nI_clamp (by omega)) dX9_reaches_293 (fun H locs hP hD hS => ?_)
              have hP : va_P D vwCl [(m0, .inr (9, [.ref m1, .int (nI mTy), .ref m2, .ref m3, .ref m4, .ref m5, .int (nI mKn), .ref m6, .int (nI mKe), .ref m7, .int (nI mCa), .ref m8, .int (nI mSe), .int (nI mAt), .int mFi, .int mSc, .ref m9, .ref m10, .ref m11, .ref m12])), (m1, .inl (cI, 200, .inl mTx)), (m2, .inl (cI, 37, .inl mTo)), (m3, .inl (cI, 37, .inl mDr)), (m4, .inl (cI, 15, .inl mSt)), (m5, .inl (cI, 120, .inl mPa)), (m6, .inl (cI, 30, .inl mIm)), (m7, .inl (cI, 5, .inl mWi)), (m8, .inl (cI, 6, .inl mSn)), (m9, .inl (cI, 15, .inl mHe)), (m10, .inl (cI, 384, .inl (upd (F_X9_reaches_85 p0 1 j17_ mTo mSt a17_1 j85_) ((6 * j17_) + j85_) (-1)))), (m11, .inl (cI, 5, .inl mRo)), (m12, .inl (cI, 5, .inl mBe))] H := hP
              have hD : va_D (va_A (wM cI cC cG m0 m1 m2 m3 m4 m5 m6 m7 m8 m9 m10 m11 m12 mTy mKn mKe mCa mSe mAt mFi mSc mTx mTo mDr mSt mPa mIm mWi mSn mHe mFw mRo mBe) sz) [(m0, .inr (9, [.ref m1, .int (nI mTy), .ref m2, .ref m3, .ref m4, .ref m5, .int (nI mKn), .ref m6, .int (nI mKe), .ref m7, .int (nI mCa), .ref m8, .int (nI mSe), .int (nI mAt), .int mFi, .int mSc, .ref m9, .ref m10, .ref m11, .ref m12])), (m1, .inl (cI, 200, .inl mTx)), (m2, .inl (cI, 37, .inl mTo)), (m3, .inl (cI, 37, .inl mDr)), (m4, .inl (cI, 15, .inl mSt)), (m5, .inl (cI, 120, .inl mPa)), (m6, .inl (cI, 30, .inl mIm)), (m7, .inl (cI, 5, .inl mWi)), (m8, .inl (cI, 6, .inl mSn)), (m9, .inl (cI, 15, .inl mHe)), (m10, .inl (cI, 384, .inl (upd (F_X9_reaches_85 p0 1 j17_ mTo mSt a17_1 j85_) ((6 * j17_) + j85_) (-1)))), (m11, .inl (cI, 5, .inl mRo)), (m12, .inl (cI, 5, .inl mBe))] := hD
              refine lv_iinc (v := (nI (j85_ + 1))) (lv' := [(7, .int (nI (j85_ + 1))), (9, .int (-1)), (8, .int 1), (0, .ref m0), (1, .int p0), (2, .int p1), (3, .int a17_0), (4, .int (nI j17_)), (5, .int 1), (6, .int (f_X9_shades mTo mSt p0 (nI j17_)))]) hx hb dX9_reaches_294 hl (k := 9) rfl (nI_1 _) (by decide) rfl (fun ls hl => ?_)
              refine lv_goto (tgt := 85) hx hb dX9_reaches_297 (by decide) ?_
              have e_97 : (F_X9_reaches_85 p0 1 j17_ mTo mSt a17_1 (j85_ + 1)) = (upd (F_X9_reaches_85 p0 1 j17_ mTo mSt a17_1 j85_) ((6 * j17_) + j85_) (-1)) := by simp only [F_X9_reaches_85, if_pos c_44, if_neg (by decide : ¬ ((1 : Int32) = 0)), if_neg c_96, if_pos trivial, if_neg not_false]
              exact ih85_ (j85_ + 1) (by omega) _ _ (by rw [e_97]; exact hP) (by rw [e_97]; exact hD) hS _ (lv_sub hl [3, 4, 5, 6, 7, 8, 9, 0] rfl)
            refine lv_iload hx hb dX9_reaches_136 (lv_at hl 6 rfl) ?_
            refine lv_iconst (v := 1) hx hb dX9_reaches_138 (by decide) ?_
            refine lv_iload hx hb dX9_reaches_139 (lv_at hl 9 rfl) ?_
            refine lv_ishl hx hb dX9_reaches_141 ?_
            refine lv_ixor hx hb dX9_reaches_142 ?_
            refine lv_istore (lv' := [(10, .int ((nI j17_) ^^^ ((1 : Int32) <<< ((nI j85_) &&& 31)))), (9, .int (-1)), (8, .int 1), (0, .ref m0), (1, .int p0), (2, .int p1), (3, .int a17_0), (4, .int (nI j17_)), (5, .int 1), (6, .int (f_X9_shades mTo mSt p0 (nI j17_))), (7, .int (nI j85_))]) hx hb dX9_reaches_143 hl (by decide) rfl (fun ls hl => ?_)
            refine lv_iload hx hb dX9_reaches_145 (lv_at hl 0 rfl) ?_
            refine lv_if_ne (tgt := 174) hx hb dX9_reaches_147 (by decide) (fun c_98 => ?_) (fun c_98 => ?_)
            · refine lv_iconst (v := (-1)) hx hb dX9_reaches_174 (by decide) ?_
              refine lv_istore (lv' := [(9, .int (-1)), (10, .int ((nI j17_) ^^^ ((1 : Int32) <<< ((nI j85_) &&& 31)))), (8, .int 1), (0, .ref m0), (1, .int p0), (2, .int p1), (3, .int a17_0), (4, .int (nI j17_)), (5, .int 1), (6, .int (f_X9_shades mTo mSt p0 (nI j17_))), (7, .int (nI j85_))]) hx hb dX9_reaches_175 hl (by decide) rfl (fun ls hl => ?_)
              refine lv_iconst (v := 0) hx hb dX9_reaches_177 (by decide) ?_
              refine lv_istore (lv' := [(11, .int 0), (9, .int (-1)), (10, .int ((nI j17_) ^^^ ((1 : Int32) <<< ((nI j85_) &&& 31)))), (8, .int 1), (0, .ref m0), (1, .int p0), (2, .int p1), (3, .int a17_0), (4, .int (nI j17_)), (5, .int 1), (6, .int (f_X9_shades mTo mSt p0 (nI j17_))), (7, .int (nI j85_))]) hx hb dX9_reaches_178 hl (by decide) rfl (fun ls hl => ?_)
              have K180_ : ∀ (H : Heap) (locs : List Loc), va_P D vwCl [(m0, .inr (9, [.ref m1, .int (nI mTy), .ref m2, .ref m3, .ref m4, .ref m5, .int (nI mKn), .ref m6, .int (nI mKe), .ref m7, .int (nI mCa), .ref m8, .int (nI mSe), .int (nI mAt), .int mFi, .int mSc, .ref m9, .ref m10, .ref m11, .ref m12])), (m1, .inl (cI, 200, .inl mTx)), (m2, .inl (cI, 37, .inl mTo)), (m3, .inl (cI, 37, .inl mDr)), (m4, .inl (cI, 15, .inl mSt)), (m5, .inl (cI, 120, .inl mPa)), (m6, .inl (cI, 30, .inl mIm)), (m7, .inl (cI, 5, .inl mWi)), (m8, .inl (cI, 6, .inl mSn)), (m9, .inl (cI, 15, .inl mHe)), (m10, .inl (cI, 384, .inl (F_X9_reaches_85 p0 1 j17_ mTo mSt a17_1 j85_))), (m11, .inl (cI, 5, .inl mRo)), (m12, .inl (cI, 5, .inl mBe))] H → va_D (va_A (wM cI cC cG m0 m1 m2 m3 m4 m5 m6 m7 m8 m9 m10 m11 m12 mTy mKn mKe mCa mSe mAt mFi mSc mTx mTo mDr mSt mPa mIm mWi mSn mHe mFw mRo mBe) sz) [(m0, .inr (9, [.ref m1, .int (nI mTy), .ref m2, .ref m3, .ref m4, .ref m5, .int (nI mKn), .ref m6, .int (nI mKe), .ref m7, .int (nI mCa), .ref m8, .int (nI mSe), .int (nI mAt), .int mFi, .int mSc, .ref m9, .ref m10, .ref m11, .ref m12])), (m1, .inl (cI, 200, .inl mTx)), (m2, .inl (cI, 37, .inl mTo)), (m3, .inl (cI, 37, .inl mDr)), (m4, .inl (cI, 15, .inl mSt)), (m5, .inl (cI, 120, .inl mPa)), (m6, .inl (cI, 30, .inl mIm)), (m7, .inl (cI, 5, .inl mWi)), (m8, .inl (cI, 6, .inl mSn)), (m9, .inl (cI, 15, .inl mHe)), (m10, .inl (cI, 384, .inl (F_X9_reaches_85 p0 1 j17_ mTo mSt a17_1 j85_))), (m11, .inl (cI, 5, .inl mRo)), (m12, .inl (cI, 5, .inl mBe))] → va_S (va_A (wM cI cC cG m0 m1 m2 m3 m4 m5 m6 m7 m8 m9 m10 m11 m12 mTy mKn mKe mCa mSe mAt mFi mSc mTx mTo mDr mSt mPa mIm mWi mSn mHe mFw mRo mBe) sz) s.heap H locs → ∀ ls : Array Slot, lv_has ls 13 [(0, .ref m0), (1, .int p0), (2, .int p1), (3, .int a17_0), (4, .int (nI j17_)), (5, .int 1), (6, .int (f_X9_shades mTo mSt p0 (nI j17_))), (7, .int (nI j85_)), (9, .int (L_X9_reaches_180 1 ((nI j17_) ^^^ ((1 : Int32) <<< ((nI j85_) &&& 31))) j85_ mTo mSt (F_X9_reaches_85 p0 1 j17_ mTo mSt a17_1 j85_) (Int32.toNatClampNeg (mTo 0)) 0 (-1)))] → W p l e rm_X9_reaches s m ([.ref m0, .int p0, .int p1] : List Value).toArray below meth c H locs 0 0 (MQ below (q_QWi D (wM cI cC cG m0 m1 m2 m3 m4 m5 m6 m7 m8 m9 m10 m11 m12 mTy mKn mKe mCa mSe mAt mFi mSc mTx mTo mDr mSt mPa mIm mWi mSn mHe mFw mRo mBe) (wM cI cC cG m0 m1 m2 m3 m4 m5 m6 m7 m8 m9 m10 m11 m12 mTy mKn mKe mCa mSe mAt mFi mSc mTx mTo mDr mSt mPa mIm mWi mSn mHe (g_X9_reaches_mFw mTo mSt mFw p0 p1) mRo mBe) sz (f_X9_reaches mTo mSt mFw p0 p1)) ([.ref m0, .int p0, .int p1] : List Value).toArray s 0 0 (va_A (wM cI cC cG m0 m1 m2 m3 m4 m5 m6 m7 m8 m9 m10 m11 m12 mTy mKn mKe mCa mSe mAt mFi mSc mTx mTo mDr mSt mPa mIm mWi mSn mHe mFw mRo mBe) sz)) (F0 m 279 ls []) := by
                intro H locs hP hD hS ls hl
                refine lv_aload_n hx hb dX9_reaches_279 rfl (lv_at hl 0 rfl) ?_
                refine va_get (D := D) (ci := 9) (v := .ref m10) (C := RX9) (T := TX9) (N := 20) hx hb hts hinX9 hown hK hP 0 rfl rfl 17 (by decide) hf37 (fun _ h9 => h9) rfl dX9_reaches_280 ?_
                refine lv_bipush (v := 6) hx hb dX9_reaches_283 (by decide) ?_
                refine lv_iload hx hb dX9_reaches_285 (lv_at hl 4 rfl) ?_
                refine q_imulN (a := 6) (b := j17_) hx hb dX9_reaches_287 ?_
                refine lv_iload hx hb dX9_reaches_288 (lv_at hl 7 rfl) ?_
                refine q_iaddN (a := (6 * j17_)) (b := j85_) hx hb dX9_reaches_290 ?_
                refine lv_iload hx hb dX9_reaches_291 (lv_at hl 8 rfl) ?_
                refine q_iast hx hb hK hP hD hS 10 0 rfl rfl (vp_in_nI (by omega) (by decide)) ((6 * j17_) + j85_) (nI_clamp (by omega)) dX9_reaches_293 (fun H locs hP hD hS => ?_)
                have hP : va_P D vwCl [(m0, .inr (9, [.ref m1, .int (nI mTy), .ref m2, .ref m3, .ref m4, .ref m5, .int (nI mKn), .ref m6, .int (nI mKe), .ref m7, .int (nI mCa), .ref m8, .int (nI mSe), .int (nI mAt), .int mFi, .int mSc, .ref m9, .ref m10, .ref m11, .ref m12])), (m1, .inl (cI, 200, .inl mTx)), (m2, .inl (cI, 37, .inl mTo)), (m3, .inl (cI, 37, .inl mDr)), (m4, .inl (cI, 15, .inl mSt)), (m5, .inl (cI, 120, .inl mPa)), (m6, .inl (cI, 30, .inl mIm)), (m7, .inl (cI, 5, .inl mWi)), (m8, .inl (cI, 6, .inl mSn)), (m9, .inl (cI, 15, .inl mHe)), (m10, .inl (cI, 384, .inl (upd (F_X9_reaches_85 p0 1 j17_ mTo mSt a17_1 j85_) ((6 * j17_) + j85_) (L_X9_reaches_180 1 ((nI j17_) ^^^ ((1 : Int32) <<< ((nI j85_) &&& 31))) j85_ mTo mSt (F_X9_reaches_85 p0 1 j17_ mTo mSt a17_1 j85_) (Int32.toNatClampNeg (mTo 0)) 0 (-1))))), (m11, .inl (cI, 5, .inl mRo)), (m12, .inl (cI, 5, .inl mBe))] H := hP
                have hD : va_D (va_A (wM cI cC cG m0 m1 m2 m3 m4 m5 m6 m7 m8 m9 m10 m11 m12 mTy mKn mKe mCa mSe mAt mFi mSc mTx mTo mDr mSt mPa mIm mWi mSn mHe mFw mRo mBe) sz) [(m0, .inr (9, [.ref m1, .int (nI mTy), .ref m2, .ref m3, .ref m4, .ref m5, .int (nI mKn), .ref m6, .int (nI mKe), .ref m7, .int (nI mCa), .ref m8, .int (nI mSe), .int (nI mAt), .int mFi, .int mSc, .ref m9, .ref m10, .ref m11, .ref m12])), (m1, .inl (cI, 200, .inl mTx)), (m2, .inl (cI, 37, .inl mTo)), (m3, .inl (cI, 37, .inl mDr)), (m4, .inl (cI, 15, .inl mSt)), (m5, .inl (cI, 120, .inl mPa)), (m6, .inl (cI, 30, .inl mIm)), (m7, .inl (cI, 5, .inl mWi)), (m8, .inl (cI, 6, .inl mSn)), (m9, .inl (cI, 15, .inl mHe)), (m10, .inl (cI, 384, .inl (upd (F_X9_reaches_85 p0 1 j17_ mTo mSt a17_1 j85_) ((6 * j17_) + j85_) (L_X9_reaches_180 1 ((nI j17_) ^^^ ((1 : Int32) <<< ((nI j85_) &&& 31))) j85_ mTo mSt (F_X9_reaches_85 p0 1 j17_ mTo mSt a17_1 j85_) (Int32.toNatClampNeg (mTo 0)) 0 (-1))))), (m11, .inl (cI, 5, .inl mRo)), (m12, .inl (cI, 5, .inl mBe))] := hD
                refine lv_iinc (v := (nI (j85_ + 1))) (lv' := [(7, .int (nI (j85_ + 1))), (0, .ref m0), (1, .int p0), (2, .int p1), (3, .int a17_0), (4, .int (nI j17_)), (5, .int 1), (6, .int (f_X9_shades mTo mSt p0 (nI j17_))), (9, .int (L_X9_reaches_180 1 ((nI j17_) ^^^ ((1 : Int32) <<< ((nI j85_) &&& 31))) j85_ mTo mSt (F_X9_reaches_85 p0 1 j17_ mTo mSt a17_1 j85_) (Int32.toNatClampNeg (mTo 0)) 0 (-1)))]) hx hb dX9_reaches_294 hl (k := 7) rfl (nI_1 _) (by decide) rfl (fun ls hl => ?_)
                refine lv_goto (tgt := 85) hx hb dX9_reaches_297 (by decide) ?_
                have e_99 : (F_X9_reaches_85 p0 1 j17_ mTo mSt a17_1 (j85_ + 1)) = (upd (F_X9_reaches_85 p0 1 j17_ mTo mSt a17_1 j85_) ((6 * j17_) + j85_) (L_X9_reaches_180 1 ((nI j17_) ^^^ ((1 : Int32) <<< ((nI j85_) &&& 31))) j85_ mTo mSt (F_X9_reaches_85 p0 1 j17_ mTo mSt a17_1 j85_) (Int32.toNatClampNeg (mTo 0)) 0 (-1))) := by simp only [F_X9_reaches_85, if_pos c_44, if_neg (by decide : ¬ ((1 : Int32) = 0)), if_pos c_96, if_neg c_98, if_pos trivial, if_neg not_false]
                exact ih85_ (j85_ + 1) (by omega) _ _ (by rw [e_99]; exact hP) (by rw [e_99]; exact hD) hS _ (lv_sub hl [1, 2, 3, 4, 5, 6, 7, 0] rfl)
              have loop180_ : ∀ (n180_ j180_ : Nat) (a180_0 : Int32), j180_ + n180_ = (Int32.toNatClampNeg (mTo 0)) → (L_X9_reaches_180 1 ((nI j17_) ^^^ ((1 : Int32) <<< ((nI j85_) &&& 31))) j85_ mTo mSt (F_X9_reaches_85 p0 1 j17_ mTo mSt a17_1 j85_) n180_ j180_ a180_0) = (L_X9_reaches_180 1 ((nI j17_) ^^^ ((1 : Int32) <<< ((nI j85_) &&& 31))) j85_ mTo mSt (F_X9_reaches_85 p0 1 j17_ mTo mSt a17_1 j85_) (Int32.toNatClampNeg (mTo 0)) 0 (-1)) → ∀ (H : Heap) (locs : List Loc), va_P D vwCl [(m0, .inr (9, [.ref m1, .int (nI mTy), .ref m2, .ref m3, .ref m4, .ref m5, .int (nI mKn), .ref m6, .int (nI mKe), .ref m7, .int (nI mCa), .ref m8, .int (nI mSe), .int (nI mAt), .int mFi, .int mSc, .ref m9, .ref m10, .ref m11, .ref m12])), (m1, .inl (cI, 200, .inl mTx)), (m2, .inl (cI, 37, .inl mTo)), (m3, .inl (cI, 37, .inl mDr)), (m4, .inl (cI, 15, .inl mSt)), (m5, .inl (cI, 120, .inl mPa)), (m6, .inl (cI, 30, .inl mIm)), (m7, .inl (cI, 5, .inl mWi)), (m8, .inl (cI, 6, .inl mSn)), (m9, .inl (cI, 15, .inl mHe)), (m10, .inl (cI, 384, .inl (F_X9_reaches_85 p0 1 j17_ mTo mSt a17_1 j85_))), (m11, .inl (cI, 5, .inl mRo)), (m12, .inl (cI, 5, .inl mBe))] H → va_D (va_A (wM cI cC cG m0 m1 m2 m3 m4 m5 m6 m7 m8 m9 m10 m11 m12 mTy mKn mKe mCa mSe mAt mFi mSc mTx mTo mDr mSt mPa mIm mWi mSn mHe mFw mRo mBe) sz) [(m0, .inr (9, [.ref m1, .int (nI mTy), .ref m2, .ref m3, .ref m4, .ref m5, .int (nI mKn), .ref m6, .int (nI mKe), .ref m7, .int (nI mCa), .ref m8, .int (nI mSe), .int (nI mAt), .int mFi, .int mSc, .ref m9, .ref m10, .ref m11, .ref m12])), (m1, .inl (cI, 200, .inl mTx)), (m2, .inl (cI, 37, .inl mTo)), (m3, .inl (cI, 37, .inl mDr)), (m4, .inl (cI, 15, .inl mSt)), (m5, .inl (cI, 120, .inl mPa)), (m6, .inl (cI, 30, .inl mIm)), (m7, .inl (cI, 5, .inl mWi)), (m8, .inl (cI, 6, .inl mSn)), (m9, .inl (cI, 15, .inl mHe)), (m10, .inl (cI, 384, .inl (F_X9_reaches_85 p0 1 j17_ mTo mSt a17_1 j85_))), (m11, .inl (cI, 5, .inl mRo)), (m12, .inl (cI, 5, .inl mBe))] → va_S (va_A (wM cI cC cG m0 m1 m2 m3 m4 m5 m6 m7 m8 m9 m10 m11 m12 mTy mKn mKe mCa mSe mAt mFi mSc mTx mTo mDr mSt mPa mIm mWi mSn mHe mFw mRo mBe) sz) s.heap H locs → ∀ ls : Array Slot, lv_has ls 13 [(0, .ref m0), (1, .int p0), (2, .int p1), (3, .int a17_0), (4, .int (nI j17_)), (5, .int 1), (6, .int (f_X9_shades mTo mSt p0 (nI j17_))), (7, .int (nI j85_)), (8, .int 1), (9, .int a180_0), (10, .int ((nI j17_) ^^^ ((1 : Int32) <<< ((nI j85_) &&& 31)))), (11, .int (nI j180_))] → W p l e rm_X9_reaches s m ([.ref m0, .int p0, .int p1] : List Value).toArray below meth c H locs 0 0 (MQ below (q_QWi D (wM cI cC cG m0 m1 m2 m3 m4 m5 m6 m7 m8 m9 m10 m11 m12 mTy mKn mKe mCa mSe mAt mFi mSc mTx mTo mDr mSt mPa mIm mWi mSn mHe mFw mRo mBe) (wM cI cC cG m0 m1 m2 m3 m4 m5 m6 m7 m8 m9 m10 m11 m12 mTy mKn mKe mCa mSe mAt mFi mSc mTx mTo mDr mSt mPa mIm mWi mSn mHe (g_X9_reaches_mFw mTo mSt mFw p0 p1) mRo mBe) sz (f_X9_reaches mTo mSt mFw p0 p1)) ([.ref m0, .int p0, .int p1] : List Value).toArray s 0 0 (va_A (wM cI cC cG m0 m1 m2 m3 m4 m5 m6 m7 m8 m9 m10 m11 m12 mTy mKn mKe mCa mSe mAt mFi mSc mTx mTo mDr mSt mPa mIm mWi mSn mHe mFw mRo mBe) sz)) (F0 m 180 ls []) := by
                intro n180_
                induction n180_ with
                | zero =>
                  intro j180_ a180_0 hj180_ hv180_ H locs hP hD hS ls hl
                  obtain rfl : j180_ = (Int32.toNatClampNeg (mTo 0)) := by omega
                  refine lv_iload hx hb dX9_reaches_180 (lv_at hl 11 rfl) ?_
                  refine lv_aload_n hx hb dX9_reaches_182 rfl (lv_at hl 0 rfl) ?_
                  refine va_get (D := D) (ci := 9) (v := .ref m2) (C := RX9) (T := TX9) (N := 20) hx hb hts hinX9 hown hK hP 0 rfl rfl 2 (by decide) hf13 (fun _ h9 => h9) rfl dX9_reaches_183 ?_
                  refine lv_iconst (v := 0) hx hb dX9_reaches_186 (by decide) ?_
                  refine q_iald hx hb hK hP 2 0 rfl rfl (vp_in_nI (n := 0) (N := 37) (by decide) (by decide)) 0 (by decide) dX9_reaches_187 ?_
                  refine lv_icmp_ge (tgt := 279) hx hb dX9_reaches_188 (by decide) (fun c_100 => ?_) (fun c_100 => ?_)
                  rotate_left
                  · exact absurd k_ge c_100
                  have e_101 : a180_0 = (L_X9_reaches_180 1 ((nI j17_) ^^^ ((1 : Int32) <<< ((nI j85_) &&& 31))) j85_ mTo mSt (F_X9_reaches_85 p0 1 j17_ mTo mSt a17_1 j85_) (Int32.toNatClampNeg (mTo 0)) 0 (-1)) := by rw [← hv180_]; simp only [L_X9_reaches_180]
                  have e_102 : a180_0 = (L_X9_reaches_180 1 ((nI j17_) ^^^ ((1 : Int32) <<< ((nI j85_) &&& 31))) j85_ mTo mSt (F_X9_reaches_85 p0 1 j17_ mTo mSt a17_1 j85_) (Int32.toNatClampNeg (mTo 0)) 0 (-1)) := e_101
                  exact K180_ _ _ hP hD hS _ (by rw [← e_102]; exact (lv_sub hl [0, 1, 2, 3, 4, 5, 6, 7, 9] rfl))
                | succ n180_ ih180_ =>
                  intro j180_ a180_0 hj180_ hv180_ H locs hP hD hS ls hl
                  refine lv_iload hx hb dX9_reaches_180 (lv_at hl 11 rfl) ?_
                  refine lv_aload_n hx hb dX9_reaches_182 rfl (lv_at hl 0 rfl) ?_
                  refine va_get (D := D) (ci := 9) (v := .ref m2) (C := RX9) (T := TX9) (N := 20) hx hb hts hinX9 hown hK hP 0 rfl rfl 2 (by decide) hf13 (fun _ h9 => h9) rfl dX9_reaches_183 ?_
                  refine lv_iconst (v := 0) hx hb dX9_reaches_186 (by decide) ?_
                  refine q_iald hx hb hK hP 2 0 rfl rfl (vp_in_nI (n := 0) (N := 37) (by decide) (by decide)) 0 (by decide) dX9_reaches_187 ?_
                  refine lv_icmp_ge (tgt := 279) hx hb dX9_reaches_188 (by decide) (fun c_103 => ?_) (fun c_103 => ?_)
                  · exact absurd c_103 (k_le (by omega))
                  refine lv_iload hx hb dX9_reaches_191 (lv_at hl 10 rfl) ?_
                  refine lv_if_eq (tgt := 279) hx hb dX9_reaches_193 (by decide) (fun c_104 => ?_) (fun c_104 => ?_)
                  · have e_105 : a180_0 = (L_X9_reaches_180 1 ((nI j17_) ^^^ ((1 : Int32) <<< ((nI j85_) &&& 31))) j85_ mTo mSt (F_X9_reaches_85 p0 1 j17_ mTo mSt a17_1 j85_) (Int32.toNatClampNeg (mTo 0)) 0 (-1)) := by rw [← hv180_]; simp only [L_X9_reaches_180, if_pos c_104]
                    have e_106 : a180_0 = (L_X9_reaches_180 1 ((nI j17_) ^^^ ((1 : Int32) <<< ((nI j85_) &&& 31))) j85_ mTo mSt (F_X9_reaches_85 p0 1 j17_ mTo mSt a17_1 j85_) (Int32.toNatClampNeg (mTo 0)) 0 (-1)) := e_105
                    exact K180_ _ _ hP hD hS _ (by rw [← e_106]; exact (lv_sub hl [0, 1, 2, 3, 4, 5, 6, 7, 9] rfl))
                  refine lv_iload hx hb dX9_reaches_196 (lv_at hl 10 rfl) ?_
                  refine lv_iload hx hb dX9_reaches_198 (lv_at hl 11 rfl) ?_
                  refine lv_ishr hx hb dX9_reaches_200 ?_
                  refine lv_iconst (v := 1) hx hb dX9_reaches_201 (by decide) ?_
                  refine lv_iand hx hb dX9_reaches_202 ?_
                  refine lv_iconst (v := 1) hx hb dX9_reaches_203 (by decide) ?_
                  refine lv_icmp_ne (tgt := 238) hx hb dX9_reaches_204 (by decide) (fun c_107 => ?_) (fun c_107 => ?_)
                  · refine lv_iconst (v := (-1)) hx hb dX9_reaches_238 (by decide) ?_
                    refine lv_istore (lv' := [(12, .int (-1)), (0, .ref m0), (1, .int p0), (2, .int p1), (3, .int a17_0), (4, .int (nI j17_)), (5, .int 1), (6, .int (f_X9_shades mTo mSt p0 (nI j17_))), (7, .int (nI j85_)), (8, .int 1), (9, .int a180_0), (10, .int ((nI j17_) ^^^ ((1 : Int32) <<< ((nI j85_) &&& 31)))), (11, .int (nI j180_))]) hx hb dX9_reaches_239 hl (by decide) rfl (fun ls hl => ?_)
                    refine lv_iload hx hb dX9_reaches_241 (lv_at hl 0 rfl) ?_
                    refine lv_if_lt (tgt := 269) hx hb dX9_reaches_243 (by decide) (fun c_108 => ?_) (fun c_108 => ?_)
                    rotate_left
                    · exact absurd (by decide : (((-1) : Int32) < 0)) c_108
                    refine lv_iload hx hb dX9_reaches_269 (lv_at hl 10 rfl) ?_
                    refine lv_istore (lv' := [(9, .int a180_0), (12, .int (-1)), (0, .ref m0), (1, .int p0), (2, .int p1), (3, .int a17_0), (4, .int (nI j17_)), (5, .int 1), (6, .int (f_X9_shades mTo mSt p0 (nI j17_))), (7, .int (nI j85_)), (8, .int 1), (10, .int ((nI j17_) ^^^ ((1 : Int32) <<< ((nI j85_) &&& 31)))), (11, .int (nI j180_))]) hx hb dX9_reaches_271 hl (by decide) rfl (fun ls hl => ?_)
                    refine lv_iinc (v := (nI (j180_ + 1))) (lv' := [(11, .int (nI (j180_ + 1))), (9, .int a180_0), (12, .int (-1)), (0, .ref m0), (1, .int p0), (2, .int p1), (3, .int a17_0), (4, .int (nI j17_)), (5, .int 1), (6, .int (f_X9_shades mTo mSt p0 (nI j17_))), (7, .int (nI j85_)), (8, .int 1), (10, .int ((nI j17_) ^^^ ((1 : Int32) <<< ((nI j85_) &&& 31))))]) hx hb dX9_reaches_273 hl (k := 12) rfl (nI_1 _) (by decide) rfl (fun ls hl => ?_)
                    refine lv_goto (tgt := 180) hx hb dX9_reaches_276 (by decide) ?_
                    exact ih180_ (j180_ + 1) a180_0 (by omega) (by rw [← hv180_]; simp only [L_X9_reaches_180, if_neg c_104, if_neg c_107, if_pos (by decide : (((-1) : Int32) < 0)), if_pos trivial, if_neg not_false]) _ _ hP hD hS _ (lv_sub hl [3, 4, 5, 6, 7, 8, 9, 10, 11, 1, 12, 0] rfl)
                  refine lv_aload_n hx hb dX9_reaches_207 rfl (lv_at hl 0 rfl) ?_
                  refine lv_iload hx hb dX9_reaches_208 (lv_at hl 7 rfl) ?_
                  refine ro_i (va_runV (As := [.int (nI j85_)]) (rest := []) ⟨hx, hb, hml, hown, hts⟩ (c_X9_met l D cI cC cG m0 m1 m2 m3 m4 m5 m6 m7 m8 m9 m10 m11 m12 mTy mKn mKe mCa mSe mAt mFi mSc mTx mTo mDr mSt mPa mIm mWi mSn mHe (F_X9_reaches_85 p0 1 j17_ mTo mSt a17_1 j85_) mRo mBe (nI j85_) hM (vp_in_nI (by omega) (by decide))) (cwV 1 hts gX9_reaches_X9_met rfl rfl rfl (by decide +kernel) ⟨Nat.le_of_ble_eq_true rfl, Nat.le_of_ble_eq_true rfl⟩) (q_preV hK hP hN [0, 1, 2, 3, 4, 5, 6, 7, 8, 9, 10, 11, 12] rfl (ci := 9) (q0 := 0) rfl rfl) rfl rfl hl.1 rfl (lv_room (Nat.le_of_ble_eq_true rfl)) dX9_reaches_210 ⟨Nat.zero_le _, Nat.zero_le _⟩) hS hP (fun H locs hP hS => ?_)
                  refine lv_iload hx hb dX9_reaches_213 (lv_at hl 11 rfl) ?_
                  refine lv_ishr hx hb dX9_reaches_215 ?_
                  refine lv_iconst (v := 1) hx hb dX9_reaches_216 (by decide) ?_
                  refine lv_iand hx hb dX9_reaches_217 ?_
                  refine lv_iconst (v := 1) hx hb dX9_reaches_218 (by decide) ?_
                  refine lv_icmp_ne (tgt := 238) hx hb dX9_reaches_219 (by decide) (fun c_109 => ?_) (fun c_109 => ?_)
                  · refine lv_iconst (v := (-1)) hx hb dX9_reaches_238 (by decide) ?_
                    refine lv_istore (lv' := [(12, .int (-1)), (0, .ref m0), (1, .int p0), (2, .int p1), (3, .int a17_0), (4, .int (nI j17_)), (5, .int 1), (6, .int (f_X9_shades mTo mSt p0 (nI j17_))), (7, .int (nI j85_)), (8, .int 1), (9, .int a180_0), (10, .int ((nI j17_) ^^^ ((1 : Int32) <<< ((nI j85_) &&& 31)))), (11, .int (nI j180_))]) hx hb dX9_reaches_239 hl (by decide) rfl (fun ls hl => ?_)
                    refine lv_iload hx hb dX9_reaches_241 (lv_at hl 0 rfl) ?_
                    refine lv_if_lt (tgt := 269) hx hb dX9_reaches_243 (by decide) (fun c_110 => ?_) (fun c_110 => ?_)
                    rotate_left
                    · exact absurd (by decide : (((-1) : Int32) < 0)) c_110
                    refine lv_iload hx hb dX9_reaches_269 (lv_at hl 10 rfl) ?_
                    refine lv_istore (lv' := [(9, .int a180_0), (12, .int (-1)), (0, .ref m0), (1, .int p0), (2, .int p1), (3, .int a17_0), (4, .int (nI j17_)), (5, .int 1), (6, .int (f_X9_shades mTo mSt p0 (nI j17_))), (7, .int (nI j85_)), (8, .int 1), (10, .int ((nI j17_) ^^^ ((1 : Int32) <<< ((nI j85_) &&& 31)))), (11, .int (nI j180_))]) hx hb dX9_reaches_271 hl (by decide) rfl (fun ls hl => ?_)
                    refine lv_iinc (v := (nI (j180_ + 1))) (lv' := [(11, .int (nI (j180_ + 1))), (9, .int a180_0), (12, .int (-1)), (0, .ref m0), (1, .int p0), (2, .int p1), (3, .int a17_0), (4, .int (nI j17_)), (5, .int 1), (6, .int (f_X9_shades mTo mSt p0 (nI j17_))), (7, .int (nI j85_)), (8, .int 1), (10, .int ((nI j17_) ^^^ ((1 : Int32) <<< ((nI j85_) &&& 31))))]) hx hb dX9_reaches_273 hl (k := 12) rfl (nI_1 _) (by decide) rfl (fun ls hl => ?_)
                    refine lv_goto (tgt := 180) hx hb dX9_reaches_276 (by decide) ?_
                    exact ih180_ (j180_ + 1) a180_0 (by omega) (by rw [← hv180_]; simp only [L_X9_reaches_180, if_neg c_104, if_pos c_107, if_neg c_109, if_pos (by decide : (((-1) : Int32) < 0)), if_pos trivial, if_neg not_false]) _ _ hP hD hS _ (lv_sub hl [3, 4, 5, 6, 7, 8, 9, 10, 11, 1, 12, 0] rfl)
                  refine lv_aload_n hx hb dX9_reaches_222 rfl (lv_at hl 0 rfl) ?_
                  refine va_get (D := D) (ci := 9) (v := .ref m10) (C := RX9) (T := TX9) (N := 20) hx hb hts hinX9 hown hK hP 0 rfl rfl 17 (by decide) hf37 (fun _ h9 => h9) rfl dX9_reaches_223 ?_
                  refine lv_bipush (v := 6) hx hb dX9_reaches_226 (by decide) ?_
                  refine lv_iload hx hb dX9_reaches_228 (lv_at hl 10 rfl) ?_
                  refine lv_imul hx hb dX9_reaches_230 ?_
                  refine lv_iload hx hb dX9_reaches_231 (lv_at hl 11 rfl) ?_
                  refine lv_iadd hx hb dX9_reaches_233 ?_
                  refine q_iald hx hb hK hP 10 0 rfl rfl (fw_in (left_in (by omega) (by omega)) (by omega)) (Int32.toNatClampNeg ((6 * ((nI j17_) ^^^ ((1 : Int32) <<< ((nI j85_) &&& 31)))) + (nI j180_))) rfl dX9_reaches_234 ?_
                  refine lv_goto (tgt := 239) hx hb dX9_reaches_235 (by decide) ?_
                  refine lv_istore (lv' := [(12, .int ((F_X9_reaches_85 p0 1 j17_ mTo mSt a17_1 j85_) (Int32.toNatClampNeg ((6 * ((nI j17_) ^^^ ((1 : Int32) <<< ((nI j85_) &&& 31)))) + (nI j180_))))), (0, .ref m0), (1, .int p0), (2, .int p1), (3, .int a17_0), (4, .int (nI j17_)), (5, .int 1), (6, .int (f_X9_shades mTo mSt p0 (nI j17_))), (7, .int (nI j85_)), (8, .int 1), (9, .int a180_0), (10, .int ((nI j17_) ^^^ ((1 : Int32) <<< ((nI j85_) &&& 31)))), (11, .int (nI j180_))]) hx hb dX9_reaches_239 hl (by decide) rfl (fun ls hl => ?_)
                  refine lv_iload hx hb dX9_reaches_241 (lv_at hl 0 rfl) ?_
                  refine lv_if_lt (tgt := 269) hx hb dX9_reaches_243 (by decide) (fun c_111 => ?_) (fun c_111 => ?_)
                  · refine lv_iload hx hb dX9_reaches_269 (lv_at hl 10 rfl) ?_
                    refine lv_istore (lv' := [(9, .int a180_0), (12, .int ((F_X9_reaches_85 p0 1 j17_ mTo mSt a17_1 j85_) (Int32.toNatClampNeg ((6 * ((nI j17_) ^^^ ((1 : Int32) <<< ((nI j85_) &&& 31)))) + (nI j180_))))), (0, .ref m0), (1, .int p0), (2, .int p1), (3, .int a17_0), (4, .int (nI j17_)), (5, .int 1), (6, .int (f_X9_shades mTo mSt p0 (nI j17_))), (7, .int (nI j85_)), (8, .int 1), (10, .int ((nI j17_) ^^^ ((1 : Int32) <<< ((nI j85_) &&& 31)))), (11, .int (nI j180_))]) hx hb dX9_reaches_271 hl (by decide) rfl (fun ls hl => ?_)
                    refine lv_iinc (v := (nI (j180_ + 1))) (lv' := [(11, .int (nI (j180_ + 1))), (9, .int a180_0), (12, .int ((F_X9_reaches_85 p0 1 j17_ mTo mSt a17_1 j85_) (Int32.toNatClampNeg ((6 * ((nI j17_) ^^^ ((1 : Int32) <<< ((nI j85_) &&& 31)))) + (nI j180_))))), (0, .ref m0), (1, .int p0), (2, .int p1), (3, .int a17_0), (4, .int (nI j17_)), (5, .int 1), (6, .int (f_X9_shades mTo mSt p0 (nI j17_))), (7, .int (nI j85_)), (8, .int 1), (10, .int ((nI j17_) ^^^ ((1 : Int32) <<< ((nI j85_) &&& 31))))]) hx hb dX9_reaches_273 hl (k := 12) rfl (nI_1 _) (by decide) rfl (fun ls hl => ?_)
                    refine lv_goto (tgt := 180) hx hb dX9_reaches_276 (by decide) ?_
                    exact ih180_ (j180_ + 1) a180_0 (by omega) (by rw [← hv180_]; simp only [L_X9_reaches_180, if_neg c_104, if_pos c_107, if_pos c_109, if_pos c_111]) _ _ hP hD hS _ (lv_sub hl [3, 4, 5, 6, 7, 8, 9, 10, 11, 1, 12, 0] rfl)
                  refine lv_iload hx hb dX9_reaches_246 (lv_at hl 10 rfl) ?_
                  refine lv_if_lt (tgt := 261) hx hb dX9_reaches_248 (by decide) (fun c_112 => ?_) (fun c_112 => ?_)
                  · refine lv_iload hx hb dX9_reaches_261 (lv_at hl 0 rfl) ?_
                    refine lv_iload hx hb dX9_reaches_263 (lv_at hl 9 rfl) ?_
                    refine lv_iadd hx hb dX9_reaches_265 ?_
                    refine lv_goto (tgt := 271) hx hb dX9_reaches_266 (by decide) ?_
                    refine lv_istore (lv' := [(9, .int (((F_X9_reaches_85 p0 1 j17_ mTo mSt a17_1 j85_) (Int32.toNatClampNeg ((6 * ((nI j17_) ^^^ ((1 : Int32) <<< ((nI j85_) &&& 31)))) + (nI j180_)))) + 1)), (12, .int ((F_X9_reaches_85 p0 1 j17_ mTo mSt a17_1 j85_) (Int32.toNatClampNeg ((6 * ((nI j17_) ^^^ ((1 : Int32) <<< ((nI j85_) &&& 31)))) + (nI j180_))))), (0, .ref m0), (1, .int p0), (2, .int p1), (3, .int a17_0), (4, .int (nI j17_)), (5, .int 1), (6, .int (f_X9_shades mTo mSt p0 (nI j17_))), (7, .int (nI j85_)), (8, .int 1), (10, .int ((nI j17_) ^^^ ((1 : Int32) <<< ((nI j85_) &&& 31)))), (11, .int (nI j180_))]) hx hb dX9_reaches_271 hl (by decide) rfl (fun ls hl => ?_)
                    refine lv_iinc (v := (nI (j180_ + 1))) (lv' := [(11, .int (nI (j180_ + 1))), (9, .int (((F_X9_reaches_85 p0 1 j17_ mTo mSt a17_1 j85_) (Int32.toNatClampNeg ((6 * ((nI j17_) ^^^ ((1 : Int32) <<< ((nI j85_) &&& 31)))) + (nI j180_)))) + 1)), (12, .int ((F_X9_reaches_85 p0 1 j17_ mTo mSt a17_1 j85_) (Int32.toNatClampNeg ((6 * ((nI j17_) ^^^ ((1 : Int32) <<< ((nI j85_) &&& 31)))) + (nI j180_))))), (0, .ref m0), (1, .int p0), (2, .int p1), (3, .int a17_0), (4, .int (nI j17_)), (5, .int 1), (6, .int (f_X9_shades mTo mSt p0 (nI j17_))), (7, .int (nI j85_)), (8, .int 1), (10, .int ((nI j17_) ^^^ ((1 : Int32) <<< ((nI j85_) &&& 31))))]) hx hb dX9_reaches_273 hl (k := 12) rfl (nI_1 _) (by decide) rfl (fun ls hl => ?_)
                    refine lv_goto (tgt := 180) hx hb dX9_reaches_276 (by decide) ?_
                    exact ih180_ (j180_ + 1) (((F_X9_reaches_85 p0 1 j17_ mTo mSt a17_1 j85_) (Int32.toNatClampNeg ((6 * ((nI j17_) ^^^ ((1 : Int32) <<< ((nI j85_) &&& 31)))) + (nI j180_)))) + 1) (by omega) (by rw [← hv180_]; simp only [L_X9_reaches_180, if_neg c_104, if_pos c_107, if_pos c_109, if_neg c_111, if_pos c_112]) _ _ hP hD hS _ (lv_sub hl [3, 4, 5, 6, 7, 8, 9, 10, 11, 1, 12, 0] rfl)
                  refine lv_iload hx hb dX9_reaches_251 (lv_at hl 0 rfl) ?_
                  refine lv_iload hx hb dX9_reaches_253 (lv_at hl 9 rfl) ?_
                  refine lv_iadd hx hb dX9_reaches_255 ?_
                  refine lv_iload hx hb dX9_reaches_256 (lv_at hl 10 rfl) ?_
                  refine lv_icmp_ge (tgt := 269) hx hb dX9_reaches_258 (by decide) (fun c_113 => ?_) (fun c_113 => ?_)
                  · refine lv_iload hx hb dX9_reaches_269 (lv_at hl 10 rfl) ?_
                    refine lv_istore (lv' := [(9, .int a180_0), (12, .int ((F_X9_reaches_85 p0 1 j17_ mTo mSt a17_1 j85_) (Int32.toNatClampNeg ((6 * ((nI j17_) ^^^ ((1 : Int32) <<< ((nI j85_) &&& 31)))) + (nI j180_))))), (0, .ref m0), (1, .int p0), (2, .int p1), (3, .int a17_0), (4, .int (nI j17_)), (5, .int 1), (6, .int (f_X9_shades mTo mSt p0 (nI j17_))), (7, .int (nI j85_)), (8, .int 1), (10, .int ((nI j17_) ^^^ ((1 : Int32) <<< ((nI j85_) &&& 31)))), (11, .int (nI j180_))]) hx hb dX9_reaches_271 hl (by decide) rfl (fun ls hl => ?_)
                    refine lv_iinc (v := (nI (j180_ + 1))) (lv' := [(11, .int (nI (j180_ + 1))), (9, .int a180_0), (12, .int ((F_X9_reaches_85 p0 1 j17_ mTo mSt a17_1 j85_) (Int32.toNatClampNeg ((6 * ((nI j17_) ^^^ ((1 : Int32) <<< ((nI j85_) &&& 31)))) + (nI j180_))))), (0, .ref m0), (1, .int p0), (2, .int p1), (3, .int a17_0), (4, .int (nI j17_)), (5, .int 1), (6, .int (f_X9_shades mTo mSt p0 (nI j17_))), (7, .int (nI j85_)), (8, .int 1), (10, .int ((nI j17_) ^^^ ((1 : Int32) <<< ((nI j85_) &&& 31))))]) hx hb dX9_reaches_273 hl (k := 12) rfl (nI_1 _) (by decide) rfl (fun ls hl => ?_)
                    refine lv_goto (tgt := 180) hx hb dX9_reaches_276 (by decide) ?_
                    exact ih180_ (j180_ + 1) a180_0 (by omega) (by rw [← hv180_]; simp only [L_X9_reaches_180, if_neg c_104, if_pos c_107, if_pos c_109, if_neg c_111, if_neg c_112, if_pos c_113]) _ _ hP hD hS _ (lv_sub hl [3, 4, 5, 6, 7, 8, 9, 10, 11, 1, 12, 0] rfl)
                  refine lv_iload hx hb dX9_reaches_261 (lv_at hl 0 rfl) ?_
                  refine lv_iload hx hb dX9_reaches_263 (lv_at hl 9 rfl) ?_
                  refine lv_iadd hx hb dX9_reaches_265 ?_
                  refine lv_goto (tgt := 271) hx hb dX9_reaches_266 (by decide) ?_
                  refine lv_istore (lv' := [(9, .int (((F_X9_reaches_85 p0 1 j17_ mTo mSt a17_1 j85_) (Int32.toNatClampNeg ((6 * ((nI j17_) ^^^ ((1 : Int32) <<< ((nI j85_) &&& 31)))) + (nI j180_)))) + 1)), (12, .int ((F_X9_reaches_85 p0 1 j17_ mTo mSt a17_1 j85_) (Int32.toNatClampNeg ((6 * ((nI j17_) ^^^ ((1 : Int32) <<< ((nI j85_) &&& 31)))) + (nI j180_))))), (0, .ref m0), (1, .int p0), (2, .int p1), (3, .int a17_0), (4, .int (nI j17_)), (5, .int 1), (6, .int (f_X9_shades mTo mSt p0 (nI j17_))), (7, .int (nI j85_)), (8, .int 1), (10, .int ((nI j17_) ^^^ ((1 : Int32) <<< ((nI j85_) &&& 31)))), (11, .int (nI j180_))]) hx hb dX9_reaches_271 hl (by decide) rfl (fun ls hl => ?_)
                  refine lv_iinc (v := (nI (j180_ + 1))) (lv' := [(11, .int (nI (j180_ + 1))), (9, .int (((F_X9_reaches_85 p0 1 j17_ mTo mSt a17_1 j85_) (Int32.toNatClampNeg ((6 * ((nI j17_) ^^^ ((1 : Int32) <<< ((nI j85_) &&& 31)))) + (nI j180_)))) + 1)), (12, .int ((F_X9_reaches_85 p0 1 j17_ mTo mSt a17_1 j85_) (Int32.toNatClampNeg ((6 * ((nI j17_) ^^^ ((1 : Int32) <<< ((nI j85_) &&& 31)))) + (nI j180_))))), (0, .ref m0), (1, .int p0), (2, .int p1), (3, .int a17_0), (4, .int (nI j17_)), (5, .int 1), (6, .int (f_X9_shades mTo mSt p0 (nI j17_))), (7, .int (nI j85_)), (8, .int 1), (10, .int ((nI j17_) ^^^ ((1 : Int32) <<< ((nI j85_) &&& 31))))]) hx hb dX9_reaches_273 hl (k := 12) rfl (nI_1 _) (by decide) rfl (fun ls hl => ?_)
                  refine lv_goto (tgt := 180) hx hb dX9_reaches_276 (by decide) ?_
                  exact ih180_ (j180_ + 1) (((F_X9_reaches_85 p0 1 j17_ mTo mSt a17_1 j85_) (Int32.toNatClampNeg ((6 * ((nI j17_) ^^^ ((1 : Int32) <<< ((nI j85_) &&& 31)))) + (nI j180_)))) + 1) (by omega) (by rw [← hv180_]; simp only [L_X9_reaches_180, if_neg c_104, if_pos c_107, if_pos c_109, if_neg c_111, if_neg c_112, if_neg c_113]) _ _ hP hD hS _ (lv_sub hl [3, 4, 5, 6, 7, 8, 9, 10, 11, 1, 12, 0] rfl)
              exact loop180_ (Int32.toNatClampNeg (mTo 0)) 0 (-1) (by omega) rfl _ _ hP hD hS _ (lv_sub hl [4, 5, 6, 7, 8, 9, 10, 11, 3, 1, 2, 0] rfl)
            refine lv_aload_n hx hb dX9_reaches_150 rfl (lv_at hl 3 rfl) ?_
            refine lv_iload hx hb dX9_reaches_151 (lv_at hl 10 rfl) ?_
            refine ro_i (va_runV (As := [.int (nI j85_)]) (rest := []) ⟨hx, hb, hml, hown, hts⟩ (c_X9_met l D cI cC cG m0 m1 m2 m3 m4 m5 m6 m7 m8 m9 m10 m11 m12 mTy mKn mKe mCa mSe mAt mFi mSc mTx mTo mDr mSt mPa mIm mWi mSn mHe (F_X9_reaches_85 p0 1 j17_ mTo mSt a17_1 j85_) mRo mBe (nI j85_) hM (vp_in_nI (by omega) (by decide))) (cwV 1 hts gX9_reaches_X9_met rfl rfl rfl (by decide +kernel) ⟨Nat.le_of_ble_eq_true rfl, Nat.le_of_ble_eq_true rfl⟩) (q_preV hK hP hN [0, 1, 2, 3, 4, 5, 6, 7, 8, 9, 10, 11, 12] rfl (ci := 9) (q0 := 0) rfl rfl) rfl rfl hl.1 rfl (lv_room (Nat.le_of_ble_eq_true rfl)) dX9_reaches_153 ⟨Nat.zero_le _, Nat.zero_le _⟩) hS hP (fun H locs hP hS => ?_)
            refine lv_aload_n hx hb dX9_reaches_156 rfl (lv_at hl 3 rfl) ?_
            refine va_get (D := D) (ci := 9) (v := .ref m4) (C := RX9) (T := TX9) (N := 20) hx hb hts hinX9 hown hK hP 0 rfl rfl 4 (by decide) hf19 (fun _ h9 => h9) rfl dX9_reaches_157 ?_
            refine lv_bipush (v := 6) hx hb dX9_reaches_160 (by decide) ?_
            refine lv_iload_n hx hb dX9_reaches_162 rfl (lv_at hl 4 rfl) ?_
            refine lv_iadd hx hb dX9_reaches_163 ?_
            refine q_iald hx hb hK hP 4 0 rfl rfl (in_add 6 (n := 8) hk (by decide) (by decide)) (6 + (Int32.toNatClampNeg p0)) (in_addc 6 (n := 8) (N := 1000) hk (by decide) (by decide)) dX9_reaches_164 ?_
            refine lv_iand hx hb dX9_reaches_165 ?_
            refine lv_if_eq (tgt := 174) hx hb dX9_reaches_166 (by decide) (fun c_114 => ?_) (fun c_114 => ?_)
            · refine lv_iconst (v := (-1)) hx hb dX9_reaches_174 (by decide) ?_
              refine lv_istore (lv' := [(9, .int (-1)), (10, .int ((nI j17_) ^^^ ((1 : Int32) <<< ((nI j85_) &&& 31)))), (8, .int 1), (0, .ref m0), (1, .int p0), (2, .int p1), (3, .int a17_0), (4, .int (nI j17_)), (5, .int 1), (6, .int (f_X9_shades mTo mSt p0 (nI j17_))), (7, .int (nI j85_))]) hx hb dX9_reaches_175 hl (by decide) rfl (fun ls hl => ?_)
              refine lv_iconst (v := 0) hx hb dX9_reaches_177 (by decide) ?_
              refine lv_istore (lv' := [(11, .int 0), (9, .int (-1)), (10, .int ((nI j17_) ^^^ ((1 : Int32) <<< ((nI j85_) &&& 31)))), (8, .int 1), (0, .ref m0), (1, .int p0), (2, .int p1), (3, .int a17_0), (4, .int (nI j17_)), (5, .int 1), (6, .int (f_X9_shades mTo mSt p0 (nI j17_))), (7, .int (nI j85_))]) hx hb dX9_reaches_178 hl (by decide) rfl (fun ls hl => ?_)
              have K180_ : ∀ (H : Heap) (locs : List Loc), va_P D vwCl [(m0, .inr (9, [.ref m1, .int (nI mTy), .ref m2, .ref m3, .ref m4, .ref m5, .int (nI mKn), .ref m6, .int (nI mKe), .ref m7, .int (nI mCa), .ref m8, .int (nI mSe), .int (nI mAt), .int mFi, .int mSc, .ref m9, .ref m10, .ref m11, .ref m12])), (m1, .inl (cI, 200, .inl mTx)), (m2, .inl (cI, 37, .inl mTo)), (m3, .inl (cI, 37, .inl mDr)), (m4, .inl (cI, 15, .inl mSt)), (m5, .inl (cI, 120, .inl mPa)), (m6, .inl (cI, 30, .inl mIm)), (m7, .inl (cI, 5, .inl mWi)), (m8, .inl (cI, 6, .inl mSn)), (m9, .inl (cI, 15, .inl mHe)), (m10, .inl (cI, 384, .inl (F_X9_reaches_85 p0 1 j17_ mTo mSt a17_1 j85_))), (m11, .inl (cI, 5, .inl mRo)), (m12, .inl (cI, 5, .inl mBe))] H → va_D (va_A (wM cI cC cG m0 m1 m2 m3 m4 m5 m6 m7 m8 m9 m10 m11 m12 mTy mKn mKe mCa mSe mAt mFi mSc mTx mTo mDr mSt mPa mIm mWi mSn mHe mFw mRo mBe) sz) [(m0, .inr (9, [.ref m1, .int (nI mTy), .ref m2, .ref m3, .ref m4, .ref m5, .int (nI mKn), .ref m6, .int (nI mKe), .ref m7, .int (nI mCa), .ref m8, .int (nI mSe), .int (nI mAt), .int mFi, .int mSc, .ref m9, .ref m10, .ref m11, .ref m12])), (m1, .inl (cI, 200, .inl mTx)), (m2, .inl (cI, 37, .inl mTo)), (m3, .inl (cI, 37, .inl mDr)), (m4, .inl (cI, 15, .inl mSt)), (m5, .inl (cI, 120, .inl mPa)), (m6, .inl (cI, 30, .inl mIm)), (m7, .inl (cI, 5, .inl mWi)), (m8, .inl (cI, 6, .inl mSn)), (m9, .inl (cI, 15, .inl mHe)), (m10, .inl (cI, 384, .inl (F_X9_reaches_85 p0 1 j17_ mTo mSt a17_1 j85_))), (m11, .inl (cI, 5, .inl mRo)), (m12, .inl (cI, 5, .inl mBe))] → va_S (va_A (wM cI cC cG m0 m1 m2 m3 m4 m5 m6 m7 m8 m9 m10 m11 m12 mTy mKn mKe mCa mSe mAt mFi mSc mTx mTo mDr mSt mPa mIm mWi mSn mHe mFw mRo mBe) sz) s.heap H locs → ∀ ls : Array Slot, lv_has ls 13 [(0, .ref m0), (1, .int p0), (2, .int p1), (3, .int a17_0), (4, .int (nI j17_)), (5, .int 1), (6, .int (f_X9_shades mTo mSt p0 (nI j17_))), (7, .int (nI j85_)), (9, .int (L_X9_reaches_180 1 ((nI j17_) ^^^ ((1 : Int32) <<< ((nI j85_) &&& 31))) j85_ mTo mSt (F_X9_reaches_85 p0 1 j17_ mTo mSt a17_1 j85_) (Int32.toNatClampNeg (mTo 0)) 0 (-1)))] → W p l e rm_X9_reaches s m ([.ref m0, .int p0, .int p1] : List Value).toArray below meth c H locs 0 0 (MQ below (q_QWi D (wM cI cC cG m0 m1 m2 m3 m4 m5 m6 m7 m8 m9 m10 m11 m12 mTy mKn mKe mCa mSe mAt mFi mSc mTx mTo mDr mSt mPa mIm mWi mSn mHe mFw mRo mBe) (wM cI cC cG m0 m1 m2 m3 m4 m5 m6 m7 m8 m9 m10 m11 m12 mTy mKn mKe mCa mSe mAt mFi mSc mTx mTo mDr mSt mPa mIm mWi mSn mHe (g_X9_reaches_mFw mTo mSt mFw p0 p1) mRo mBe) sz (f_X9_reaches mTo mSt mFw p0 p1)) ([.ref m0, .int p0, .int p1] : List Value).toArray s 0 0 (va_A (wM cI cC cG m0 m1 m2 m3 m4 m5 m6 m7 m8 m9 m10 m11 m12 mTy mKn mKe mCa mSe mAt mFi mSc mTx mTo mDr mSt mPa mIm mWi mSn mHe mFw mRo mBe) sz)) (F0 m 279 ls []) := by
                intro H locs hP hD hS ls hl
                refine lv_aload_n hx hb dX9_reaches_279 rfl (lv_at hl 0 rfl) ?_
                refine va_get (D := D) (ci := 9) (v := .ref m10) (C := RX9) (T := TX9) (N := 20) hx hb hts hinX9 hown hK hP 0 rfl rfl 17 (by decide) hf37 (fun _ h9 => h9) rfl dX9_reaches_280 ?_
                refine lv_bipush (v := 6) hx hb dX9_reaches_283 (by decide) ?_
                refine lv_iload hx hb dX9_reaches_285 (lv_at hl 4 rfl) ?_
                refine q_imulN (a := 6) (b := j17_) hx hb dX9_reaches_287 ?_
                refine lv_iload hx hb dX9_reaches_288 (lv_at hl 7 rfl) ?_
                refine q_iaddN (a := (6 * j17_)) (b := j85_) hx hb dX9_reaches_290 ?_
                refine lv_iload hx hb dX9_reaches_291 (lv_at hl 8 rfl) ?_
                refine q_iast hx hb hK hP hD hS 10 0 rfl rfl (vp_in_nI (by omega) (by decide)) ((6 * j17_) + j85_) (nI_clamp (by omega)) dX9_reaches_293 (fun H locs hP hD hS => ?_)
                have hP : va_P D vwCl [(m0, .inr (9, [.ref m1, .int (nI mTy), .ref m2, .ref m3, .ref m4, .ref m5, .int (nI mKn), .ref m6, .int (nI mKe), .ref m7, .int (nI mCa), .ref m8, .int (nI mSe), .int (nI mAt), .int mFi, .int mSc, .ref m9, .ref m10, .ref m11, .ref m12])), (m1, .inl (cI, 200, .inl mTx)), (m2, .inl (cI, 37, .inl mTo)), (m3, .inl (cI, 37, .inl mDr)), (m4, .inl (cI, 15, .inl mSt)), (m5, .inl (cI, 120, .inl mPa)), (m6, .inl (cI, 30, .inl mIm)), (m7, .inl (cI, 5, .inl mWi)), (m8, .inl (cI, 6, .inl mSn)), (m9, .inl (cI, 15, .inl mHe)), (m10, .inl (cI, 384, .inl (upd (F_X9_reaches_85 p0 1 j17_ mTo mSt a17_1 j85_) ((6 * j17_) + j85_) (L_X9_reaches_180 1 ((nI j17_) ^^^ ((1 : Int32) <<< ((nI j85_) &&& 31))) j85_ mTo mSt (F_X9_reaches_85 p0 1 j17_ mTo mSt a17_1 j85_) (Int32.toNatClampNeg (mTo 0)) 0 (-1))))), (m11, .inl (cI, 5, .inl mRo)), (m12, .inl (cI, 5, .inl mBe))] H := hP
                have hD : va_D (va_A (wM cI cC cG m0 m1 m2 m3 m4 m5 m6 m7 m8 m9 m10 m11 m12 mTy mKn mKe mCa mSe mAt mFi mSc mTx mTo mDr mSt mPa mIm mWi mSn mHe mFw mRo mBe) sz) [(m0, .inr (9, [.ref m1, .int (nI mTy), .ref m2, .ref m3, .ref m4, .ref m5, .int (nI mKn), .ref m6, .int (nI mKe), .ref m7, .int (nI mCa), .ref m8, .int (nI mSe), .int (nI mAt), .int mFi, .int mSc, .ref m9, .ref m10, .ref m11, .ref m12])), (m1, .inl (cI, 200, .inl mTx)), (m2, .inl (cI, 37, .inl mTo)), (m3, .inl (cI, 37, .inl mDr)), (m4, .inl (cI, 15, .inl mSt)), (m5, .inl (cI, 120, .inl mPa)), (m6, .inl (cI, 30, .inl mIm)), (m7, .inl (cI, 5, .inl mWi)), (m8, .inl (cI, 6, .inl mSn)), (m9, .inl (cI, 15, .inl mHe)), (m10, .inl (cI, 384, .inl (upd (F_X9_reaches_85 p0 1 j17_ mTo mSt a17_1 j85_) ((6 * j17_) + j85_) (L_X9_reaches_180 1 ((nI j17_) ^^^ ((1 : Int32) <<< ((nI j85_) &&& 31))) j85_ mTo mSt (F_X9_reaches_85 p0 1 j17_ mTo mSt a17_1 j85_) (Int32.toNatClampNeg (mTo 0)) 0 (-1))))), (m11, .inl (cI, 5, .inl mRo)), (m12, .inl (cI, 5, .inl mBe))] := hD
                refine lv_iinc (v := (nI (j85_ + 1))) (lv' := [(7, .int (nI (j85_ + 1))), (0, .ref m0), (1, .int p0), (2, .int p1), (3, .int a17_0), (4, .int (nI j17_)), (5, .int 1), (6, .int (f_X9_shades mTo mSt p0 (nI j17_))), (9, .int (L_X9_reaches_180 1 ((nI j17_) ^^^ ((1 : Int32) <<< ((nI j85_) &&& 31))) j85_ mTo mSt (F_X9_reaches_85 p0 1 j17_ mTo mSt a17_1 j85_) (Int32.toNatClampNeg (mTo 0)) 0 (-1)))]) hx hb dX9_reaches_294 hl (k := 7) rfl (nI_1 _) (by decide) rfl (fun ls hl => ?_)
                refine lv_goto (tgt := 85) hx hb dX9_reaches_297 (by decide) ?_
                have e_115 : (F_X9_reaches_85 p0 1 j17_ mTo mSt a17_1 (j85_ + 1)) = (upd (F_X9_reaches_85 p0 1 j17_ mTo mSt a17_1 j85_) ((6 * j17_) + j85_) (L_X9_reaches_180 1 ((nI j17_) ^^^ ((1 : Int32) <<< ((nI j85_) &&& 31))) j85_ mTo mSt (F_X9_reaches_85 p0 1 j17_ mTo mSt a17_1 j85_) (Int32.toNatClampNeg (mTo 0)) 0 (-1))) := by simp only [F_X9_reaches_85, if_pos c_44, if_neg (by decide : ¬ ((1 : Int32) = 0)), if_pos c_96, if_pos c_98, if_pos c_114, if_pos trivial, if_neg not_false]
                exact ih85_ (j85_ + 1) (by omega) _ _ (by rw [e_115]; exact hP) (by rw [e_115]; exact hD) hS _ (lv_sub hl [1, 2, 3, 4, 5, 6, 7, 0] rfl)
              have loop180_ : ∀ (n180_ j180_ : Nat) (a180_0 : Int32), j180_ + n180_ = (Int32.toNatClampNeg (mTo 0)) → (L_X9_reaches_180 1 ((nI j17_) ^^^ ((1 : Int32) <<< ((nI j85_) &&& 31))) j85_ mTo mSt (F_X9_reaches_85 p0 1 j17_ mTo mSt a17_1 j85_) n180_ j180_ a180_0) = (L_X9_reaches_180 1 ((nI j17_) ^^^ ((1 : Int32) <<< ((nI j85_) &&& 31))) j85_ mTo mSt (F_X9_reaches_85 p0 1 j17_ mTo mSt a17_1 j85_) (Int32.toNatClampNeg (mTo 0)) 0 (-1)) → ∀ (H : Heap) (locs : List Loc), va_P D vwCl [(m0, .inr (9, [.ref m1, .int (nI mTy), .ref m2, .ref m3, .ref m4, .ref m5, .int (nI mKn), .ref m6, .int (nI mKe), .ref m7, .int (nI mCa), .ref m8, .int (nI mSe), .int (nI mAt), .int mFi, .int mSc, .ref m9, .ref m10, .ref m11, .ref m12])), (m1, .inl (cI, 200, .inl mTx)), (m2, .inl (cI, 37, .inl mTo)), (m3, .inl (cI, 37, .inl mDr)), (m4, .inl (cI, 15, .inl mSt)), (m5, .inl (cI, 120, .inl mPa)), (m6, .inl (cI, 30, .inl mIm)), (m7, .inl (cI, 5, .inl mWi)), (m8, .inl (cI, 6, .inl mSn)), (m9, .inl (cI, 15, .inl mHe)), (m10, .inl (cI, 384, .inl (F_X9_reaches_85 p0 1 j17_ mTo mSt a17_1 j85_))), (m11, .inl (cI, 5, .inl mRo)), (m12, .inl (cI, 5, .inl mBe))] H → va_D (va_A (wM cI cC cG m0 m1 m2 m3 m4 m5 m6 m7 m8 m9 m10 m11 m12 mTy mKn mKe mCa mSe mAt mFi mSc mTx mTo mDr mSt mPa mIm mWi mSn mHe mFw mRo mBe) sz) [(m0, .inr (9, [.ref m1, .int (nI mTy), .ref m2, .ref m3, .ref m4, .ref m5, .int (nI mKn), .ref m6, .int (nI mKe), .ref m7, .int (nI mCa), .ref m8, .int (nI mSe), .int (nI mAt), .int mFi, .int mSc, .ref m9, .ref m10, .ref m11, .ref m12])), (m1, .inl (cI, 200, .inl mTx)), (m2, .inl (cI, 37, .inl mTo)), (m3, .inl (cI, 37, .inl mDr)), (m4, .inl (cI, 15, .inl mSt)), (m5, .inl (cI, 120, .inl mPa)), (m6, .inl (cI, 30, .inl mIm)), (m7, .inl (cI, 5, .inl mWi)), (m8, .inl (cI, 6, .inl mSn)), (m9, .inl (cI, 15, .inl mHe)), (m10, .inl (cI, 384, .inl (F_X9_reaches_85 p0 1 j17_ mTo mSt a17_1 j85_))), (m11, .inl (cI, 5, .inl mRo)), (m12, .inl (cI, 5, .inl mBe))] → va_S (va_A (wM cI cC cG m0 m1 m2 m3 m4 m5 m6 m7 m8 m9 m10 m11 m12 mTy mKn mKe mCa mSe mAt mFi mSc mTx mTo mDr mSt mPa mIm mWi mSn mHe mFw mRo mBe) sz) s.heap H locs → ∀ ls : Array Slot, lv_has ls 13 [(0, .ref m0), (1, .int p0), (2, .int p1), (3, .int a17_0), (4, .int (nI j17_)), (5, .int 1), (6, .int (f_X9_shades mTo mSt p0 (nI j17_))), (7, .int (nI j85_)), (8, .int 1), (9, .int a180_0), (10, .int ((nI j17_) ^^^ ((1 : Int32) <<< ((nI j85_) &&& 31)))), (11, .int (nI j180_))] → W p l e rm_X9_reaches s m ([.ref m0, .int p0, .int p1] : List Value).toArray below meth c H locs 0 0 (MQ below (q_QWi D (wM cI cC cG m0 m1 m2 m3 m4 m5 m6 m7 m8 m9 m10 m11 m12 mTy mKn mKe mCa mSe mAt mFi mSc mTx mTo mDr mSt mPa mIm mWi mSn mHe mFw mRo mBe) (wM cI cC cG m0 m1 m2 m3 m4 m5 m6 m7 m8 m9 m10 m11 m12 mTy mKn mKe mCa mSe mAt mFi mSc mTx mTo mDr mSt mPa mIm mWi mSn mHe (g_X9_reaches_mFw mTo mSt mFw p0 p1) mRo mBe) sz (f_X9_reaches mTo mSt mFw p0 p1)) ([.ref m0, .int p0, .int p1] : List Value).toArray s 0 0 (va_A (wM cI cC cG m0 m1 m2 m3 m4 m5 m6 m7 m8 m9 m10 m11 m12 mTy mKn mKe mCa mSe mAt mFi mSc mTx mTo mDr mSt mPa mIm mWi mSn mHe mFw mRo mBe) sz)) (F0 m 180 ls []) := by
                intro n180_
                induction n180_ with
                | zero =>
                  intro j180_ a180_0 hj180_ hv180_ H locs hP hD hS ls hl
                  obtain rfl : j180_ = (Int32.toNatClampNeg (mTo 0)) := by omega
                  refine lv_iload hx hb dX9_reaches_180 (lv_at hl 11 rfl) ?_
                  refine lv_aload_n hx hb dX9_reaches_182 rfl (lv_at hl 0 rfl) ?_
                  refine va_get (D := D) (ci := 9) (v := .ref m2) (C := RX9) (T := TX9) (N := 20) hx hb hts hinX9 hown hK hP 0 rfl rfl 2 (by decide) hf13 (fun _ h9 => h9) rfl dX9_reaches_183 ?_
                  refine lv_iconst (v := 0) hx hb dX9_reaches_186 (by decide) ?_
                  refine q_iald hx hb hK hP 2 0 rfl rfl (vp_in_nI (n := 0) (N := 37) (by decide) (by decide)) 0 (by decide) dX9_reaches_187 ?_
                  refine lv_icmp_ge (tgt := 279) hx hb dX9_reaches_188 (by decide) (fun c_116 => ?_) (fun c_116 => ?_)
                  rotate_left
                  · exact absurd k_ge c_116
                  have e_117 : a180_0 = (L_X9_reaches_180 1 ((nI j17_) ^^^ ((1 : Int32) <<< ((nI j85_) &&& 31))) j85_ mTo mSt (F_X9_reaches_85 p0 1 j17_ mTo mSt a17_1 j85_) (Int32.toNatClampNeg (mTo 0)) 0 (-1)) := by rw [← hv180_]; simp only [L_X9_reaches_180]
                  have e_118 : a180_0 = (L_X9_reaches_180 1 ((nI j17_) ^^^ ((1 : Int32) <<< ((nI j85_) &&& 31))) j85_ mTo mSt (F_X9_reaches_85 p0 1 j17_ mTo mSt a17_1 j85_) (Int32.toNatClampNeg (mTo 0)) 0 (-1)) := e_117
                  exact K180_ _ _ hP hD hS _ (by rw [← e_118]; exact (lv_sub hl [0, 1, 2, 3, 4, 5, 6, 7, 9] rfl))
                | succ n180_ ih180_ =>
                  intro j180_ a180_0 hj180_ hv180_ H locs hP hD hS ls hl
                  refine lv_iload hx hb dX9_reaches_180 (lv_at hl 11 rfl) ?_
                  refine lv_aload_n hx hb dX9_reaches_182 rfl (lv_at hl 0 rfl) ?_
                  refine va_get (D := D) (ci := 9) (v := .ref m2) (C := RX9) (T := TX9) (N := 20) hx hb hts hinX9 hown hK hP 0 rfl rfl 2 (by decide) hf13 (fun _ h9 => h9) rfl dX9_reaches_183 ?_
                  refine lv_iconst (v := 0) hx hb dX9_reaches_186 (by decide) ?_
                  refine q_iald hx hb hK hP 2 0 rfl rfl (vp_in_nI (n := 0) (N := 37) (by decide) (by decide)) 0 (by decide) dX9_reaches_187 ?_
                  refine lv_icmp_ge (tgt := 279) hx hb dX9_reaches_188 (by decide) (fun c_119 => ?_) (fun c_119 => ?_)
                  · exact absurd c_119 (k_le (by omega))
                  refine lv_iload hx hb dX9_reaches_191 (lv_at hl 10 rfl) ?_
                  refine lv_if_eq (tgt := 279) hx hb dX9_reaches_193 (by decide) (fun c_120 => ?_) (fun c_120 => ?_)
                  · have e_121 : a180_0 = (L_X9_reaches_180 1 ((nI j17_) ^^^ ((1 : Int32) <<< ((nI j85_) &&& 31))) j85_ mTo mSt (F_X9_reaches_85 p0 1 j17_ mTo mSt a17_1 j85_) (Int32.toNatClampNeg (mTo 0)) 0 (-1)) := by rw [← hv180_]; simp only [L_X9_reaches_180, if_pos c_120]
                    have e_122 : a180_0 = (L_X9_reaches_180 1 ((nI j17_) ^^^ ((1 : Int32) <<< ((nI j85_) &&& 31))) j85_ mTo mSt (F_X9_reaches_85 p0 1 j17_ mTo mSt a17_1 j85_) (Int32.toNatClampNeg (mTo 0)) 0 (-1)) := e_121
                    exact K180_ _ _ hP hD hS _ (by rw [← e_122]; exact (lv_sub hl [0, 1, 2, 3, 4, 5, 6, 7, 9] rfl))
                  refine lv_iload hx hb dX9_reaches_196 (lv_at hl 10 rfl) ?_
                  refine lv_iload hx hb dX9_reaches_198 (lv_at hl 11 rfl) ?_
                  refine lv_ishr hx hb dX9_reaches_200 ?_
                  refine lv_iconst (v := 1) hx hb dX9_reaches_201 (by decide) ?_
                  refine lv_iand hx hb dX9_reaches_202 ?_
                  refine lv_iconst (v := 1) hx hb dX9_reaches_203 (by decide) ?_
                  refine lv_icmp_ne (tgt := 238) hx hb dX9_reaches_204 (by decide) (fun c_123 => ?_) (fun c_123 => ?_)
                  · refine lv_iconst (v := (-1)) hx hb dX9_reaches_238 (by decide) ?_
                    refine lv_istore (lv' := [(12, .int (-1)), (0, .ref m0), (1, .int p0), (2, .int p1), (3, .int a17_0), (4, .int (nI j17_)), (5, .int 1), (6, .int (f_X9_shades mTo mSt p0 (nI j17_))), (7, .int (nI j85_)), (8, .int 1), (9, .int a180_0), (10, .int ((nI j17_) ^^^ ((1 : Int32) <<< ((nI j85_) &&& 31)))), (11, .int (nI j180_))]) hx hb dX9_reaches_239 hl (by decide) rfl (fun ls hl => ?_)
                    refine lv_iload hx hb dX9_reaches_241 (lv_at hl 0 rfl) ?_
                    refine lv_if_lt (tgt := 269) hx hb dX9_reaches_243 (by decide) (fun c_124 => ?_) (fun c_124 => ?_)
                    rotate_left
                    · exact absurd (by decide : (((-1) : Int32) < 0)) c_124
                    refine lv_iload hx hb dX9_reaches_269 (lv_at hl 10 rfl) ?_
                    refine lv_istore (lv' := [(9, .int a180_0), (12, .int (-1)), (0, .ref m0), (1, .int p0), (2, .int p1), (3, .int a17_0), (4, .int (nI j17_)), (5, .int 1), (6, .int (f_X9_shades mTo mSt p0 (nI j17_))), (7, .int (nI j85_)), (8, .int 1), (10, .int ((nI j17_) ^^^ ((1 : Int32) <<< ((nI j85_) &&& 31)))), (11, .int (nI j180_))]) hx hb dX9_reaches_271 hl (by decide) rfl (fun ls hl => ?_)
                    refine lv_iinc (v := (nI (j180_ + 1))) (lv' := [(11, .int (nI (j180_ + 1))), (9, .int a180_0), (12, .int (-1)), (0, .ref m0), (1, .int p0), (2, .int p1), (3, .int a17_0), (4, .int (nI j17_)), (5, .int 1), (6, .int (f_X9_shades mTo mSt p0 (nI j17_))), (7, .int (nI j85_)), (8, .int 1), (10, .int ((nI j17_) ^^^ ((1 : Int32) <<< ((nI j85_) &&& 31))))]) hx hb dX9_reaches_273 hl (k := 12) rfl (nI_1 _) (by decide) rfl (fun ls hl => ?_)
                    refine lv_goto (tgt := 180) hx hb dX9_reaches_276 (by decide) ?_
                    exact ih180_ (j180_ + 1) a180_0 (by omega) (by rw [← hv180_]; simp only [L_X9_reaches_180, if_neg c_120, if_neg c_123, if_pos (by decide : (((-1) : Int32) < 0)), if_pos trivial, if_neg not_false]) _ _ hP hD hS _ (lv_sub hl [3, 4, 5, 6, 7, 8, 9, 10, 11, 1, 12, 0] rfl)
                  refine lv_aload_n hx hb dX9_reaches_207 rfl (lv_at hl 0 rfl) ?_
                  refine lv_iload hx hb dX9_reaches_208 (lv_at hl 7 rfl) ?_
                  refine ro_i (va_runV (As := [.int (nI j85_)]) (rest := []) ⟨hx, hb, hml, hown, hts⟩ (c_X9_met l D cI cC cG m0 m1 m2 m3 m4 m5 m6 m7 m8 m9 m10 m11 m12 mTy mKn mKe mCa mSe mAt mFi mSc mTx mTo mDr mSt mPa mIm mWi mSn mHe (F_X9_reaches_85 p0 1 j17_ mTo mSt a17_1 j85_) mRo mBe (nI j85_) hM (vp_in_nI (by omega) (by decide))) (cwV 1 hts gX9_reaches_X9_met rfl rfl rfl (by decide +kernel) ⟨Nat.le_of_ble_eq_true rfl, Nat.le_of_ble_eq_true rfl⟩) (q_preV hK hP hN [0, 1, 2, 3, 4, 5, 6, 7, 8, 9, 10, 11, 12] rfl (ci := 9) (q0 := 0) rfl rfl) rfl rfl hl.1 rfl (lv_room (Nat.le_of_ble_eq_true rfl)) dX9_reaches_210 ⟨Nat.zero_le _, Nat.zero_le _⟩) hS hP (fun H locs hP hS => ?_)
                  refine lv_iload hx hb dX9_reaches_213 (lv_at hl 11 rfl) ?_
                  refine lv_ishr hx hb dX9_reaches_215 ?_
                  refine lv_iconst (v := 1) hx hb dX9_reaches_216 (by decide) ?_
                  refine lv_iand hx hb dX9_reaches_217 ?_
                  refine lv_iconst (v := 1) hx hb dX9_reaches_218 (by decide) ?_
                  refine lv_icmp_ne (tgt := 238) hx hb dX9_reaches_219 (by decide) (fun c_125 => ?_) (fun c_125 => ?_)
                  · refine lv_iconst (v := (-1)) hx hb dX9_reaches_238 (by decide) ?_
                    refine lv_istore (lv' := [(12, .int (-1)), (0, .ref m0), (1, .int p0), (2, .int p1), (3, .int a17_0), (4, .int (nI j17_)), (5, .int 1), (6, .int (f_X9_shades mTo mSt p0 (nI j17_))), (7, .int (nI j85_)), (8, .int 1), (9, .int a180_0), (10, .int ((nI j17_) ^^^ ((1 : Int32) <<< ((nI j85_) &&& 31)))), (11, .int (nI j180_))]) hx hb dX9_reaches_239 hl (by decide) rfl (fun ls hl => ?_)
                    refine lv_iload hx hb dX9_reaches_241 (lv_at hl 0 rfl) ?_
                    refine lv_if_lt (tgt := 269) hx hb dX9_reaches_243 (by decide) (fun c_126 => ?_) (fun c_126 => ?_)
                    rotate_left
                    · exact absurd (by decide : (((-1) : Int32) < 0)) c_126
                    refine lv_iload hx hb dX9_reaches_269 (lv_at hl 10 rfl) ?_
                    refine lv_istore (lv' := [(9, .int a180_0), (12, .int (-1)), (0, .ref m0), (1, .int p0), (2, .int p1), (3, .int a17_0), (4, .int (nI j17_)), (5, .int 1), (6, .int (f_X9_shades mTo mSt p0 (nI j17_))), (7, .int (nI j85_)), (8, .int 1), (10, .int ((nI j17_) ^^^ ((1 : Int32) <<< ((nI j85_) &&& 31)))), (11, .int (nI j180_))]) hx hb dX9_reaches_271 hl (by decide) rfl (fun ls hl => ?_)
                    refine lv_iinc (v := (nI (j180_ + 1))) (lv' := [(11, .int (nI (j180_ + 1))), (9, .int a180_0), (12, .int (-1)), (0, .ref m0), (1, .int p0), (2, .int p1), (3, .int a17_0), (4, .int (nI j17_)), (5, .int 1), (6, .int (f_X9_shades mTo mSt p0 (nI j17_))), (7, .int (nI j85_)), (8, .int 1), (10, .int ((nI j17_) ^^^ ((1 : Int32) <<< ((nI j85_) &&& 31))))]) hx hb dX9_reaches_273 hl (k := 12) rfl (nI_1 _) (by decide) rfl (fun ls hl => ?_)
                    refine lv_goto (tgt := 180) hx hb dX9_reaches_276 (by decide) ?_
                    exact ih180_ (j180_ + 1) a180_0 (by omega) (by rw [← hv180_]; simp only [L_X9_reaches_180, if_neg c_120, if_pos c_123, if_neg c_125, if_pos (by decide : (((-1) : Int32) < 0)), if_pos trivial, if_neg not_false]) _ _ hP hD hS _ (lv_sub hl [3, 4, 5, 6, 7, 8, 9, 10, 11, 1, 12, 0] rfl)
                  refine lv_aload_n hx hb dX9_reaches_222 rfl (lv_at hl 0 rfl) ?_
                  refine va_get (D := D) (ci := 9) (v := .ref m10) (C := RX9) (T := TX9) (N := 20) hx hb hts hinX9 hown hK hP 0 rfl rfl 17 (by decide) hf37 (fun _ h9 => h9) rfl dX9_reaches_223 ?_
                  refine lv_bipush (v := 6) hx hb dX9_reaches_226 (by decide) ?_
                  refine lv_iload hx hb dX9_reaches_228 (lv_at hl 10 rfl) ?_
                  refine lv_imul hx hb dX9_reaches_230 ?_
                  refine lv_iload hx hb dX9_reaches_231 (lv_at hl 11 rfl) ?_
                  refine lv_iadd hx hb dX9_reaches_233 ?_
                  refine q_iald hx hb hK hP 10 0 rfl rfl (fw_in (left_in (by omega) (by omega)) (by omega)) (Int32.toNatClampNeg ((6 * ((nI j17_) ^^^ ((1 : Int32) <<< ((nI j85_) &&& 31)))) + (nI j180_))) rfl dX9_reaches_234 ?_
                  refine lv_goto (tgt := 239) hx hb dX9_reaches_235 (by decide) ?_
                  refine lv_istore (lv' := [(12, .int ((F_X9_reaches_85 p0 1 j17_ mTo mSt a17_1 j85_) (Int32.toNatClampNeg ((6 * ((nI j17_) ^^^ ((1 : Int32) <<< ((nI j85_) &&& 31)))) + (nI j180_))))), (0, .ref m0), (1, .int p0), (2, .int p1), (3, .int a17_0), (4, .int (nI j17_)), (5, .int 1), (6, .int (f_X9_shades mTo mSt p0 (nI j17_))), (7, .int (nI j85_)), (8, .int 1), (9, .int a180_0), (10, .int ((nI j17_) ^^^ ((1 : Int32) <<< ((nI j85_) &&& 31)))), (11, .int (nI j180_))]) hx hb dX9_reaches_239 hl (by decide) rfl (fun ls hl => ?_)
                  refine lv_iload hx hb dX9_reaches_241 (lv_at hl 0 rfl) ?_
                  refine lv_if_lt (tgt := 269) hx hb dX9_reaches_243 (by decide) (fun c_127 => ?_) (fun c_127 => ?_)
                  · refine lv_iload hx hb dX9_reaches_269 (lv_at hl 10 rfl) ?_
                    refine lv_istore (lv' := [(9, .int a180_0), (12, .int ((F_X9_reaches_85 p0 1 j17_ mTo mSt a17_1 j85_) (Int32.toNatClampNeg ((6 * ((nI j17_) ^^^ ((1 : Int32) <<< ((nI j85_) &&& 31)))) + (nI j180_))))), (0, .ref m0), (1, .int p0), (2, .int p1), (3, .int a17_0), (4, .int (nI j17_)), (5, .int 1), (6, .int (f_X9_shades mTo mSt p0 (nI j17_))), (7, .int (nI j85_)), (8, .int 1), (10, .int ((nI j17_) ^^^ ((1 : Int32) <<< ((nI j85_) &&& 31)))), (11, .int (nI j180_))]) hx hb dX9_reaches_271 hl (by decide) rfl (fun ls hl => ?_)
                    refine lv_iinc (v := (nI (j180_ + 1))) (lv' := [(11, .int (nI (j180_ + 1))), (9, .int a180_0), (12, .int ((F_X9_reaches_85 p0 1 j17_ mTo mSt a17_1 j85_) (Int32.toNatClampNeg ((6 * ((nI j17_) ^^^ ((1 : Int32) <<< ((nI j85_) &&& 31)))) + (nI j180_))))), (0, .ref m0), (1, .int p0), (2, .int p1), (3, .int a17_0), (4, .int (nI j17_)), (5, .int 1), (6, .int (f_X9_shades mTo mSt p0 (nI j17_))), (7, .int (nI j85_)), (8, .int 1), (10, .int ((nI j17_) ^^^ ((1 : Int32) <<< ((nI j85_) &&& 31))))]) hx hb dX9_reaches_273 hl (k := 12) rfl (nI_1 _) (by decide) rfl (fun ls hl => ?_)
                    refine lv_goto (tgt := 180) hx hb dX9_reaches_276 (by decide) ?_
                    exact ih180_ (j180_ + 1) a180_0 (by omega) (by rw [← hv180_]; simp only [L_X9_reaches_180, if_neg c_120, if_pos c_123, if_pos c_125, if_pos c_127]) _ _ hP hD hS _ (lv_sub hl [3, 4, 5, 6, 7, 8, 9, 10, 11, 1, 12, 0] rfl)
                  refine lv_iload hx hb dX9_reaches_246 (lv_at hl 10 rfl) ?_
                  refine lv_if_lt (tgt := 261) hx hb dX9_reaches_248 (by decide) (fun c_128 => ?_) (fun c_128 => ?_)
                  · refine lv_iload hx hb dX9_reaches_261 (lv_at hl 0 rfl) ?_
                    refine lv_iload hx hb dX9_reaches_263 (lv_at hl 9 rfl) ?_
                    refine lv_iadd hx hb dX9_reaches_265 ?_
                    refine lv_goto (tgt := 271) hx hb dX9_reaches_266 (by decide) ?_
                    refine lv_istore (lv' := [(9, .int (((F_X9_reaches_85 p0 1 j17_ mTo mSt a17_1 j85_) (Int32.toNatClampNeg ((6 * ((nI j17_) ^^^ ((1 : Int32) <<< ((nI j85_) &&& 31)))) + (nI j180_)))) + 1)), (12, .int ((F_X9_reaches_85 p0 1 j17_ mTo mSt a17_1 j85_) (Int32.toNatClampNeg ((6 * ((nI j17_) ^^^ ((1 : Int32) <<< ((nI j85_) &&& 31)))) + (nI j180_))))), (0, .ref m0), (1, .int p0), (2, .int p1), (3, .int a17_0), (4, .int (nI j17_)), (5, .int 1), (6, .int (f_X9_shades mTo mSt p0 (nI j17_))), (7, .int (nI j85_)), (8, .int 1), (10, .int ((nI j17_) ^^^ ((1 : Int32) <<< ((nI j85_) &&& 31)))), (11, .int (nI j180_))]) hx hb dX9_reaches_271 hl (by decide) rfl (fun ls hl => ?_)
                    refine lv_iinc (v := (nI (j180_ + 1))) (lv' := [(11, .int (nI (j180_ + 1))), (9, .int (((F_X9_reaches_85 p0 1 j17_ mTo mSt a17_1 j85_) (Int32.toNatClampNeg ((6 * ((nI j17_) ^^^ ((1 : Int32) <<< ((nI j85_) &&& 31)))) + (nI j180_)))) + 1)), (12, .int ((F_X9_reaches_85 p0 1 j17_ mTo mSt a17_1 j85_) (Int32.toNatClampNeg ((6 * ((nI j17_) ^^^ ((1 : Int32) <<< ((nI j85_) &&& 31)))) + (nI j180_))))), (0, .ref m0), (1, .int p0), (2, .int p1), (3, .int a17_0), (4, .int (nI j17_)), (5, .int 1), (6, .int (f_X9_shades mTo mSt p0 (nI j17_))), (7, .int (nI j85_)), (8, .int 1), (10, .int ((nI j17_) ^^^ ((1 : Int32) <<< ((nI j85_) &&& 31))))]) hx hb dX9_reaches_273 hl (k := 12) rfl (nI_1 _) (by decide) rfl (fun ls hl => ?_)
                    refine lv_goto (tgt := 180) hx hb dX9_reaches_276 (by decide) ?_
                    exact ih180_ (j180_ + 1) (((F_X9_reaches_85 p0 1 j17_ mTo mSt a17_1 j85_) (Int32.toNatClampNeg ((6 * ((nI j17_) ^^^ ((1 : Int32) <<< ((nI j85_) &&& 31)))) + (nI j180_)))) + 1) (by omega) (by rw [← hv180_]; simp only [L_X9_reaches_180, if_neg c_120, if_pos c_123, if_pos c_125, if_neg c_127, if_pos c_128]) _ _ hP hD hS _ (lv_sub hl [3, 4, 5, 6, 7, 8, 9, 10, 11, 1, 12, 0] rfl)
                  refine lv_iload hx hb dX9_reaches_251 (lv_at hl 0 rfl) ?_
                  refine lv_iload hx hb dX9_reaches_253 (lv_at hl 9 rfl) ?_
                  refine lv_iadd hx hb dX9_reaches_255 ?_
                  refine lv_iload hx hb dX9_reaches_256 (lv_at hl 10 rfl) ?_
                  refine lv_icmp_ge (tgt := 269) hx hb dX9_reaches_258 (by decide) (fun c_129 => ?_) (fun c_129 => ?_)
                  · refine lv_iload hx hb dX9_reaches_269 (lv_at hl 10 rfl) ?_
                    refine lv_istore (lv' := [(9, .int a180_0), (12, .int ((F_X9_reaches_85 p0 1 j17_ mTo mSt a17_1 j85_) (Int32.toNatClampNeg ((6 * ((nI j17_) ^^^ ((1 : Int32) <<< ((nI j85_) &&& 31)))) + (nI j180_))))), (0, .ref m0), (1, .int p0), (2, .int p1), (3, .int a17_0), (4, .int (nI j17_)), (5, .int 1), (6, .int (f_X9_shades mTo mSt p0 (nI j17_))), (7, .int (nI j85_)), (8, .int 1), (10, .int ((nI j17_) ^^^ ((1 : Int32) <<< ((nI j85_) &&& 31)))), (11, .int (nI j180_))]) hx hb dX9_reaches_271 hl (by decide) rfl (fun ls hl => ?_)
                    refine lv_iinc (v := (nI (j180_ + 1))) (lv' := [(11, .int (nI (j180_ + 1))), (9, .int a180_0), (12, .int ((F_X9_reaches_85 p0 1 j17_ mTo mSt a17_1 j85_) (Int32.toNatClampNeg ((6 * ((nI j17_) ^^^ ((1 : Int32) <<< ((nI j85_) &&& 31)))) + (nI j180_))))), (0, .ref m0), (1, .int p0), (2, .int p1), (3, .int a17_0), (4, .int (nI j17_)), (5, .int 1), (6, .int (f_X9_shades mTo mSt p0 (nI j17_))), (7, .int (nI j85_)), (8, .int 1), (10, .int ((nI j17_) ^^^ ((1 : Int32) <<< ((nI j85_) &&& 31))))]) hx hb dX9_reaches_273 hl (k := 12) rfl (nI_1 _) (by decide) rfl (fun ls hl => ?_)
                    refine lv_goto (tgt := 180) hx hb dX9_reaches_276 (by decide) ?_
                    exact ih180_ (j180_ + 1) a180_0 (by omega) (by rw [← hv180_]; simp only [L_X9_reaches_180, if_neg c_120, if_pos c_123, if_pos c_125, if_neg c_127, if_neg c_128, if_pos c_129]) _ _ hP hD hS _ (lv_sub hl [3, 4, 5, 6, 7, 8, 9, 10, 11, 1, 12, 0] rfl)
                  refine lv_iload hx hb dX9_reaches_261 (lv_at hl 0 rfl) ?_
                  refine lv_iload hx hb dX9_reaches_263 (lv_at hl 9 rfl) ?_
                  refine lv_iadd hx hb dX9_reaches_265 ?_
                  refine lv_goto (tgt := 271) hx hb dX9_reaches_266 (by decide) ?_
                  refine lv_istore (lv' := [(9, .int (((F_X9_reaches_85 p0 1 j17_ mTo mSt a17_1 j85_) (Int32.toNatClampNeg ((6 * ((nI j17_) ^^^ ((1 : Int32) <<< ((nI j85_) &&& 31)))) + (nI j180_)))) + 1)), (12, .int ((F_X9_reaches_85 p0 1 j17_ mTo mSt a17_1 j85_) (Int32.toNatClampNeg ((6 * ((nI j17_) ^^^ ((1 : Int32) <<< ((nI j85_) &&& 31)))) + (nI j180_))))), (0, .ref m0), (1, .int p0), (2, .int p1), (3, .int a17_0), (4, .int (nI j17_)), (5, .int 1), (6, .int (f_X9_shades mTo mSt p0 (nI j17_))), (7, .int (nI j85_)), (8, .int 1), (10, .int ((nI j17_) ^^^ ((1 : Int32) <<< ((nI j85_) &&& 31)))), (11, .int (nI j180_))]) hx hb dX9_reaches_271 hl (by decide) rfl (fun ls hl => ?_)
                  refine lv_iinc (v := (nI (j180_ + 1))) (lv' := [(11, .int (nI (j180_ + 1))), (9, .int (((F_X9_reaches_85 p0 1 j17_ mTo mSt a17_1 j85_) (Int32.toNatClampNeg ((6 * ((nI j17_) ^^^ ((1 : Int32) <<< ((nI j85_) &&& 31)))) + (nI j180_)))) + 1)), (12, .int ((F_X9_reaches_85 p0 1 j17_ mTo mSt a17_1 j85_) (Int32.toNatClampNeg ((6 * ((nI j17_) ^^^ ((1 : Int32) <<< ((nI j85_) &&& 31)))) + (nI j180_))))), (0, .ref m0), (1, .int p0), (2, .int p1), (3, .int a17_0), (4, .int (nI j17_)), (5, .int 1), (6, .int (f_X9_shades mTo mSt p0 (nI j17_))), (7, .int (nI j85_)), (8, .int 1), (10, .int ((nI j17_) ^^^ ((1 : Int32) <<< ((nI j85_) &&& 31))))]) hx hb dX9_reaches_273 hl (k := 12) rfl (nI_1 _) (by decide) rfl (fun ls hl => ?_)
                  refine lv_goto (tgt := 180) hx hb dX9_reaches_276 (by decide) ?_
                  exact ih180_ (j180_ + 1) (((F_X9_reaches_85 p0 1 j17_ mTo mSt a17_1 j85_) (Int32.toNatClampNeg ((6 * ((nI j17_) ^^^ ((1 : Int32) <<< ((nI j85_) &&& 31)))) + (nI j180_)))) + 1) (by omega) (by rw [← hv180_]; simp only [L_X9_reaches_180, if_neg c_120, if_pos c_123, if_pos c_125, if_neg c_127, if_neg c_128, if_neg c_129]) _ _ hP hD hS _ (lv_sub hl [3, 4, 5, 6, 7, 8, 9, 10, 11, 1, 12, 0] rfl)
              exact loop180_ (Int32.toNatClampNeg (mTo 0)) 0 (-1) (by omega) rfl _ _ hP hD hS _ (lv_sub hl [4, 5, 6, 7, 8, 9, 10, 11, 3, 1, 2, 0] rfl)
            refine lv_iload hx hb dX9_reaches_169 (lv_at hl 2 rfl) ?_
            refine lv_goto (tgt := 175) hx hb dX9_reaches_171 (by decide) ?_
            refine lv_istore (lv' := [(9, .int 1), (10, .int ((nI j17_) ^^^ ((1 : Int32) <<< ((nI j85_) &&& 31)))), (8, .int 1), (0, .ref m0), (1, .int p0), (2, .int p1), (3, .int a17_0), (4, .int (nI j17_)), (5, .int 1), (6, .int (f_X9_shades mTo mSt p0 (nI j17_))), (7, .int (nI j85_))]) hx hb dX9_reaches_175 hl (by decide) rfl (fun ls hl => ?_)
            refine lv_iconst (v := 0) hx hb dX9_reaches_177 (by decide) ?_
            refine lv_istore (lv' := [(11, .int 0), (9, .int 1), (10, .int ((nI j17_) ^^^ ((1 : Int32) <<< ((nI j85_) &&& 31)))), (8, .int 1), (0, .ref m0), (1, .int p0), (2, .int p1), (3, .int a17_0), (4, .int (nI j17_)), (5, .int 1), (6, .int (f_X9_shades mTo mSt p0 (nI j17_))), (7, .int (nI j85_))]) hx hb dX9_reaches_178 hl (by decide) rfl (fun ls hl => ?_)
            have K180_ : ∀ (H : Heap) (locs : List Loc), va_P D vwCl [(m0, .inr (9, [.ref m1, .int (nI mTy), .ref m2, .ref m3, .ref m4, .ref m5, .int (nI mKn), .ref m6, .int (nI mKe), .ref m7, .int (nI mCa), .ref m8, .int (nI mSe), .int (nI mAt), .int mFi, .int mSc, .ref m9, .ref m10, .ref m11, .ref m12])), (m1, .inl (cI, 200, .inl mTx)), (m2, .inl (cI, 37, .inl mTo)), (m3, .inl (cI, 37, .inl mDr)), (m4, .inl (cI, 15, .inl mSt)), (m5, .inl (cI, 120, .inl mPa)), (m6, .inl (cI, 30, .inl mIm)), (m7, .inl (cI, 5, .inl mWi)), (m8, .inl (cI, 6, .inl mSn)), (m9, .inl (cI, 15, .inl mHe)), (m10, .inl (cI, 384, .inl (F_X9_reaches_85 p0 1 j17_ mTo mSt a17_1 j85_))), (m11, .inl (cI, 5, .inl mRo)), (m12, .inl (cI, 5, .inl mBe))] H → va_D (va_A (wM cI cC cG m0 m1 m2 m3 m4 m5 m6 m7 m8 m9 m10 m11 m12 mTy mKn mKe mCa mSe mAt mFi mSc mTx mTo mDr mSt mPa mIm mWi mSn mHe mFw mRo mBe) sz) [(m0, .inr (9, [.ref m1, .int (nI mTy), .ref m2, .ref m3, .ref m4, .ref m5, .int (nI mKn), .ref m6, .int (nI mKe), .ref m7, .int (nI mCa), .ref m8, .int (nI mSe), .int (nI mAt), .int mFi, .int mSc, .ref m9, .ref m10, .ref m11, .ref m12])), (m1, .inl (cI, 200, .inl mTx)), (m2, .inl (cI, 37, .inl mTo)), (m3, .inl (cI, 37, .inl mDr)), (m4, .inl (cI, 15, .inl mSt)), (m5, .inl (cI, 120, .inl mPa)), (m6, .inl (cI, 30, .inl mIm)), (m7, .inl (cI, 5, .inl mWi)), (m8, .inl (cI, 6, .inl mSn)), (m9, .inl (cI, 15, .inl mHe)), (m10, .inl (cI, 384, .inl (F_X9_reaches_85 p0 1 j17_ mTo mSt a17_1 j85_))), (m11, .inl (cI, 5, .inl mRo)), (m12, .inl (cI, 5, .inl mBe))] → va_S (va_A (wM cI cC cG m0 m1 m2 m3 m4 m5 m6 m7 m8 m9 m10 m11 m12 mTy mKn mKe mCa mSe mAt mFi mSc mTx mTo mDr mSt mPa mIm mWi mSn mHe mFw mRo mBe) sz) s.heap H locs → ∀ ls : Array Slot, lv_has ls 13 [(0, .ref m0), (1, .int p0), (2, .int p1), (3, .int a17_0), (4, .int (nI j17_)), (5, .int 1), (6, .int (f_X9_shades mTo mSt p0 (nI j17_))), (7, .int (nI j85_)), (9, .int (L_X9_reaches_180 1 ((nI j17_) ^^^ ((1 : Int32) <<< ((nI j85_) &&& 31))) j85_ mTo mSt (F_X9_reaches_85 p0 1 j17_ mTo mSt a17_1 j85_) (Int32.toNatClampNeg (mTo 0)) 0 1))] → W p l e rm_X9_reaches s m ([.ref m0, .int p0, .int p1] : List Value).toArray below meth c H locs 0 0 (MQ below (q_QWi D (wM cI cC cG m0 m1 m2 m3 m4 m5 m6 m7 m8 m9 m10 m11 m12 mTy mKn mKe mCa mSe mAt mFi mSc mTx mTo mDr mSt mPa mIm mWi mSn mHe mFw mRo mBe) (wM cI cC cG m0 m1 m2 m3 m4 m5 m6 m7 m8 m9 m10 m11 m12 mTy mKn mKe mCa mSe mAt mFi mSc mTx mTo mDr mSt mPa mIm mWi mSn mHe (g_X9_reaches_mFw mTo mSt mFw p0 p1) mRo mBe) sz (f_X9_reaches mTo mSt mFw p0 p1)) ([.ref m0, .int p0, .int p1] : List Value).toArray s 0 0 (va_A (wM cI cC cG m0 m1 m2 m3 m4 m5 m6 m7 m8 m9 m10 m11 m12 mTy mKn mKe mCa mSe mAt mFi mSc mTx mTo mDr mSt mPa mIm mWi mSn mHe mFw mRo mBe) sz)) (F0 m 279 ls []) := by
              intro H locs hP hD hS ls hl
              refine lv_aload_n hx hb dX9_reaches_279 rfl (lv_at hl 0 rfl) ?_
              refine va_get (D := D) (ci := 9) (v := .ref m10) (C := RX9) (T := TX9) (N := 20) hx hb hts hinX9 hown hK hP 0 rfl rfl 17 (by decide) hf37 (fun _ h9 => h9) rfl dX9_reaches_280 ?_
              refine lv_bipush (v := 6) hx hb dX9_reaches_283 (by decide) ?_
              refine lv_iload hx hb dX9_reaches_285 (lv_at hl 4 rfl) ?_
              refine q_imulN (a := 6) (b := j17_) hx hb dX9_reaches_287 ?_
              refine lv_iload hx hb dX9_reaches_288 (lv_at hl 7 rfl) ?_
              refine q_iaddN (a := (6 * j17_)) (b := j85_) hx hb dX9_reaches_290 ?_
              refine lv_iload hx hb dX9_reaches_291 (lv_at hl 8 rfl) ?_
              refine q_iast hx hb hK hP hD hS 10 0 rfl rfl (vp_in_nI (by omega) (by decide)) ((6 * j17_) + j85_) (nI_clamp (by omega)) dX9_reaches_293 (fun H locs hP hD hS => ?_)
              have hP : va_P D vwCl [(m0, .inr (9, [.ref m1, .int (nI mTy), .ref m2, .ref m3, .ref m4, .ref m5, .int (nI mKn), .ref m6, .int (nI mKe), .ref m7, .int (nI mCa), .ref m8, .int (nI mSe), .int (nI mAt), .int mFi, .int mSc, .ref m9, .ref m10, .ref m11, .ref m12])), (m1, .inl (cI, 200, .inl mTx)), (m2, .inl (cI, 37, .inl mTo)), (m3, .inl (cI, 37, .inl mDr)), (m4, .inl (cI, 15, .inl mSt)), (m5, .inl (cI, 120, .inl mPa)), (m6, .inl (cI, 30, .inl mIm)), (m7, .inl (cI, 5, .inl mWi)), (m8, .inl (cI, 6, .inl mSn)), (m9, .inl (cI, 15, .inl mHe)), (m10, .inl (cI, 384, .inl (upd (F_X9_reaches_85 p0 1 j17_ mTo mSt a17_1 j85_) ((6 * j17_) + j85_) (L_X9_reaches_180 1 ((nI j17_) ^^^ ((1 : Int32) <<< ((nI j85_) &&& 31))) j85_ mTo mSt (F_X9_reaches_85 p0 1 j17_ mTo mSt a17_1 j85_) (Int32.toNatClampNeg (mTo 0)) 0 1)))), (m11, .inl (cI, 5, .inl mRo)), (m12, .inl (cI, 5, .inl mBe))] H := hP
              have hD : va_D (va_A (wM cI cC cG m0 m1 m2 m3 m4 m5 m6 m7 m8 m9 m10 m11 m12 mTy mKn mKe mCa mSe mAt mFi mSc mTx mTo mDr mSt mPa mIm mWi mSn mHe mFw mRo mBe) sz) [(m0, .inr (9, [.ref m1, .int (nI mTy), .ref m2, .ref m3, .ref m4, .ref m5, .int (nI mKn), .ref m6, .int (nI mKe), .ref m7, .int (nI mCa), .ref m8, .int (nI mSe), .int (nI mAt), .int mFi, .int mSc, .ref m9, .ref m10, .ref m11, .ref m12])), (m1, .inl (cI, 200, .inl mTx)), (m2, .inl (cI, 37, .inl mTo)), (m3, .inl (cI, 37, .inl mDr)), (m4, .inl (cI, 15, .inl mSt)), (m5, .inl (cI, 120, .inl mPa)), (m6, .inl (cI, 30, .inl mIm)), (m7, .inl (cI, 5, .inl mWi)), (m8, .inl (cI, 6, .inl mSn)), (m9, .inl (cI, 15, .inl mHe)), (m10, .inl (cI, 384, .inl (upd (F_X9_reaches_85 p0 1 j17_ mTo mSt a17_1 j85_) ((6 * j17_) + j85_) (L_X9_reaches_180 1 ((nI j17_) ^^^ ((1 : Int32) <<< ((nI j85_) &&& 31))) j85_ mTo mSt (F_X9_reaches_85 p0 1 j17_ mTo mSt a17_1 j85_) (Int32.toNatClampNeg (mTo 0)) 0 1)))), (m11, .inl (cI, 5, .inl mRo)), (m12, .inl (cI, 5, .inl mBe))] := hD
              refine lv_iinc (v := (nI (j85_ + 1))) (lv' := [(7, .int (nI (j85_ + 1))), (0, .ref m0), (1, .int p0), (2, .int p1), (3, .int a17_0), (4, .int (nI j17_)), (5, .int 1), (6, .int (f_X9_shades mTo mSt p0 (nI j17_))), (9, .int (L_X9_reaches_180 1 ((nI j17_) ^^^ ((1 : Int32) <<< ((nI j85_) &&& 31))) j85_ mTo mSt (F_X9_reaches_85 p0 1 j17_ mTo mSt a17_1 j85_) (Int32.toNatClampNeg (mTo 0)) 0 1))]) hx hb dX9_reaches_294 hl (k := 7) rfl (nI_1 _) (by decide) rfl (fun ls hl => ?_)
              refine lv_goto (tgt := 85) hx hb dX9_reaches_297 (by decide) ?_
              have e_130 : (F_X9_reaches_85 p0 1 j17_ mTo mSt a17_1 (j85_ + 1)) = (upd (F_X9_reaches_85 p0 1 j17_ mTo mSt a17_1 j85_) ((6 * j17_) + j85_) (L_X9_reaches_180 1 ((nI j17_) ^^^ ((1 : Int32) <<< ((nI j85_) &&& 31))) j85_ mTo mSt (F_X9_reaches_85 p0 1 j17_ mTo mSt a17_1 j85_) (Int32.toNatClampNeg (mTo 0)) 0 1)) := by simp only [F_X9_reaches_85, if_pos c_44, if_neg (by decide : ¬ ((1 : Int32) = 0)), if_pos c_96, if_pos c_98, if_neg c_114, if_pos trivial, if_neg not_false]
              exact ih85_ (j85_ + 1) (by omega) _ _ (by rw [e_130]; exact hP) (by rw [e_130]; exact hD) hS _ (lv_sub hl [1, 2, 3, 4, 5, 6, 7, 0] rfl)
            have loop180_ : ∀ (n180_ j180_ : Nat) (a180_0 : Int32), j180_ + n180_ = (Int32.toNatClampNeg (mTo 0)) → (L_X9_reaches_180 1 ((nI j17_) ^^^ ((1 : Int32) <<< ((nI j85_) &&& 31))) j85_ mTo mSt (F_X9_reaches_85 p0 1 j17_ mTo mSt a17_1 j85_) n180_ j180_ a180_0) = (L_X9_reaches_180 1 ((nI j17_) ^^^ ((1 : Int32) <<< ((nI j85_) &&& 31))) j85_ mTo mSt (F_X9_reaches_85 p0 1 j17_ mTo mSt a17_1 j85_) (Int32.toNatClampNeg (mTo 0)) 0 1) → ∀ (H : Heap) (locs : List Loc), va_P D vwCl [(m0, .inr (9, [.ref m1, .int (nI mTy), .ref m2, .ref m3, .ref m4, .ref m5, .int (nI mKn), .ref m6, .int (nI mKe), .ref m7, .int (nI mCa), .ref m8, .int (nI mSe), .int (nI mAt), .int mFi, .int mSc, .ref m9, .ref m10, .ref m11, .ref m12])), (m1, .inl (cI, 200, .inl mTx)), (m2, .inl (cI, 37, .inl mTo)), (m3, .inl (cI, 37, .inl mDr)), (m4, .inl (cI, 15, .inl mSt)), (m5, .inl (cI, 120, .inl mPa)), (m6, .inl (cI, 30, .inl mIm)), (m7, .inl (cI, 5, .inl mWi)), (m8, .inl (cI, 6, .inl mSn)), (m9, .inl (cI, 15, .inl mHe)), (m10, .inl (cI, 384, .inl (F_X9_reaches_85 p0 1 j17_ mTo mSt a17_1 j85_))), (m11, .inl (cI, 5, .inl mRo)), (m12, .inl (cI, 5, .inl mBe))] H → va_D (va_A (wM cI cC cG m0 m1 m2 m3 m4 m5 m6 m7 m8 m9 m10 m11 m12 mTy mKn mKe mCa mSe mAt mFi mSc mTx mTo mDr mSt mPa mIm mWi mSn mHe mFw mRo mBe) sz) [(m0, .inr (9, [.ref m1, .int (nI mTy), .ref m2, .ref m3, .ref m4, .ref m5, .int (nI mKn), .ref m6, .int (nI mKe), .ref m7, .int (nI mCa), .ref m8, .int (nI mSe), .int (nI mAt), .int mFi, .int mSc, .ref m9, .ref m10, .ref m11, .ref m12])), (m1, .inl (cI, 200, .inl mTx)), (m2, .inl (cI, 37, .inl mTo)), (m3, .inl (cI, 37, .inl mDr)), (m4, .inl (cI, 15, .inl mSt)), (m5, .inl (cI, 120, .inl mPa)), (m6, .inl (cI, 30, .inl mIm)), (m7, .inl (cI, 5, .inl mWi)), (m8, .inl (cI, 6, .inl mSn)), (m9, .inl (cI, 15, .inl mHe)), (m10, .inl (cI, 384, .inl (F_X9_reaches_85 p0 1 j17_ mTo mSt a17_1 j85_))), (m11, .inl (cI, 5, .inl mRo)), (m12, .inl (cI, 5, .inl mBe))] → va_S (va_A (wM cI cC cG m0 m1 m2 m3 m4 m5 m6 m7 m8 m9 m10 m11 m12 mTy mKn mKe mCa mSe mAt mFi mSc mTx mTo mDr mSt mPa mIm mWi mSn mHe mFw mRo mBe) sz) s.heap H locs → ∀ ls : Array Slot, lv_has ls 13 [(0, .ref m0), (1, .int p0), (2, .int p1), (3, .int a17_0), (4, .int (nI j17_)), (5, .int 1), (6, .int (f_X9_shades mTo mSt p0 (nI j17_))), (7, .int (nI j85_)), (8, .int 1), (9, .int a180_0), (10, .int ((nI j17_) ^^^ ((1 : Int32) <<< ((nI j85_) &&& 31)))), (11, .int (nI j180_))] → W p l e rm_X9_reaches s m ([.ref m0, .int p0, .int p1] : List Value).toArray below meth c H locs 0 0 (MQ below (q_QWi D (wM cI cC cG m0 m1 m2 m3 m4 m5 m6 m7 m8 m9 m10 m11 m12 mTy mKn mKe mCa mSe mAt mFi mSc mTx mTo mDr mSt mPa mIm mWi mSn mHe mFw mRo mBe) (wM cI cC cG m0 m1 m2 m3 m4 m5 m6 m7 m8 m9 m10 m11 m12 mTy mKn mKe mCa mSe mAt mFi mSc mTx mTo mDr mSt mPa mIm mWi mSn mHe (g_X9_reaches_mFw mTo mSt mFw p0 p1) mRo mBe) sz (f_X9_reaches mTo mSt mFw p0 p1)) ([.ref m0, .int p0, .int p1] : List Value).toArray s 0 0 (va_A (wM cI cC cG m0 m1 m2 m3 m4 m5 m6 m7 m8 m9 m10 m11 m12 mTy mKn mKe mCa mSe mAt mFi mSc mTx mTo mDr mSt mPa mIm mWi mSn mHe mFw mRo mBe) sz)) (F0 m 180 ls []) := by
              intro n180_
              induction n180_ with
              | zero =>
                intro j180_ a180_0 hj180_ hv180_ H locs hP hD hS ls hl
                obtain rfl : j180_ = (Int32.toNatClampNeg (mTo 0)) := by omega
                refine lv_iload hx hb dX9_reaches_180 (lv_at hl 11 rfl) ?_
                refine lv_aload_n hx hb dX9_reaches_182 rfl (lv_at hl 0 rfl) ?_
                refine va_get (D := D) (ci := 9) (v := .ref m2) (C := RX9) (T := TX9) (N := 20) hx hb hts hinX9 hown hK hP 0 rfl rfl 2 (by decide) hf13 (fun _ h9 => h9) rfl dX9_reaches_183 ?_
                refine lv_iconst (v := 0) hx hb dX9_reaches_186 (by decide) ?_
                refine q_iald hx hb hK hP 2 0 rfl rfl (vp_in_nI (n := 0) (N := 37) (by decide) (by decide)) 0 (by decide) dX9_reaches_187 ?_
                refine lv_icmp_ge (tgt := 279) hx hb dX9_reaches_188 (by decide) (fun c_131 => ?_) (fun c_131 => ?_)
                rotate_left
                · exact absurd k_ge c_131
                have e_132 : a180_0 = (L_X9_reaches_180 1 ((nI j17_) ^^^ ((1 : Int32) <<< ((nI j85_) &&& 31))) j85_ mTo mSt (F_X9_reaches_85 p0 1 j17_ mTo mSt a17_1 j85_) (Int32.toNatClampNeg (mTo 0)) 0 1) := by rw [← hv180_]; simp only [L_X9_reaches_180]
                have e_133 : a180_0 = (L_X9_reaches_180 1 ((nI j17_) ^^^ ((1 : Int32) <<< ((nI j85_) &&& 31))) j85_ mTo mSt (F_X9_reaches_85 p0 1 j17_ mTo mSt a17_1 j85_) (Int32.toNatClampNeg (mTo 0)) 0 1) := e_132
                exact K180_ _ _ hP hD hS _ (by rw [← e_133]; exact (lv_sub hl [0, 1, 2, 3, 4, 5, 6, 7, 9] rfl))
              | succ n180_ ih180_ =>
                intro j180_ a180_0 hj180_ hv180_ H locs hP hD hS ls hl
                refine lv_iload hx hb dX9_reaches_180 (lv_at hl 11 rfl) ?_
                refine lv_aload_n hx hb dX9_reaches_182 rfl (lv_at hl 0 rfl) ?_
                refine va_get (D := D) (ci := 9) (v := .ref m2) (C := RX9) (T := TX9) (N := 20) hx hb hts hinX9 hown hK hP 0 rfl rfl 2 (by decide) hf13 (fun _ h9 => h9) rfl dX9_reaches_183 ?_
                refine lv_iconst (v := 0) hx hb dX9_reaches_186 (by decide) ?_
                refine q_iald hx hb hK hP 2 0 rfl rfl (vp_in_nI (n := 0) (N := 37) (by decide) (by decide)) 0 (by decide) dX9_reaches_187 ?_
                refine lv_icmp_ge (tgt := 279) hx hb dX9_reaches_188 (by decide) (fun c_134 => ?_) (fun c_134 => ?_)
                · exact absurd c_134 (k_le (by omega))
                refine lv_iload hx hb dX9_reaches_191 (lv_at hl 10 rfl) ?_
                refine lv_if_eq (tgt := 279) hx hb dX9_reaches_193 (by decide) (fun c_135 => ?_) (fun c_135 => ?_)
                · have e_136 : a180_0 = (L_X9_reaches_180 1 ((nI j17_) ^^^ ((1 : Int32) <<< ((nI j85_) &&& 31))) j85_ mTo mSt (F_X9_reaches_85 p0 1 j17_ mTo mSt a17_1 j85_) (Int32.toNatClampNeg (mTo 0)) 0 1) := by rw [← hv180_]; simp only [L_X9_reaches_180, if_pos c_135]
                  have e_137 : a180_0 = (L_X9_reaches_180 1 ((nI j17_) ^^^ ((1 : Int32) <<< ((nI j85_) &&& 31))) j85_ mTo mSt (F_X9_reaches_85 p0 1 j17_ mTo mSt a17_1 j85_) (Int32.toNatClampNeg (mTo 0)) 0 1) := e_136
                  exact K180_ _ _ hP hD hS _ (by rw [← e_137]; exact (lv_sub hl [0, 1, 2, 3, 4, 5, 6, 7, 9] rfl))
                refine lv_iload hx hb dX9_reaches_196 (lv_at hl 10 rfl) ?_
                refine lv_iload hx hb dX9_reaches_198 (lv_at hl 11 rfl) ?_
                refine lv_ishr hx hb dX9_reaches_200 ?_
                refine lv_iconst (v := 1) hx hb dX9_reaches_201 (by decide) ?_
                refine lv_iand hx hb dX9_reaches_202 ?_
                refine lv_iconst (v := 1) hx hb dX9_reaches_203 (by decide) ?_
                refine lv_icmp_ne (tgt := 238) hx hb dX9_reaches_204 (by decide) (fun c_138 => ?_) (fun c_138 => ?_)
                · refine lv_iconst (v := (-1)) hx hb dX9_reaches_238 (by decide) ?_
                  refine lv_istore (lv' := [(12, .int (-1)), (0, .ref m0), (1, .int p0), (2, .int p1), (3, .int a17_0), (4, .int (nI j17_)), (5, .int 1), (6, .int (f_X9_shades mTo mSt p0 (nI j17_))), (7, .int (nI j85_)), (8, .int 1), (9, .int a180_0), (10, .int ((nI j17_) ^^^ ((1 : Int32) <<< ((nI j85_) &&& 31)))), (11, .int (nI j180_))]) hx hb dX9_reaches_239 hl (by decide) rfl (fun ls hl => ?_)
                  refine lv_iload hx hb dX9_reaches_241 (lv_at hl 0 rfl) ?_
                  refine lv_if_lt (tgt := 269) hx hb dX9_reaches_243 (by decide) (fun c_139 => ?_) (fun c_139 => ?_)
                  rotate_left
                  · exact absurd (by decide : (((-1) : Int32) < 0)) c_139
                  refine lv_iload hx hb dX9_reaches_269 (lv_at hl 10 rfl) ?_
                  refine lv_istore (lv' := [(9, .int a180_0), (12, .int (-1)), (0, .ref m0), (1, .int p0), (2, .int p1), (3, .int a17_0), (4, .int (nI j17_)), (5, .int 1), (6, .int (f_X9_shades mTo mSt p0 (nI j17_))), (7, .int (nI j85_)), (8, .int 1), (10, .int ((nI j17_) ^^^ ((1 : Int32) <<< ((nI j85_) &&& 31)))), (11, .int (nI j180_))]) hx hb dX9_reaches_271 hl (by decide) rfl (fun ls hl => ?_)
                  refine lv_iinc (v := (nI (j180_ + 1))) (lv' := [(11, .int (nI (j180_ + 1))), (9, .int a180_0), (12, .int (-1)), (0, .ref m0), (1, .int p0), (2, .int p1), (3, .int a17_0), (4, .int (nI j17_)), (5, .int 1), (6, .int (f_X9_shades mTo mSt p0 (nI j17_))), (7, .int (nI j85_)), (8, .int 1), (10, .int ((nI j17_) ^^^ ((1 : Int32) <<< ((nI j85_) &&& 31))))]) hx hb dX9_reaches_273 hl (k := 12) rfl (nI_1 _) (by decide) rfl (fun ls hl => ?_)
                  refine lv_goto (tgt := 180) hx hb dX9_reaches_276 (by decide) ?_
                  exact ih180_ (j180_ + 1) a180_0 (by omega) (by rw [← hv180_]; simp only [L_X9_reaches_180, if_neg c_135, if_neg c_138, if_pos (by decide : (((-1) : Int32) < 0)), if_pos trivial, if_neg not_false]) _ _ hP hD hS _ (lv_sub hl [3, 4, 5, 6, 7, 8, 9, 10, 11, 1, 12, 0] rfl)
                refine lv_aload_n hx hb dX9_reaches_207 rfl (lv_at hl 0 rfl) ?_
                refine lv_iload hx hb dX9_reaches_208 (lv_at hl 7 rfl) ?_
                refine ro_i (va_runV (As := [.int (nI j85_)]) (rest := []) ⟨hx, hb, hml, hown, hts⟩ (c_X9_met l D cI cC cG m0 m1 m2 m3 m4 m5 m6 m7 m8 m9 m10 m11 m12 mTy mKn mKe mCa mSe mAt mFi mSc mTx mTo mDr mSt mPa mIm mWi mSn mHe (F_X9_reaches_85 p0 1 j17_ mTo mSt a17_1 j85_) mRo mBe (nI j85_) hM (vp_in_nI (by omega) (by decide))) (cwV 1 hts gX9_reaches_X9_met rfl rfl rfl (by decide +kernel) ⟨Nat.le_of_ble_eq_true rfl, Nat.le_of_ble_eq_true rfl⟩) (q_preV hK hP hN [0, 1, 2, 3, 4, 5, 6, 7, 8, 9, 10, 11, 12] rfl (ci := 9) (q0 := 0) rfl rfl) rfl rfl hl.1 rfl (lv_room (Nat.le_of_ble_eq_true rfl)) dX9_reaches_210 ⟨Nat.zero_le _, Nat.zero_le _⟩) hS hP (fun H locs hP hS => ?_)
                refine lv_iload hx hb dX9_reaches_213 (lv_at hl 11 rfl) ?_
                refine lv_ishr hx hb dX9_reaches_215 ?_
                refine lv_iconst (v := 1) hx hb dX9_reaches_216 (by decide) ?_
                refine lv_iand hx hb dX9_reaches_217 ?_
                refine lv_iconst (v := 1) hx hb dX9_reaches_218 (by decide) ?_
                refine lv_icmp_ne (tgt := 238) hx hb dX9_reaches_219 (by decide) (fun c_140 => ?_) (fun c_140 => ?_)
                · refine lv_iconst (v := (-1)) hx hb dX9_reaches_238 (by decide) ?_
                  refine lv_istore (lv' := [(12, .int (-1)), (0, .ref m0), (1, .int p0), (2, .int p1), (3, .int a17_0), (4, .int (nI j17_)), (5, .int 1), (6, .int (f_X9_shades mTo mSt p0 (nI j17_))), (7, .int (nI j85_)), (8, .int 1), (9, .int a180_0), (10, .int ((nI j17_) ^^^ ((1 : Int32) <<< ((nI j85_) &&& 31)))), (11, .int (nI j180_))]) hx hb dX9_reaches_239 hl (by decide) rfl (fun ls hl => ?_)
                  refine lv_iload hx hb dX9_reaches_241 (lv_at hl 0 rfl) ?_
                  refine lv_if_lt (tgt := 269) hx hb dX9_reaches_243 (by decide) (fun c_141 => ?_) (fun c_141 => ?_)
                  rotate_left
                  · exact absurd (by decide : (((-1) : Int32) < 0)) c_141
                  refine lv_iload hx hb dX9_reaches_269 (lv_at hl 10 rfl) ?_
                  refine lv_istore (lv' := [(9, .int a180_0), (12, .int (-1)), (0, .ref m0), (1, .int p0), (2, .int p1), (3, .int a17_0), (4, .int (nI j17_)), (5, .int 1), (6, .int (f_X9_shades mTo mSt p0 (nI j17_))), (7, .int (nI j85_)), (8, .int 1), (10, .int ((nI j17_) ^^^ ((1 : Int32) <<< ((nI j85_) &&& 31)))), (11, .int (nI j180_))]) hx hb dX9_reaches_271 hl (by decide) rfl (fun ls hl => ?_)
                  refine lv_iinc (v := (nI (j180_ + 1))) (lv' := [(11, .int (nI (j180_ + 1))), (9, .int a180_0), (12, .int (-1)), (0, .ref m0), (1, .int p0), (2, .int p1), (3, .int a17_0), (4, .int (nI j17_)), (5, .int 1), (6, .int (f_X9_shades mTo mSt p0 (nI j17_))), (7, .int (nI j85_)), (8, .int 1), (10, .int ((nI j17_) ^^^ ((1 : Int32) <<< ((nI j85_) &&& 31))))]) hx hb dX9_reaches_273 hl (k := 12) rfl (nI_1 _) (by decide) rfl (fun ls hl => ?_)
                  refine lv_goto (tgt := 180) hx hb dX9_reaches_276 (by decide) ?_
                  exact ih180_ (j180_ + 1) a180_0 (by omega) (by rw [← hv180_]; simp only [L_X9_reaches_180, if_neg c_135, if_pos c_138, if_neg c_140, if_pos (by decide : (((-1) : Int32) < 0)), if_pos trivial, if_neg not_false]) _ _ hP hD hS _ (lv_sub hl [3, 4, 5, 6, 7, 8, 9, 10, 11, 1, 12, 0] rfl)
                refine lv_aload_n hx hb dX9_reaches_222 rfl (lv_at hl 0 rfl) ?_
                refine va_get (D := D) (ci := 9) (v := .ref m10) (C := RX9) (T := TX9) (N := 20) hx hb hts hinX9 hown hK hP 0 rfl rfl 17 (by decide) hf37 (fun _ h9 => h9) rfl dX9_reaches_223 ?_
                refine lv_bipush (v := 6) hx hb dX9_reaches_226 (by decide) ?_
                refine lv_iload hx hb dX9_reaches_228 (lv_at hl 10 rfl) ?_
                refine lv_imul hx hb dX9_reaches_230 ?_
                refine lv_iload hx hb dX9_reaches_231 (lv_at hl 11 rfl) ?_
                refine lv_iadd hx hb dX9_reaches_233 ?_
                refine q_iald hx hb hK hP 10 0 rfl rfl (fw_in (left_in (by omega) (by omega)) (by omega)) (Int32.toNatClampNeg ((6 * ((nI j17_) ^^^ ((1 : Int32) <<< ((nI j85_) &&& 31)))) + (nI j180_))) rfl dX9_reaches_234 ?_
                refine lv_goto (tgt := 239) hx hb dX9_reaches_235 (by decide) ?_
                refine lv_istore (lv' := [(12, .int ((F_X9_reaches_85 p0 1 j17_ mTo mSt a17_1 j85_) (Int32.toNatClampNeg ((6 * ((nI j17_) ^^^ ((1 : Int32) <<< ((nI j85_) &&& 31)))) + (nI j180_))))), (0, .ref m0), (1, .int p0), (2, .int p1), (3, .int a17_0), (4, .int (nI j17_)), (5, .int 1), (6, .int (f_X9_shades mTo mSt p0 (nI j17_))), (7, .int (nI j85_)), (8, .int 1), (9, .int a180_0), (10, .int ((nI j17_) ^^^ ((1 : Int32) <<< ((nI j85_) &&& 31)))), (11, .int (nI j180_))]) hx hb dX9_reaches_239 hl (by decide) rfl (fun ls hl => ?_)
                refine lv_iload hx hb dX9_reaches_241 (lv_at hl 0 rfl) ?_
                refine lv_if_lt (tgt := 269) hx hb dX9_reaches_243 (by decide) (fun c_142 => ?_) (fun c_142 => ?_)
                · refine lv_iload hx hb dX9_reaches_269 (lv_at hl 10 rfl) ?_
                  refine lv_istore (lv' := [(9, .int a180_0), (12, .int ((F_X9_reaches_85 p0 1 j17_ mTo mSt a17_1 j85_) (Int32.toNatClampNeg ((6 * ((nI j17_) ^^^ ((1 : Int32) <<< ((nI j85_) &&& 31)))) + (nI j180_))))), (0, .ref m0), (1, .int p0), (2, .int p1), (3, .int a17_0), (4, .int (nI j17_)), (5, .int 1), (6, .int (f_X9_shades mTo mSt p0 (nI j17_))), (7, .int (nI j85_)), (8, .int 1), (10, .int ((nI j17_) ^^^ ((1 : Int32) <<< ((nI j85_) &&& 31)))), (11, .int (nI j180_))]) hx hb dX9_reaches_271 hl (by decide) rfl (fun ls hl => ?_)
                  refine lv_iinc (v := (nI (j180_ + 1))) (lv' := [(11, .int (nI (j180_ + 1))), (9, .int a180_0), (12, .int ((F_X9_reaches_85 p0 1 j17_ mTo mSt a17_1 j85_) (Int32.toNatClampNeg ((6 * ((nI j17_) ^^^ ((1 : Int32) <<< ((nI j85_) &&& 31)))) + (nI j180_))))), (0, .ref m0), (1, .int p0), (2, .int p1), (3, .int a17_0), (4, .int (nI j17_)), (5, .int 1), (6, .int (f_X9_shades mTo mSt p0 (nI j17_))), (7, .int (nI j85_)), (8, .int 1), (10, .int ((nI j17_) ^^^ ((1 : Int32) <<< ((nI j85_) &&& 31))))]) hx hb dX9_reaches_273 hl (k := 12) rfl (nI_1 _) (by decide) rfl (fun ls hl => ?_)
                  refine lv_goto (tgt := 180) hx hb dX9_reaches_276 (by decide) ?_
                  exact ih180_ (j180_ + 1) a180_0 (by omega) (by rw [← hv180_]; simp only [L_X9_reaches_180, if_neg c_135, if_pos c_138, if_pos c_140, if_pos c_142]) _ _ hP hD hS _ (lv_sub hl [3, 4, 5, 6, 7, 8, 9, 10, 11, 1, 12, 0] rfl)
                refine lv_iload hx hb dX9_reaches_246 (lv_at hl 10 rfl) ?_
                refine lv_if_lt (tgt := 261) hx hb dX9_reaches_248 (by decide) (fun c_143 => ?_) (fun c_143 => ?_)
                · refine lv_iload hx hb dX9_reaches_261 (lv_at hl 0 rfl) ?_
                  refine lv_iload hx hb dX9_reaches_263 (lv_at hl 9 rfl) ?_
                  refine lv_iadd hx hb dX9_reaches_265 ?_
                  refine lv_goto (tgt := 271) hx hb dX9_reaches_266 (by decide) ?_
                  refine lv_istore (lv' := [(9, .int (((F_X9_reaches_85 p0 1 j17_ mTo mSt a17_1 j85_) (Int32.toNatClampNeg ((6 * ((nI j17_) ^^^ ((1 : Int32) <<< ((nI j85_) &&& 31)))) + (nI j180_)))) + 1)), (12, .int ((F_X9_reaches_85 p0 1 j17_ mTo mSt a17_1 j85_) (Int32.toNatClampNeg ((6 * ((nI j17_) ^^^ ((1 : Int32) <<< ((nI j85_) &&& 31)))) + (nI j180_))))), (0, .ref m0), (1, .int p0), (2, .int p1), (3, .int a17_0), (4, .int (nI j17_)), (5, .int 1), (6, .int (f_X9_shades mTo mSt p0 (nI j17_))), (7, .int (nI j85_)), (8, .int 1), (10, .int ((nI j17_) ^^^ ((1 : Int32) <<< ((nI j85_) &&& 31)))), (11, .int (nI j180_))]) hx hb dX9_reaches_271 hl (by decide) rfl (fun ls hl => ?_)
                  refine lv_iinc (v := (nI (j180_ + 1))) (lv' := [(11, .int (nI (j180_ + 1))), (9, .int (((F_X9_reaches_85 p0 1 j17_ mTo mSt a17_1 j85_) (Int32.toNatClampNeg ((6 * ((nI j17_) ^^^ ((1 : Int32) <<< ((nI j85_) &&& 31)))) + (nI j180_)))) + 1)), (12, .int ((F_X9_reaches_85 p0 1 j17_ mTo mSt a17_1 j85_) (Int32.toNatClampNeg ((6 * ((nI j17_) ^^^ ((1 : Int32) <<< ((nI j85_) &&& 31)))) + (nI j180_))))), (0, .ref m0), (1, .int p0), (2, .int p1), (3, .int a17_0), (4, .int (nI j17_)), (5, .int 1), (6, .int (f_X9_shades mTo mSt p0 (nI j17_))), (7, .int (nI j85_)), (8, .int 1), (10, .int ((nI j17_) ^^^ ((1 : Int32) <<< ((nI j85_) &&& 31))))]) hx hb dX9_reaches_273 hl (k := 12) rfl (nI_1 _) (by decide) rfl (fun ls hl => ?_)
                  refine lv_goto (tgt := 180) hx hb dX9_reaches_276 (by decide) ?_
                  exact ih180_ (j180_ + 1) (((F_X9_reaches_85 p0 1 j17_ mTo mSt a17_1 j85_) (Int32.toNatClampNeg ((6 * ((nI j17_) ^^^ ((1 : Int32) <<< ((nI j85_) &&& 31)))) + (nI j180_)))) + 1) (by omega) (by rw [← hv180_]; simp only [L_X9_reaches_180, if_neg c_135, if_pos c_138, if_pos c_140, if_neg c_142, if_pos c_143]) _ _ hP hD hS _ (lv_sub hl [3, 4, 5, 6, 7, 8, 9, 10, 11, 1, 12, 0] rfl)
                refine lv_iload hx hb dX9_reaches_251 (lv_at hl 0 rfl) ?_
                refine lv_iload hx hb dX9_reaches_253 (lv_at hl 9 rfl) ?_
                refine lv_iadd hx hb dX9_reaches_255 ?_
                refine lv_iload hx hb dX9_reaches_256 (lv_at hl 10 rfl) ?_
                refine lv_icmp_ge (tgt := 269) hx hb dX9_reaches_258 (by decide) (fun c_144 => ?_) (fun c_144 => ?_)
                · refine lv_iload hx hb dX9_reaches_269 (lv_at hl 10 rfl) ?_
                  refine lv_istore (lv' := [(9, .int a180_0), (12, .int ((F_X9_reaches_85 p0 1 j17_ mTo mSt a17_1 j85_) (Int32.toNatClampNeg ((6 * ((nI j17_) ^^^ ((1 : Int32) <<< ((nI j85_) &&& 31)))) + (nI j180_))))), (0, .ref m0), (1, .int p0), (2, .int p1), (3, .int a17_0), (4, .int (nI j17_)), (5, .int 1), (6, .int (f_X9_shades mTo mSt p0 (nI j17_))), (7, .int (nI j85_)), (8, .int 1), (10, .int ((nI j17_) ^^^ ((1 : Int32) <<< ((nI j85_) &&& 31)))), (11, .int (nI j180_))]) hx hb dX9_reaches_271 hl (by decide) rfl (fun ls hl => ?_)
                  refine lv_iinc (v := (nI (j180_ + 1))) (lv' := [(11, .int (nI (j180_ + 1))), (9, .int a180_0), (12, .int ((F_X9_reaches_85 p0 1 j17_ mTo mSt a17_1 j85_) (Int32.toNatClampNeg ((6 * ((nI j17_) ^^^ ((1 : Int32) <<< ((nI j85_) &&& 31)))) + (nI j180_))))), (0, .ref m0), (1, .int p0), (2, .int p1), (3, .int a17_0), (4, .int (nI j17_)), (5, .int 1), (6, .int (f_X9_shades mTo mSt p0 (nI j17_))), (7, .int (nI j85_)), (8, .int 1), (10, .int ((nI j17_) ^^^ ((1 : Int32) <<< ((nI j85_) &&& 31))))]) hx hb dX9_reaches_273 hl (k := 12) rfl (nI_1 _) (by decide) rfl (fun ls hl => ?_)
                  refine lv_goto (tgt := 180) hx hb dX9_reaches_276 (by decide) ?_
                  exact ih180_ (j180_ + 1) a180_0 (by omega) (by rw [← hv180_]; simp only [L_X9_reaches_180, if_neg c_135, if_pos c_138, if_pos c_140, if_neg c_142, if_neg c_143, if_pos c_144]) _ _ hP hD hS _ (lv_sub hl [3, 4, 5, 6, 7, 8, 9, 10, 11, 1, 12, 0] rfl)
                refine lv_iload hx hb dX9_reaches_261 (lv_at hl 0 rfl) ?_
                refine lv_iload hx hb dX9_reaches_263 (lv_at hl 9 rfl) ?_
                refine lv_iadd hx hb dX9_reaches_265 ?_
                refine lv_goto (tgt := 271) hx hb dX9_reaches_266 (by decide) ?_
                refine lv_istore (lv' := [(9, .int (((F_X9_reaches_85 p0 1 j17_ mTo mSt a17_1 j85_) (Int32.toNatClampNeg ((6 * ((nI j17_) ^^^ ((1 : Int32) <<< ((nI j85_) &&& 31)))) + (nI j180_)))) + 1)), (12, .int ((F_X9_reaches_85 p0 1 j17_ mTo mSt a17_1 j85_) (Int32.toNatClampNeg ((6 * ((nI j17_) ^^^ ((1 : Int32) <<< ((nI j85_) &&& 31)))) + (nI j180_))))), (0, .ref m0), (1, .int p0), (2, .int p1), (3, .int a17_0), (4, .int (nI j17_)), (5, .int 1), (6, .int (f_X9_shades mTo mSt p0 (nI j17_))), (7, .int (nI j85_)), (8, .int 1), (10, .int ((nI j17_) ^^^ ((1 : Int32) <<< ((nI j85_) &&& 31)))), (11, .int (nI j180_))]) hx hb dX9_reaches_271 hl (by decide) rfl (fun ls hl => ?_)
                refine lv_iinc (v := (nI (j180_ + 1))) (lv' := [(11, .int (nI (j180_ + 1))), (9, .int (((F_X9_reaches_85 p0 1 j17_ mTo mSt a17_1 j85_) (Int32.toNatClampNeg ((6 * ((nI j17_) ^^^ ((1 : Int32) <<< ((nI j85_) &&& 31)))) + (nI j180_)))) + 1)), (12, .int ((F_X9_reaches_85 p0 1 j17_ mTo mSt a17_1 j85_) (Int32.toNatClampNeg ((6 * ((nI j17_) ^^^ ((1 : Int32) <<< ((nI j85_) &&& 31)))) + (nI j180_))))), (0, .ref m0), (1, .int p0), (2, .int p1), (3, .int a17_0), (4, .int (nI j17_)), (5, .int 1), (6, .int (f_X9_shades mTo mSt p0 (nI j17_))), (7, .int (nI j85_)), (8, .int 1), (10, .int ((nI j17_) ^^^ ((1 : Int32) <<< ((nI j85_) &&& 31))))]) hx hb dX9_reaches_273 hl (k := 12) rfl (nI_1 _) (by decide) rfl (fun ls hl => ?_)
                refine lv_goto (tgt := 180) hx hb dX9_reaches_276 (by decide) ?_
                exact ih180_ (j180_ + 1) (((F_X9_reaches_85 p0 1 j17_ mTo mSt a17_1 j85_) (Int32.toNatClampNeg ((6 * ((nI j17_) ^^^ ((1 : Int32) <<< ((nI j85_) &&& 31)))) + (nI j180_)))) + 1) (by omega) (by rw [← hv180_]; simp only [L_X9_reaches_180, if_neg c_135, if_pos c_138, if_pos c_140, if_neg c_142, if_neg c_143, if_neg c_144]) _ _ hP hD hS _ (lv_sub hl [3, 4, 5, 6, 7, 8, 9, 10, 11, 1, 12, 0] rfl)
            exact loop180_ (Int32.toNatClampNeg (mTo 0)) 0 1 (by omega) rfl _ _ hP hD hS _ (lv_sub hl [4, 5, 6, 7, 8, 9, 10, 11, 3, 1, 2, 0] rfl)
        exact loop85_ (Int32.toNatClampNeg (mTo 0)) 0 (by omega) _ _ hP hD hS _ (lv_sub hl [3, 4, 5, 6, 7, 2, 1, 0] rfl)
    exact loop17_ ((Int32.toNatClampNeg ((1 : Int32) <<< ((mTo 0) &&& 31))) - 1) 1 (-4) mFw (by omega) rfl _ _ hP hD hS _ (lv_sub hl [2, 3, 4, 1, 0] rfl)
  refine lv_iconst (v := 0) hx hb dX9_reaches_9 (by decide) ?_
  have e_145 : (g_X9_reaches_mFw mTo mSt mFw p0 p1) = mFw := by simp only [g_X9_reaches_mFw, if_neg c_1]
  exact rw_iret hx hb hr hlocks hP hD hS (by simp only [f_X9_reaches, if_neg c_1]) (by rw [e_145] <;> rfl) dX9_reaches_10
def f_X9_reach (mTo : Nat → Int32) (mSt : Nat → Int32) (mFw : Nat → Int32) (p0 : Int32) (p1 : Int32) : Int32 := (if (f_X9_isSecret mTo p0) = 0 then (-1) else (if (f_X9_isPerson mTo p1) = 0 then (-1) else (if (f_X9_isAlive mTo mSt p1) = 0 then (-2) else (f_X9_reaches mTo mSt mFw p0 p1))))
def g_X9_reach_mFw (mTo : Nat → Int32) (mSt : Nat → Int32) (mFw : Nat → Int32) (p0 : Int32) (p1 : Int32) : Nat → Int32 := (if (f_X9_isSecret mTo p0) = 0 then mFw else (if (f_X9_isPerson mTo p1) = 0 then mFw else (if (f_X9_isAlive mTo mSt p1) = 0 then mFw else (g_X9_reaches_mFw mTo mSt mFw p0 p1))))
abbrev rm_X9_reach : Room := { frames := 4, cells := 0, slots := 0, locals := 100 }
set_option maxRecDepth 100000 in
set_option maxHeartbeats 4000000 in
theorem c_X9_reach (l : Launch) (D : va_G) (cI cC cG : ClassId) (m0 : Nat) (m1 : Nat) (m2 : Nat) (m3 : Nat) (m4 : Nat) (m5 : Nat) (m6 : Nat) (m7 : Nat) (m8 : Nat) (m9 : Nat) (m10 : Nat) (m11 : Nat) (m12 : Nat) (mTy : Nat) (mKn : Nat) (mKe : Nat) (mCa : Nat) (mSe : Nat) (mAt : Nat) (mFi : Int32) (mSc : Int32) (mTx : Nat → Int32) (mTo : Nat → Int32) (mDr : Nat → Int32) (mSt : Nat → Int32) (mPa : Nat → Int32) (mIm : Nat → Int32) (mWi : Nat → Int32) (mSn : Nat → Int32) (mHe : Nat → Int32) (mFw : Nat → Int32) (mRo : Nat → Int32) (mBe : Nat → Int32) (p0 : Int32) (p1 : Int32) (sz : Nat) (hM : okM mTo) : RwI l yX9_reach wsX9_reach rm_X9_reach D (q_t cI cC cG) (wM cI cC cG m0 m1 m2 m3 m4 m5 m6 m7 m8 m9 m10 m11 m12 mTy mKn mKe mCa mSe mAt mFi mSc mTx mTo mDr mSt mPa mIm mWi mSn mHe mFw mRo mBe) (wM cI cC cG m0 m1 m2 m3 m4 m5 m6 m7 m8 m9 m10 m11 m12 mTy mKn mKe mCa mSe mAt mFi mSc mTx mTo mDr mSt mPa mIm mWi mSn mHe (g_X9_reach_mFw mTo mSt mFw p0 p1) mRo mBe) sz [.ref m0, .int p0, .int p1] (f_X9_reach mTo mSt mFw p0 p1) := by
  refine rw_enter (cc := cX9_reach) (maxL := 3) (ret := (some .int)) (by decide) rfl (Nat.le_of_ble_eq_true rfl) ?_
  intro p e s m below meth c ls B hP hK hD hS hA hl
  obtain ⟨hx, hb, hr, hlocks, hml, hown, hts, hN⟩ := B
  have hown : s.vm.findClass RX9 = some m.cls := hown
  have hl : lv_has ls 3 [(0, .ref m0), (1, .int p0), (2, .int p1)] := hl
  have hN6 := okM_p hM
  have hN8 := okM_s hM
  refine lv_aload_n hx hb dX9_reach_0 rfl (lv_at hl 0 rfl) ?_
  refine lv_iload_n hx hb dX9_reach_1 rfl (lv_at hl 1 rfl) ?_
  refine ro_i (va_runV (As := [.int p0]) (rest := []) ⟨hx, hb, hml, hown, hts⟩ (c_X9_isSecret l D cI cC cG m0 m1 m2 m3 m4 m5 m6 m7 m8 m9 m10 m11 m12 mTy mKn mKe mCa mSe mAt mFi mSc mTx mTo mDr mSt mPa mIm mWi mSn mHe mFw mRo mBe p0) (cwV 1 hts gX9_reach_X9_isSecret rfl rfl rfl (by decide +kernel) ⟨Nat.le_of_ble_eq_true rfl, Nat.le_of_ble_eq_true rfl⟩) (q_preV hK hP hN [0, 1, 2, 3, 4, 5, 6, 7, 8, 9, 10, 11, 12] rfl (ci := 9) (q0 := 0) rfl rfl) rfl rfl hl.1 rfl (lv_room (Nat.le_of_ble_eq_true rfl)) dX9_reach_2 ⟨Nat.zero_le _, Nat.zero_le _⟩) hS hP (fun H locs hP hS => ?_)
  refine lv_if_eq (tgt := 16) hx hb dX9_reach_5 (by decide) (fun c_1 => ?_) (fun c_1 => ?_)
  · refine lv_iconst (v := (-1)) hx hb dX9_reach_16 (by decide) ?_
    have e_2 : (g_X9_reach_mFw mTo mSt mFw p0 p1) = mFw := by simp only [g_X9_reach_mFw, if_pos c_1]
    exact rw_iret hx hb hr hlocks hP hD hS (by simp only [f_X9_reach, if_pos c_1]) (by rw [e_2] <;> rfl) dX9_reach_17
  refine lv_aload_n hx hb dX9_reach_8 rfl (lv_at hl 0 rfl) ?_
  refine lv_iload_n hx hb dX9_reach_9 rfl (lv_at hl 2 rfl) ?_
  refine ro_i (va_runV (As := [.int p1]) (rest := []) ⟨hx, hb, hml, hown, hts⟩ (c_X9_isPerson l D cI cC cG m0 m1 m2 m3 m4 m5 m6 m7 m8 m9 m10 m11 m12 mTy mKn mKe mCa mSe mAt mFi mSc mTx mTo mDr mSt mPa mIm mWi mSn mHe mFw mRo mBe p1) (cwV 1 hts gX9_reach_X9_isPerson rfl rfl rfl (by decide +kernel) ⟨Nat.le_of_ble_eq_true rfl, Nat.le_of_ble_eq_true rfl⟩) (q_preV hK hP hN [0, 1, 2, 3, 4, 5, 6, 7, 8, 9, 10, 11, 12] rfl (ci := 9) (q0 := 0) rfl rfl) rfl rfl hl.1 rfl (lv_room (Nat.le_of_ble_eq_true rfl)) dX9_reach_10 ⟨Nat.zero_le _, Nat.zero_le _⟩) hS hP (fun H locs hP hS => ?_)
  refine lv_if_ne (tgt := 18) hx hb dX9_reach_13 (by decide) (fun c_3 => ?_) (fun c_3 => ?_)
  · refine lv_aload_n hx hb dX9_reach_18 rfl (lv_at hl 0 rfl) ?_
    refine lv_iload_n hx hb dX9_reach_19 rfl (lv_at hl 2 rfl) ?_
    refine ro_i (va_runV (As := [.int p1]) (rest := []) ⟨hx, hb, hml, hown, hts⟩ (c_X9_isAlive l D cI cC cG m0 m1 m2 m3 m4 m5 m6 m7 m8 m9 m10 m11 m12 mTy mKn mKe mCa mSe mAt mFi mSc mTx mTo mDr mSt mPa mIm mWi mSn mHe mFw mRo mBe p1 (vp_mono (pers_in hM c_3) (by decide))) (cwV 1 hts gX9_reach_X9_isAlive rfl rfl rfl (by decide +kernel) ⟨Nat.le_of_ble_eq_true rfl, Nat.le_of_ble_eq_true rfl⟩) (q_preV hK hP hN [0, 1, 2, 3, 4, 5, 6, 7, 8, 9, 10, 11, 12] rfl (ci := 9) (q0 := 0) rfl rfl) rfl rfl hl.1 rfl (lv_room (Nat.le_of_ble_eq_true rfl)) dX9_reach_20 ⟨Nat.zero_le _, Nat.zero_le _⟩) hS hP (fun H locs hP hS => ?_)
    refine lv_if_eq (tgt := 35) hx hb dX9_reach_23 (by decide) (fun c_4 => ?_) (fun c_4 => ?_)
    · refine lv_bipush (v := (-2)) hx hb dX9_reach_35 (by decide) ?_
      have e_5 : (g_X9_reach_mFw mTo mSt mFw p0 p1) = mFw := by simp only [g_X9_reach_mFw, if_neg c_1, if_neg c_3, if_pos c_4]
      exact rw_iret hx hb hr hlocks hP hD hS (by simp only [f_X9_reach, if_neg c_1, if_neg c_3, if_pos c_4]) (by rw [e_5] <;> rfl) dX9_reach_37
    refine lv_aload_n hx hb dX9_reach_26 rfl (lv_at hl 0 rfl) ?_
    refine lv_iload_n hx hb dX9_reach_27 rfl (lv_at hl 1 rfl) ?_
    refine lv_iload_n hx hb dX9_reach_28 rfl (lv_at hl 2 rfl) ?_
    refine rw_i0 (va_runV (As := [.int p0, .int p1]) (rest := []) ⟨hx, hb, hml, hown, hts⟩ (c_X9_reaches l D cI cC cG m0 m1 m2 m3 m4 m5 m6 m7 m8 m9 m10 m11 m12 mTy mKn mKe mCa mSe mAt mFi mSc mTx mTo mDr mSt mPa mIm mWi mSn mHe mFw mRo mBe p0 p1 H.size hM (vp_mono (secr_in hM c_1) (by decide)) (vp_mono (pers_in hM c_3) (by decide))) (cwV 2 hts gX9_reach_X9_reaches rfl rfl rfl (by decide +kernel) ⟨Nat.le_of_ble_eq_true rfl, Nat.le_of_ble_eq_true rfl⟩) (q_preWV hK hP hD hN [0, 1, 2, 3, 4, 5, 6, 7, 8, 9, 10, 11, 12] (by decide) rfl rfl (ci := 9) (q0 := 0) rfl rfl) rfl rfl hl.1 rfl (lv_room (Nat.le_of_ble_eq_true rfl)) dX9_reach_29 ⟨Nat.zero_le _, Nat.zero_le _⟩) hS hA hD (fun H locs hP hD hS => ?_)
    have hP : va_P D vwCl [(m0, .inr (9, [.ref m1, .int (nI mTy), .ref m2, .ref m3, .ref m4, .ref m5, .int (nI mKn), .ref m6, .int (nI mKe), .ref m7, .int (nI mCa), .ref m8, .int (nI mSe), .int (nI mAt), .int mFi, .int mSc, .ref m9, .ref m10, .ref m11, .ref m12])), (m1, .inl (cI, 200, .inl mTx)), (m2, .inl (cI, 37, .inl mTo)), (m3, .inl (cI, 37, .inl mDr)), (m4, .inl (cI, 15, .inl mSt)), (m5, .inl (cI, 120, .inl mPa)), (m6, .inl (cI, 30, .inl mIm)), (m7, .inl (cI, 5, .inl mWi)), (m8, .inl (cI, 6, .inl mSn)), (m9, .inl (cI, 15, .inl mHe)), (m10, .inl (cI, 384, .inl (g_X9_reaches_mFw mTo mSt mFw p0 p1))), (m11, .inl (cI, 5, .inl mRo)), (m12, .inl (cI, 5, .inl mBe))] H := hP
    have hD : va_D (va_A (wM cI cC cG m0 m1 m2 m3 m4 m5 m6 m7 m8 m9 m10 m11 m12 mTy mKn mKe mCa mSe mAt mFi mSc mTx mTo mDr mSt mPa mIm mWi mSn mHe mFw mRo mBe) sz) [(m0, .inr (9, [.ref m1, .int (nI mTy), .ref m2, .ref m3, .ref m4, .ref m5, .int (nI mKn), .ref m6, .int (nI mKe), .ref m7, .int (nI mCa), .ref m8, .int (nI mSe), .int (nI mAt), .int mFi, .int mSc, .ref m9, .ref m10, .ref m11, .ref m12])), (m1, .inl (cI, 200, .inl mTx)), (m2, .inl (cI, 37, .inl mTo)), (m3, .inl (cI, 37, .inl mDr)), (m4, .inl (cI, 15, .inl mSt)), (m5, .inl (cI, 120, .inl mPa)), (m6, .inl (cI, 30, .inl mIm)), (m7, .inl (cI, 5, .inl mWi)), (m8, .inl (cI, 6, .inl mSn)), (m9, .inl (cI, 15, .inl mHe)), (m10, .inl (cI, 384, .inl (g_X9_reaches_mFw mTo mSt mFw p0 p1))), (m11, .inl (cI, 5, .inl mRo)), (m12, .inl (cI, 5, .inl mBe))] := hD
    refine lv_goto (tgt := 37) hx hb dX9_reach_32 (by decide) ?_
    have e_6 : (g_X9_reach_mFw mTo mSt mFw p0 p1) = (g_X9_reaches_mFw mTo mSt mFw p0 p1) := by simp only [g_X9_reach_mFw, if_neg c_1, if_neg c_3, if_neg c_4]
    exact rw_iret hx hb hr hlocks hP hD hS (by simp only [f_X9_reach, if_neg c_1, if_neg c_3, if_neg c_4]) (by rw [e_6] <;> rfl) dX9_reach_37
  refine lv_iconst (v := (-1)) hx hb dX9_reach_16 (by decide) ?_
  have e_7 : (g_X9_reach_mFw mTo mSt mFw p0 p1) = mFw := by simp only [g_X9_reach_mFw, if_neg c_1, if_pos c_3]
  exact rw_iret hx hb hr hlocks hP hD hS (by simp only [f_X9_reach, if_neg c_1, if_pos c_3]) (by rw [e_7] <;> rfl) dX9_reach_17
def F_X9_all_44 (x1 : Int32) (x2 : Int32) (mTo : Nat → Int32) (mSt : Nat → Int32) (i0_ : Int32) (i1_ : Nat → Int32) : Nat → Int32 × (Nat → Int32)
  | 0 => (i0_, i1_)
  | j44_ + 1 => (if ((x1 >>> ((nI j44_) &&& 31)) &&& 1) = 1 then (if (f_X9_reaches mTo mSt (F_X9_all_44 x1 x2 mTo mSt i0_ i1_ j44_).2 (nI j44_) x2) = (-4) then ((-4), (g_X9_reaches_mFw mTo mSt (F_X9_all_44 x1 x2 mTo mSt i0_ i1_ j44_).2 (nI j44_) x2)) else (if (F_X9_all_44 x1 x2 mTo mSt i0_ i1_ j44_).1 = (-4) then ((-4), (g_X9_reaches_mFw mTo mSt (F_X9_all_44 x1 x2 mTo mSt i0_ i1_ j44_).2 (nI j44_) x2)) else (((F_X9_all_44 x1 x2 mTo mSt i0_ i1_ j44_).1 + (f_X9_reaches mTo mSt (F_X9_all_44 x1 x2 mTo mSt i0_ i1_ j44_).2 (nI j44_) x2)), (g_X9_reaches_mFw mTo mSt (F_X9_all_44 x1 x2 mTo mSt i0_ i1_ j44_).2 (nI j44_) x2)))) else (if (F_X9_all_44 x1 x2 mTo mSt i0_ i1_ j44_).1 = (-4) then ((-4), (F_X9_all_44 x1 x2 mTo mSt i0_ i1_ j44_).2) else (((F_X9_all_44 x1 x2 mTo mSt i0_ i1_ j44_).1 + 0), (F_X9_all_44 x1 x2 mTo mSt i0_ i1_ j44_).2)))
def f_X9_all (mTo : Nat → Int32) (mSt : Nat → Int32) (mFw : Nat → Int32) (p0 : Int32) (p1 : Int32) : Int32 := (if (f_X9_in p0 0 (((1 : Int32) <<< ((mTo 1) &&& 31)) - 1)) = 0 then (-1) else (if (f_X9_isPerson mTo p1) = 0 then (-1) else (if (f_X9_isAlive mTo mSt p1) = 0 then (-2) else (F_X9_all_44 p0 p1 mTo mSt 0 mFw (Int32.toNatClampNeg (mTo 1))).1)))
def g_X9_all_mFw (mTo : Nat → Int32) (mSt : Nat → Int32) (mFw : Nat → Int32) (p0 : Int32) (p1 : Int32) : Nat → Int32 := (if (f_X9_in p0 0 (((1 : Int32) <<< ((mTo 1) &&& 31)) - 1)) = 0 then mFw else (if (f_X9_isPerson mTo p1) = 0 then mFw else (if (f_X9_isAlive mTo mSt p1) = 0 then mFw else (F_X9_all_44 p0 p1 mTo mSt 0 mFw (Int32.toNatClampNeg (mTo 1))).2)))
abbrev rm_X9_all : Room := { frames := 4, cells := 0, slots := 0, locals := 100 }
set_option maxRecDepth 100000 in
set_option maxHeartbeats 4000000 in
theorem c_X9_all (l : Launch) (D : va_G) (cI cC cG : ClassId) (m0 : Nat) (m1 : Nat) (m2 : Nat) (m3 : Nat) (m4 : Nat) (m5 : Nat) (m6 : Nat) (m7 : Nat) (m8 : Nat) (m9 : Nat) (m10 : Nat) (m11 : Nat) (m12 : Nat) (mTy : Nat) (mKn : Nat) (mKe : Nat) (mCa : Nat) (mSe : Nat) (mAt : Nat) (mFi : Int32) (mSc : Int32) (mTx : Nat → Int32) (mTo : Nat → Int32) (mDr : Nat → Int32) (mSt : Nat → Int32) (mPa : Nat → Int32) (mIm : Nat → Int32) (mWi : Nat → Int32) (mSn : Nat → Int32) (mHe : Nat → Int32) (mFw : Nat → Int32) (mRo : Nat → Int32) (mBe : Nat → Int32) (p0 : Int32) (p1 : Int32) (sz : Nat) (hM : okM mTo) : RwI l yX9_all wsX9_all rm_X9_all D (q_t cI cC cG) (wM cI cC cG m0 m1 m2 m3 m4 m5 m6 m7 m8 m9 m10 m11 m12 mTy mKn mKe mCa mSe mAt mFi mSc mTx mTo mDr mSt mPa mIm mWi mSn mHe mFw mRo mBe) (wM cI cC cG m0 m1 m2 m3 m4 m5 m6 m7 m8 m9 m10 m11 m12 mTy mKn mKe mCa mSe mAt mFi mSc mTx mTo mDr mSt mPa mIm mWi mSn mHe (g_X9_all_mFw mTo mSt mFw p0 p1) mRo mBe) sz [.ref m0, .int p0, .int p1] (f_X9_all mTo mSt mFw p0 p1) := by
  refine rw_enter (cc := cX9_all) (maxL := 6) (ret := (some .int)) (by decide) rfl (Nat.le_of_ble_eq_true rfl) ?_
  intro p e s m below meth c ls B hP hK hD hS hA hl
  obtain ⟨hx, hb, hr, hlocks, hml, hown, hts, hN⟩ := B
  have hown : s.vm.findClass RX9 = some m.cls := hown
  have hl : lv_has ls 6 [(0, .ref m0), (1, .int p0), (2, .int p1)] := hl
  have hN6 := okM_p hM
  have hN8 := okM_s hM
  have hf13 := hts (.fieldLink RX9 13 "OlderByABlushModel" "told" "[I") (by decide +kernel)
  have hinX9 : ∀ w ∈ u_ws RX9 TX9 20, w ∈ wsX9_all := by decide +kernel
  refine lv_iload_n hx hb dX9_all_0 rfl (lv_at hl 1 rfl) ?_
  refine lv_iconst (v := 0) hx hb dX9_all_1 (by decide) ?_
  refine lv_iconst (v := 1) hx hb dX9_all_2 (by decide) ?_
  refine lv_aload_n hx hb dX9_all_3 rfl (lv_at hl 0 rfl) ?_
  refine va_get (D := D) (ci := 9) (v := .ref m2) (C := RX9) (T := TX9) (N := 20) hx hb hts hinX9 hown hK hP 0 rfl rfl 2 (by decide) hf13 (fun _ h9 => h9) rfl dX9_all_4 ?_
  refine lv_iconst (v := 1) hx hb dX9_all_7 (by decide) ?_
  refine q_iald hx hb hK hP 2 0 rfl rfl (vp_in_nI (n := 1) (N := 37) (by decide) (by decide)) 1 (by decide) dX9_all_8 ?_
  refine lv_ishl hx hb dX9_all_9 ?_
  refine lv_iconst (v := 1) hx hb dX9_all_10 (by decide) ?_
  refine lv_isub hx hb dX9_all_11 ?_
  refine ro_i (va_runS (As := [.int p0, .int 0, .int (((1 : Int32) <<< ((mTo 1) &&& 31)) - 1)]) (rest := []) ⟨hx, hb, hml, hown, hts⟩ (c_X9_in l D cI cC cG p0 0 (((1 : Int32) <<< ((mTo 1) &&& 31)) - 1)) (cwS 3 hts gX9_all_X9_in rfl rfl rfl (by decide +kernel) ⟨Nat.le_of_ble_eq_true rfl, Nat.le_of_ble_eq_true rfl⟩) (q_preS hK hP hN [] rfl) rfl rfl hl.1 rfl (lv_room (Nat.le_of_ble_eq_true rfl)) dX9_all_12 ⟨Nat.zero_le _, Nat.zero_le _⟩) hS hP (fun H locs hP hS => ?_)
  refine lv_if_eq (tgt := 26) hx hb dX9_all_15 (by decide) (fun c_1 => ?_) (fun c_1 => ?_)
  · refine lv_iconst (v := (-1)) hx hb dX9_all_26 (by decide) ?_
    have e_2 : (g_X9_all_mFw mTo mSt mFw p0 p1) = mFw := by simp only [g_X9_all_mFw, if_pos c_1]
    exact rw_iret hx hb hr hlocks hP hD hS (by simp only [f_X9_all, if_pos c_1]) (by rw [e_2] <;> rfl) dX9_all_27
  refine lv_aload_n hx hb dX9_all_18 rfl (lv_at hl 0 rfl) ?_
  refine lv_iload_n hx hb dX9_all_19 rfl (lv_at hl 2 rfl) ?_
  refine ro_i (va_runV (As := [.int p1]) (rest := []) ⟨hx, hb, hml, hown, hts⟩ (c_X9_isPerson l D cI cC cG m0 m1 m2 m3 m4 m5 m6 m7 m8 m9 m10 m11 m12 mTy mKn mKe mCa mSe mAt mFi mSc mTx mTo mDr mSt mPa mIm mWi mSn mHe mFw mRo mBe p1) (cwV 1 hts gX9_all_X9_isPerson rfl rfl rfl (by decide +kernel) ⟨Nat.le_of_ble_eq_true rfl, Nat.le_of_ble_eq_true rfl⟩) (q_preV hK hP hN [0, 1, 2, 3, 4, 5, 6, 7, 8, 9, 10, 11, 12] rfl (ci := 9) (q0 := 0) rfl rfl) rfl rfl hl.1 rfl (lv_room (Nat.le_of_ble_eq_true rfl)) dX9_all_20 ⟨Nat.zero_le _, Nat.zero_le _⟩) hS hP (fun H locs hP hS => ?_)
  refine lv_if_ne (tgt := 28) hx hb dX9_all_23 (by decide) (fun c_3 => ?_) (fun c_3 => ?_)
  · refine lv_aload_n hx hb dX9_all_28 rfl (lv_at hl 0 rfl) ?_
    refine lv_iload_n hx hb dX9_all_29 rfl (lv_at hl 2 rfl) ?_
    refine ro_i (va_runV (As := [.int p1]) (rest := []) ⟨hx, hb, hml, hown, hts⟩ (c_X9_isAlive l D cI cC cG m0 m1 m2 m3 m4 m5 m6 m7 m8 m9 m10 m11 m12 mTy mKn mKe mCa mSe mAt mFi mSc mTx mTo mDr mSt mPa mIm mWi mSn mHe mFw mRo mBe p1 (vp_mono (pers_in hM c_3) (by decide))) (cwV 1 hts gX9_all_X9_isAlive rfl rfl rfl (by decide +kernel) ⟨Nat.le_of_ble_eq_true rfl, Nat.le_of_ble_eq_true rfl⟩) (q_preV hK hP hN [0, 1, 2, 3, 4, 5, 6, 7, 8, 9, 10, 11, 12] rfl (ci := 9) (q0 := 0) rfl rfl) rfl rfl hl.1 rfl (lv_room (Nat.le_of_ble_eq_true rfl)) dX9_all_30 ⟨Nat.zero_le _, Nat.zero_le _⟩) hS hP (fun H locs hP hS => ?_)
    refine lv_if_ne (tgt := 39) hx hb dX9_all_33 (by decide) (fun c_4 => ?_) (fun c_4 => ?_)
    · refine lv_iconst (v := 0) hx hb dX9_all_39 (by decide) ?_
      refine lv_istore_n (lv' := [(3, .int 0), (0, .ref m0), (1, .int p0), (2, .int p1)]) hx hb dX9_all_40 rfl hl (by decide) rfl (fun ls hl => ?_)
      refine lv_iconst (v := 0) hx hb dX9_all_41 (by decide) ?_
      refine lv_istore (lv' := [(4, .int 0), (3, .int 0), (0, .ref m0), (1, .int p0), (2, .int p1)]) hx hb dX9_all_42 hl (by decide) rfl (fun ls hl => ?_)
      have K44_ : ∀ (H : Heap) (locs : List Loc), va_P D vwCl [(m0, .inr (9, [.ref m1, .int (nI mTy), .ref m2, .ref m3, .ref m4, .ref m5, .int (nI mKn), .ref m6, .int (nI mKe), .ref m7, .int (nI mCa), .ref m8, .int (nI mSe), .int (nI mAt), .int mFi, .int mSc, .ref m9, .ref m10, .ref m11, .ref m12])), (m1, .inl (cI, 200, .inl mTx)), (m2, .inl (cI, 37, .inl mTo)), (m3, .inl (cI, 37, .inl mDr)), (m4, .inl (cI, 15, .inl mSt)), (m5, .inl (cI, 120, .inl mPa)), (m6, .inl (cI, 30, .inl mIm)), (m7, .inl (cI, 5, .inl mWi)), (m8, .inl (cI, 6, .inl mSn)), (m9, .inl (cI, 15, .inl mHe)), (m10, .inl (cI, 384, .inl ((F_X9_all_44 p0 p1 mTo mSt 0 mFw (Int32.toNatClampNeg (mTo 1))).2))), (m11, .inl (cI, 5, .inl mRo)), (m12, .inl (cI, 5, .inl mBe))] H → va_D (va_A (wM cI cC cG m0 m1 m2 m3 m4 m5 m6 m7 m8 m9 m10 m11 m12 mTy mKn mKe mCa mSe mAt mFi mSc mTx mTo mDr mSt mPa mIm mWi mSn mHe mFw mRo mBe) sz) [(m0, .inr (9, [.ref m1, .int (nI mTy), .ref m2, .ref m3, .ref m4, .ref m5, .int (nI mKn), .ref m6, .int (nI mKe), .ref m7, .int (nI mCa), .ref m8, .int (nI mSe), .int (nI mAt), .int mFi, .int mSc, .ref m9, .ref m10, .ref m11, .ref m12])), (m1, .inl (cI, 200, .inl mTx)), (m2, .inl (cI, 37, .inl mTo)), (m3, .inl (cI, 37, .inl mDr)), (m4, .inl (cI, 15, .inl mSt)), (m5, .inl (cI, 120, .inl mPa)), (m6, .inl (cI, 30, .inl mIm)), (m7, .inl (cI, 5, .inl mWi)), (m8, .inl (cI, 6, .inl mSn)), (m9, .inl (cI, 15, .inl mHe)), (m10, .inl (cI, 384, .inl ((F_X9_all_44 p0 p1 mTo mSt 0 mFw (Int32.toNatClampNeg (mTo 1))).2))), (m11, .inl (cI, 5, .inl mRo)), (m12, .inl (cI, 5, .inl mBe))] → va_S (va_A (wM cI cC cG m0 m1 m2 m3 m4 m5 m6 m7 m8 m9 m10 m11 m12 mTy mKn mKe mCa mSe mAt mFi mSc mTx mTo mDr mSt mPa mIm mWi mSn mHe mFw mRo mBe) sz) s.heap H locs → ∀ ls : Array Slot, lv_has ls 6 [(3, .int ((F_X9_all_44 p0 p1 mTo mSt 0 mFw (Int32.toNatClampNeg (mTo 1))).1))] → W p l e rm_X9_all s m ([.ref m0, .int p0, .int p1] : List Value).toArray below meth c H locs 0 0 (MQ below (q_QWi D (wM cI cC cG m0 m1 m2 m3 m4 m5 m6 m7 m8 m9 m10 m11 m12 mTy mKn mKe mCa mSe mAt mFi mSc mTx mTo mDr mSt mPa mIm mWi mSn mHe mFw mRo mBe) (wM cI cC cG m0 m1 m2 m3 m4 m5 m6 m7 m8 m9 m10 m11 m12 mTy mKn mKe mCa mSe mAt mFi mSc mTx mTo mDr mSt mPa mIm mWi mSn mHe (g_X9_all_mFw mTo mSt mFw p0 p1) mRo mBe) sz (f_X9_all mTo mSt mFw p0 p1)) ([.ref m0, .int p0, .int p1] : List Value).toArray s 0 0 (va_A (wM cI cC cG m0 m1 m2 m3 m4 m5 m6 m7 m8 m9 m10 m11 m12 mTy mKn mKe mCa mSe mAt mFi mSc mTx mTo mDr mSt mPa mIm mWi mSn mHe mFw mRo mBe) sz)) (F0 m 107 ls []) := by
        intro H locs hP hD hS ls hl
        refine lv_iload_n hx hb dX9_all_107 rfl (lv_at hl 0 rfl) ?_
        have e_5 : (g_X9_all_mFw mTo mSt mFw p0 p1) = (F_X9_all_44 p0 p1 mTo mSt 0 mFw (Int32.toNatClampNeg (mTo 1))).2 := by simp only [g_X9_all_mFw, if_neg c_1, if_neg c_3, if_neg c_4]
        exact rw_iret hx hb hr hlocks hP hD hS (by simp only [f_X9_all, if_neg c_1, if_neg c_3, if_neg c_4]) (by rw [e_5] <;> rfl) dX9_all_108
      have loop44_ : ∀ (n44_ j44_ : Nat), j44_ + n44_ = (Int32.toNatClampNeg (mTo 1)) → ∀ (H : Heap) (locs : List Loc), va_P D vwCl [(m0, .inr (9, [.ref m1, .int (nI mTy), .ref m2, .ref m3, .ref m4, .ref m5, .int (nI mKn), .ref m6, .int (nI mKe), .ref m7, .int (nI mCa), .ref m8, .int (nI mSe), .int (nI mAt), .int mFi, .int mSc, .ref m9, .ref m10, .ref m11, .ref m12])), (m1, .inl (cI, 200, .inl mTx)), (m2, .inl (cI, 37, .inl mTo)), (m3, .inl (cI, 37, .inl mDr)), (m4, .inl (cI, 15, .inl mSt)), (m5, .inl (cI, 120, .inl mPa)), (m6, .inl (cI, 30, .inl mIm)), (m7, .inl (cI, 5, .inl mWi)), (m8, .inl (cI, 6, .inl mSn)), (m9, .inl (cI, 15, .inl mHe)), (m10, .inl (cI, 384, .inl ((F_X9_all_44 p0 p1 mTo mSt 0 mFw j44_).2))), (m11, .inl (cI, 5, .inl mRo)), (m12, .inl (cI, 5, .inl mBe))] H → va_D (va_A (wM cI cC cG m0 m1 m2 m3 m4 m5 m6 m7 m8 m9 m10 m11 m12 mTy mKn mKe mCa mSe mAt mFi mSc mTx mTo mDr mSt mPa mIm mWi mSn mHe mFw mRo mBe) sz) [(m0, .inr (9, [.ref m1, .int (nI mTy), .ref m2, .ref m3, .ref m4, .ref m5, .int (nI mKn), .ref m6, .int (nI mKe), .ref m7, .int (nI mCa), .ref m8, .int (nI mSe), .int (nI mAt), .int mFi, .int mSc, .ref m9, .ref m10, .ref m11, .ref m12])), (m1, .inl (cI, 200, .inl mTx)), (m2, .inl (cI, 37, .inl mTo)), (m3, .inl (cI, 37, .inl mDr)), (m4, .inl (cI, 15, .inl mSt)), (m5, .inl (cI, 120, .inl mPa)), (m6, .inl (cI, 30, .inl mIm)), (m7, .inl (cI, 5, .inl mWi)), (m8, .inl (cI, 6, .inl mSn)), (m9, .inl (cI, 15, .inl mHe)), (m10, .inl (cI, 384, .inl ((F_X9_all_44 p0 p1 mTo mSt 0 mFw j44_).2))), (m11, .inl (cI, 5, .inl mRo)), (m12, .inl (cI, 5, .inl mBe))] → va_S (va_A (wM cI cC cG m0 m1 m2 m3 m4 m5 m6 m7 m8 m9 m10 m11 m12 mTy mKn mKe mCa mSe mAt mFi mSc mTx mTo mDr mSt mPa mIm mWi mSn mHe mFw mRo mBe) sz) s.heap H locs → ∀ ls : Array Slot, lv_has ls 6 [(0, .ref m0), (1, .int p0), (2, .int p1), (3, .int ((F_X9_all_44 p0 p1 mTo mSt 0 mFw j44_).1)), (4, .int (nI j44_))] → W p l e rm_X9_all s m ([.ref m0, .int p0, .int p1] : List Value).toArray below meth c H locs 0 0 (MQ below (q_QWi D (wM cI cC cG m0 m1 m2 m3 m4 m5 m6 m7 m8 m9 m10 m11 m12 mTy mKn mKe mCa mSe mAt mFi mSc mTx mTo mDr mSt mPa mIm mWi mSn mHe mFw mRo mBe) (wM cI cC cG m0 m1 m2 m3 m4 m5 m6 m7 m8 m9 m10 m11 m12 mTy mKn mKe mCa mSe mAt mFi mSc mTx mTo mDr mSt mPa mIm mWi mSn mHe (g_X9_all_mFw mTo mSt mFw p0 p1) mRo mBe) sz (f_X9_all mTo mSt mFw p0 p1)) ([.ref m0, .int p0, .int p1] : List Value).toArray s 0 0 (va_A (wM cI cC cG m0 m1 m2 m3 m4 m5 m6 m7 m8 m9 m10 m11 m12 mTy mKn mKe mCa mSe mAt mFi mSc mTx mTo mDr mSt mPa mIm mWi mSn mHe mFw mRo mBe) sz)) (F0 m 44 ls []) := by
        intro n44_
        induction n44_ with
        | zero =>
          intro j44_ hj44_ H locs hP hD hS ls hl
          obtain rfl : j44_ = (Int32.toNatClampNeg (mTo 1)) := by omega
          refine lv_iload hx hb dX9_all_44 (lv_at hl 4 rfl) ?_
          refine lv_aload_n hx hb dX9_all_46 rfl (lv_at hl 0 rfl) ?_
          refine va_get (D := D) (ci := 9) (v := .ref m2) (C := RX9) (T := TX9) (N := 20) hx hb hts hinX9 hown hK hP 0 rfl rfl 2 (by decide) hf13 (fun _ h9 => h9) rfl dX9_all_47 ?_
          refine lv_iconst (v := 1) hx hb dX9_all_50 (by decide) ?_
          refine q_iald hx hb hK hP 2 0 rfl rfl (vp_in_nI (n := 1) (N := 37) (by decide) (by decide)) 1 (by decide) dX9_all_51 ?_
          refine lv_icmp_ge (tgt := 107) hx hb dX9_all_52 (by decide) (fun c_6 => ?_) (fun c_6 => ?_)
          rotate_left
          · exact absurd k_ge c_6
          exact K44_ _ _ hP hD hS _ (lv_sub hl [3] rfl)
        | succ n44_ ih44_ =>
          intro j44_ hj44_ H locs hP hD hS ls hl
          refine lv_iload hx hb dX9_all_44 (lv_at hl 4 rfl) ?_
          refine lv_aload_n hx hb dX9_all_46 rfl (lv_at hl 0 rfl) ?_
          refine va_get (D := D) (ci := 9) (v := .ref m2) (C := RX9) (T := TX9) (N := 20) hx hb hts hinX9 hown hK hP 0 rfl rfl 2 (by decide) hf13 (fun _ h9 => h9) rfl dX9_all_47 ?_
          refine lv_iconst (v := 1) hx hb dX9_all_50 (by decide) ?_
          refine q_iald hx hb hK hP 2 0 rfl rfl (vp_in_nI (n := 1) (N := 37) (by decide) (by decide)) 1 (by decide) dX9_all_51 ?_
          refine lv_icmp_ge (tgt := 107) hx hb dX9_all_52 (by decide) (fun c_7 => ?_) (fun c_7 => ?_)
          · exact absurd c_7 (k_le (by omega))
          refine lv_iload_n hx hb dX9_all_55 rfl (lv_at hl 1 rfl) ?_
          refine lv_iload hx hb dX9_all_56 (lv_at hl 4 rfl) ?_
          refine lv_ishr hx hb dX9_all_58 ?_
          refine lv_iconst (v := 1) hx hb dX9_all_59 (by decide) ?_
          refine lv_iand hx hb dX9_all_60 ?_
          refine lv_iconst (v := 1) hx hb dX9_all_61 (by decide) ?_
          refine lv_icmp_ne (tgt := 75) hx hb dX9_all_62 (by decide) (fun c_8 => ?_) (fun c_8 => ?_)
          · refine lv_iconst (v := 0) hx hb dX9_all_75 (by decide) ?_
            refine lv_istore (lv' := [(5, .int 0), (0, .ref m0), (1, .int p0), (2, .int p1), (3, .int ((F_X9_all_44 p0 p1 mTo mSt 0 mFw j44_).1)), (4, .int (nI j44_))]) hx hb dX9_all_76 hl (by decide) rfl (fun ls hl => ?_)
            refine lv_iload hx hb dX9_all_78 (lv_at hl 0 rfl) ?_
            refine lv_bipush (v := (-4)) hx hb dX9_all_80 (by decide) ?_
            refine lv_icmp_eq (tgt := 91) hx hb dX9_all_82 (by decide) (fun c_9 => ?_) (fun c_9 => ?_)
            · exact absurd c_9 (by decide : ¬ ((0 : Int32) = (-4)))
            refine lv_iload_n hx hb dX9_all_85 rfl (lv_at hl 4 rfl) ?_
            refine lv_bipush (v := (-4)) hx hb dX9_all_86 (by decide) ?_
            refine lv_icmp_ne (tgt := 96) hx hb dX9_all_88 (by decide) (fun c_10 => ?_) (fun c_10 => ?_)
            · refine lv_iload_n hx hb dX9_all_96 rfl (lv_at hl 4 rfl) ?_
              refine lv_iload hx hb dX9_all_97 (lv_at hl 0 rfl) ?_
              refine lv_iadd hx hb dX9_all_99 ?_
              refine lv_istore_n (lv' := [(3, .int ((F_X9_all_44 p0 p1 mTo mSt 0 mFw j44_).1 + 0)), (5, .int 0), (0, .ref m0), (1, .int p0), (2, .int p1), (4, .int (nI j44_))]) hx hb dX9_all_100 rfl hl (by decide) rfl (fun ls hl => ?_)
              refine lv_iinc (v := (nI (j44_ + 1))) (lv' := [(4, .int (nI (j44_ + 1))), (3, .int ((F_X9_all_44 p0 p1 mTo mSt 0 mFw j44_).1 + 0)), (5, .int 0), (0, .ref m0), (1, .int p0), (2, .int p1)]) hx hb dX9_all_101 hl (k := 5) rfl (nI_1 _) (by decide) rfl (fun ls hl => ?_)
              refine lv_goto (tgt := 44) hx hb dX9_all_104 (by decide) ?_
              have e_11 : (F_X9_all_44 p0 p1 mTo mSt 0 mFw (j44_ + 1)) = (((F_X9_all_44 p0 p1 mTo mSt 0 mFw j44_).1 + 0), (F_X9_all_44 p0 p1 mTo mSt 0 mFw j44_).2) := by simp only [F_X9_all_44, if_neg c_8, if_neg (by decide : ¬ ((0 : Int32) = (-4))), if_neg c_10, if_pos trivial, if_neg not_false]
              exact ih44_ (j44_ + 1) (by omega) _ _ (by rw [e_11]; exact hP) (by rw [e_11]; exact hD) hS _ (by rw [e_11]; exact (lv_sub hl [3, 4, 5, 1, 0] rfl))
            refine lv_bipush (v := (-4)) hx hb dX9_all_91 (by decide) ?_
            refine lv_goto (tgt := 100) hx hb dX9_all_93 (by decide) ?_
            refine lv_istore_n (lv' := [(3, .int (-4)), (5, .int 0), (0, .ref m0), (1, .int p0), (2, .int p1), (4, .int (nI j44_))]) hx hb dX9_all_100 rfl hl (by decide) rfl (fun ls hl => ?_)
            refine lv_iinc (v := (nI (j44_ + 1))) (lv' := [(4, .int (nI (j44_ + 1))), (3, .int (-4)), (5, .int 0), (0, .ref m0), (1, .int p0), (2, .int p1)]) hx hb dX9_all_101 hl (k := 5) rfl (nI_1 _) (by decide) rfl (fun ls hl => ?_)
            refine lv_goto (tgt := 44) hx hb dX9_all_104 (by decide) ?_
            have e_12 : (F_X9_all_44 p0 p1 mTo mSt 0 mFw (j44_ + 1)) = ((-4), (F_X9_all_44 p0 p1 mTo mSt 0 mFw j44_).2) := by simp only [F_X9_all_44, if_neg c_8, if_neg (by decide : ¬ ((0 : Int32) = (-4))), if_pos c_10, if_pos trivial, if_neg not_false]
            exact ih44_ (j44_ + 1) (by omega) _ _ (by rw [e_12]; exact hP) (by rw [e_12]; exact hD) hS _ (by rw [e_12]; exact (lv_sub hl [3, 4, 5, 1, 0] rfl))
          refine lv_aload_n hx hb dX9_all_65 rfl (lv_at hl 0 rfl) ?_
          refine lv_iload hx hb dX9_all_66 (lv_at hl 4 rfl) ?_
          refine lv_iload_n hx hb dX9_all_68 rfl (lv_at hl 2 rfl) ?_
          refine rw_i0 (va_runV (As := [.int (nI j44_), .int p1]) (rest := []) ⟨hx, hb, hml, hown, hts⟩ (c_X9_reaches l D cI cC cG m0 m1 m2 m3 m4 m5 m6 m7 m8 m9 m10 m11 m12 mTy mKn mKe mCa mSe mAt mFi mSc mTx mTo mDr mSt mPa mIm mWi mSn mHe ((F_X9_all_44 p0 p1 mTo mSt 0 mFw j44_).2) mRo mBe (nI j44_) p1 H.size hM (vp_in_nI (by omega) (by decide)) (vp_mono (pers_in hM c_3) (by decide))) (cwV 2 hts gX9_all_X9_reaches rfl rfl rfl (by decide +kernel) ⟨Nat.le_of_ble_eq_true rfl, Nat.le_of_ble_eq_true rfl⟩) (q_preWV hK hP hD hN [0, 1, 2, 3, 4, 5, 6, 7, 8, 9, 10, 11, 12] (by decide) rfl rfl (ci := 9) (q0 := 0) rfl rfl) rfl rfl hl.1 rfl (lv_room (Nat.le_of_ble_eq_true rfl)) dX9_all_69 ⟨Nat.zero_le _, Nat.zero_le _⟩) hS hA hD (fun H locs hP hD hS => ?_)
          have hP : va_P D vwCl [(m0, .inr (9, [.ref m1, .int (nI mTy), .ref m2, .ref m3, .ref m4, .ref m5, .int (nI mKn), .ref m6, .int (nI mKe), .ref m7, .int (nI mCa), .ref m8, .int (nI mSe), .int (nI mAt), .int mFi, .int mSc, .ref m9, .ref m10, .ref m11, .ref m12])), (m1, .inl (cI, 200, .inl mTx)), (m2, .inl (cI, 37, .inl mTo)), (m3, .inl (cI, 37, .inl mDr)), (m4, .inl (cI, 15, .inl mSt)), (m5, .inl (cI, 120, .inl mPa)), (m6, .inl (cI, 30, .inl mIm)), (m7, .inl (cI, 5, .inl mWi)), (m8, .inl (cI, 6, .inl mSn)), (m9, .inl (cI, 15, .inl mHe)), (m10, .inl (cI, 384, .inl (g_X9_reaches_mFw mTo mSt ((F_X9_all_44 p0 p1 mTo mSt 0 mFw j44_).2) (nI j44_) p1))), (m11, .inl (cI, 5, .inl mRo)), (m12, .inl (cI, 5, .inl mBe))] H := hP
          have hD : va_D (va_A (wM cI cC cG m0 m1 m2 m3 m4 m5 m6 m7 m8 m9 m10 m11 m12 mTy mKn mKe mCa mSe mAt mFi mSc mTx mTo mDr mSt mPa mIm mWi mSn mHe mFw mRo mBe) sz) [(m0, .inr (9, [.ref m1, .int (nI mTy), .ref m2, .ref m3, .ref m4, .ref m5, .int (nI mKn), .ref m6, .int (nI mKe), .ref m7, .int (nI mCa), .ref m8, .int (nI mSe), .int (nI mAt), .int mFi, .int mSc, .ref m9, .ref m10, .ref m11, .ref m12])), (m1, .inl (cI, 200, .inl mTx)), (m2, .inl (cI, 37, .inl mTo)), (m3, .inl (cI, 37, .inl mDr)), (m4, .inl (cI, 15, .inl mSt)), (m5, .inl (cI, 120, .inl mPa)), (m6, .inl (cI, 30, .inl mIm)), (m7, .inl (cI, 5, .inl mWi)), (m8, .inl (cI, 6, .inl mSn)), (m9, .inl (cI, 15, .inl mHe)), (m10, .inl (cI, 384, .inl (g_X9_reaches_mFw mTo mSt ((F_X9_all_44 p0 p1 mTo mSt 0 mFw j44_).2) (nI j44_) p1))), (m11, .inl (cI, 5, .inl mRo)), (m12, .inl (cI, 5, .inl mBe))] := hD
          refine lv_goto (tgt := 76) hx hb dX9_all_72 (by decide) ?_
          refine lv_istore (lv' := [(5, .int (f_X9_reaches mTo mSt ((F_X9_all_44 p0 p1 mTo mSt 0 mFw j44_).2) (nI j44_) p1)), (0, .ref m0), (1, .int p0), (2, .int p1), (3, .int ((F_X9_all_44 p0 p1 mTo mSt 0 mFw j44_).1)), (4, .int (nI j44_))]) hx hb dX9_all_76 hl (by decide) rfl (fun ls hl => ?_)
          refine lv_iload hx hb dX9_all_78 (lv_at hl 0 rfl) ?_
          refine lv_bipush (v := (-4)) hx hb dX9_all_80 (by decide) ?_
          refine lv_icmp_eq (tgt := 91) hx hb dX9_all_82 (by decide) (fun c_13 => ?_) (fun c_13 => ?_)
          · refine lv_bipush (v := (-4)) hx hb dX9_all_91 (by decide) ?_
            refine lv_goto (tgt := 100) hx hb dX9_all_93 (by decide) ?_
            refine lv_istore_n (lv' := [(3, .int (-4)), (5, .int (f_X9_reaches mTo mSt ((F_X9_all_44 p0 p1 mTo mSt 0 mFw j44_).2) (nI j44_) p1)), (0, .ref m0), (1, .int p0), (2, .int p1), (4, .int (nI j44_))]) hx hb dX9_all_100 rfl hl (by decide) rfl (fun ls hl => ?_)
            refine lv_iinc (v := (nI (j44_ + 1))) (lv' := [(4, .int (nI (j44_ + 1))), (3, .int (-4)), (5, .int (f_X9_reaches mTo mSt ((F_X9_all_44 p0 p1 mTo mSt 0 mFw j44_).2) (nI j44_) p1)), (0, .ref m0), (1, .int p0), (2, .int p1)]) hx hb dX9_all_101 hl (k := 5) rfl (nI_1 _) (by decide) rfl (fun ls hl => ?_)
            refine lv_goto (tgt := 44) hx hb dX9_all_104 (by decide) ?_
            have e_14 : (F_X9_all_44 p0 p1 mTo mSt 0 mFw (j44_ + 1)) = ((-4), (g_X9_reaches_mFw mTo mSt ((F_X9_all_44 p0 p1 mTo mSt 0 mFw j44_).2) (nI j44_) p1)) := by simp only [F_X9_all_44, if_pos c_8, if_pos c_13]
            exact ih44_ (j44_ + 1) (by omega) _ _ (by rw [e_14]; exact hP) (by rw [e_14]; exact hD) hS _ (by rw [e_14]; exact (lv_sub hl [3, 4, 5, 1, 0] rfl))
          refine lv_iload_n hx hb dX9_all_85 rfl (lv_at hl 4 rfl) ?_
          refine lv_bipush (v := (-4)) hx hb dX9_all_86 (by decide) ?_
          refine lv_icmp_ne (tgt := 96) hx hb dX9_all_88 (by decide) (fun c_15 => ?_) (fun c_15 => ?_)
          · refine lv_iload_n hx hb dX9_all_96 rfl (lv_at hl 4 rfl) ?_
            refine lv_iload hx hb dX9_all_97 (lv_at hl 0 rfl) ?_
            refine lv_iadd hx hb dX9_all_99 ?_
            refine lv_istore_n (lv' := [(3, .int ((F_X9_all_44 p0 p1 mTo mSt 0 mFw j44_).1 + (f_X9_reaches mTo mSt ((F_X9_all_44 p0 p1 mTo mSt 0 mFw j44_).2) (nI j44_) p1))), (5, .int (f_X9_reaches mTo mSt ((F_X9_all_44 p0 p1 mTo mSt 0 mFw j44_).2) (nI j44_) p1)), (0, .ref m0), (1, .int p0), (2, .int p1), (4, .int (nI j44_))]) hx hb dX9_all_100 rfl hl (by decide) rfl (fun ls hl => ?_)
            refine lv_iinc (v := (nI (j44_ + 1))) (lv' := [(4, .int (nI (j44_ + 1))), (3, .int ((F_X9_all_44 p0 p1 mTo mSt 0 mFw j44_).1 + (f_X9_reaches mTo mSt ((F_X9_all_44 p0 p1 mTo mSt 0 mFw j44_).2) (nI j44_) p1))), (5, .int (f_X9_reaches mTo mSt ((F_X9_all_44 p0 p1 mTo mSt 0 mFw j44_).2) (nI j44_) p1)), (0, .ref m0), (1, .int p0), (2, .int p1)]) hx hb dX9_all_101 hl (k := 5) rfl (nI_1 _) (by decide) rfl (fun ls hl => ?_)
            refine lv_goto (tgt := 44) hx hb dX9_all_104 (by decide) ?_
            have e_16 : (F_X9_all_44 p0 p1 mTo mSt 0 mFw (j44_ + 1)) = (((F_X9_all_44 p0 p1 mTo mSt 0 mFw j44_).1 + (f_X9_reaches mTo mSt ((F_X9_all_44 p0 p1 mTo mSt 0 mFw j44_).2) (nI j44_) p1)), (g_X9_reaches_mFw mTo mSt ((F_X9_all_44 p0 p1 mTo mSt 0 mFw j44_).2) (nI j44_) p1)) := by simp only [F_X9_all_44, if_pos c_8, if_neg c_13, if_neg c_15]
            exact ih44_ (j44_ + 1) (by omega) _ _ (by rw [e_16]; exact hP) (by rw [e_16]; exact hD) hS _ (by rw [e_16]; exact (lv_sub hl [3, 4, 5, 1, 0] rfl))
          refine lv_bipush (v := (-4)) hx hb dX9_all_91 (by decide) ?_
          refine lv_goto (tgt := 100) hx hb dX9_all_93 (by decide) ?_
          refine lv_istore_n (lv' := [(3, .int (-4)), (5, .int (f_X9_reaches mTo mSt ((F_X9_all_44 p0 p1 mTo mSt 0 mFw j44_).2) (nI j44_) p1)), (0, .ref m0), (1, .int p0), (2, .int p1), (4, .int (nI j44_))]) hx hb dX9_all_100 rfl hl (by decide) rfl (fun ls hl => ?_)
          refine lv_iinc (v := (nI (j44_ + 1))) (lv' := [(4, .int (nI (j44_ + 1))), (3, .int (-4)), (5, .int (f_X9_reaches mTo mSt ((F_X9_all_44 p0 p1 mTo mSt 0 mFw j44_).2) (nI j44_) p1)), (0, .ref m0), (1, .int p0), (2, .int p1)]) hx hb dX9_all_101 hl (k := 5) rfl (nI_1 _) (by decide) rfl (fun ls hl => ?_)
          refine lv_goto (tgt := 44) hx hb dX9_all_104 (by decide) ?_
          have e_17 : (F_X9_all_44 p0 p1 mTo mSt 0 mFw (j44_ + 1)) = ((-4), (g_X9_reaches_mFw mTo mSt ((F_X9_all_44 p0 p1 mTo mSt 0 mFw j44_).2) (nI j44_) p1)) := by simp only [F_X9_all_44, if_pos c_8, if_neg c_13, if_pos c_15]
          exact ih44_ (j44_ + 1) (by omega) _ _ (by rw [e_17]; exact hP) (by rw [e_17]; exact hD) hS _ (by rw [e_17]; exact (lv_sub hl [3, 4, 5, 1, 0] rfl))
      exact loop44_ (Int32.toNatClampNeg (mTo 1)) 0 (by omega) _ _ hP hD hS _ (lv_sub hl [2, 3, 4, 1, 0] rfl)
    refine lv_bipush (v := (-2)) hx hb dX9_all_36 (by decide) ?_
    have e_18 : (g_X9_all_mFw mTo mSt mFw p0 p1) = mFw := by simp only [g_X9_all_mFw, if_neg c_1, if_neg c_3, if_pos c_4]
    exact rw_iret hx hb hr hlocks hP hD hS (by simp only [f_X9_all, if_neg c_1, if_neg c_3, if_pos c_4]) (by rw [e_18] <;> rfl) dX9_all_38
  refine lv_iconst (v := (-1)) hx hb dX9_all_26 (by decide) ?_
  have e_19 : (g_X9_all_mFw mTo mSt mFw p0 p1) = mFw := by simp only [g_X9_all_mFw, if_neg c_1, if_pos c_3]
  exact rw_iret hx hb hr hlocks hP hD hS (by simp only [f_X9_all, if_neg c_1, if_pos c_3]) (by rw [e_19] <;> rfl) dX9_all_27
def F_X9_apart_113 (y6 : Nat) (mTo : Nat → Int32) (mSt : Nat → Int32) (i0_ : Int32) : Nat → Int32
  | 0 => i0_
  | j113_ + 1 => (if (((nI y6) >>> ((nI j113_) &&& 31)) &&& 1) = 1 then ((F_X9_apart_113 y6 mTo mSt i0_ j113_) + (f_X9_ones ((f_X9_met mTo mSt (nI j113_)) &&& ((nI y6) ^^^ (-1))))) else ((F_X9_apart_113 y6 mTo mSt i0_ j113_) + 0))
def F_X9_apart_66 (x2 : Int32) (x3 : Int32) (x4 : Int32) (mTo : Nat → Int32) (mSt : Nat → Int32) (i0_ : Int32) : Nat → Int32
  | 0 => i0_
  | j66_ + 1 => (if ((nI j66_) &&& (x3 ^^^ (-1))) = 0 then (if (x4 &&& ((nI j66_) ^^^ (-1))) = 0 then (if (((nI j66_) >>> (x2 &&& 31)) &&& 1) = 0 then (if (F_X9_apart_66 x2 x3 x4 mTo mSt i0_ j66_) = (-4) then (F_X9_apart_113 j66_ mTo mSt 0 (Int32.toNatClampNeg (mTo 0))) else (if (F_X9_apart_66 x2 x3 x4 mTo mSt i0_ j66_) ≤ (F_X9_apart_113 j66_ mTo mSt 0 (Int32.toNatClampNeg (mTo 0))) then (F_X9_apart_66 x2 x3 x4 mTo mSt i0_ j66_) else (F_X9_apart_113 j66_ mTo mSt 0 (Int32.toNatClampNeg (mTo 0))))) else (F_X9_apart_66 x2 x3 x4 mTo mSt i0_ j66_)) else (F_X9_apart_66 x2 x3 x4 mTo mSt i0_ j66_)) else (F_X9_apart_66 x2 x3 x4 mTo mSt i0_ j66_))
def f_X9_apart (mTo : Nat → Int32) (mSt : Nat → Int32) (p0 : Int32) (p1 : Int32) : Int32 := (if (f_X9_isSecret mTo p0) = 0 then (-1) else (if (f_X9_isPerson mTo p1) = 0 then (-1) else (if (f_X9_isAlive mTo mSt p1) = 0 then (-2) else (if (f_X9_knows mSt p1 p0) = 0 then (F_X9_apart_66 p1 (f_X9_alive mTo mSt) ((f_X9_alive mTo mSt) &&& (mSt (6 + (Int32.toNatClampNeg p0)))) mTo mSt (-4) (Int32.toNatClampNeg ((1 : Int32) <<< ((mTo 0) &&& 31)))) else (-4)))))
abbrev rm_X9_apart : Room := { frames := 3, cells := 0, slots := 0, locals := 64 }
set_option maxRecDepth 100000 in
set_option maxHeartbeats 4000000 in
theorem c_X9_apart (l : Launch) (D : va_G) (cI cC cG : ClassId) (m0 : Nat) (m1 : Nat) (m2 : Nat) (m3 : Nat) (m4 : Nat) (m5 : Nat) (m6 : Nat) (m7 : Nat) (m8 : Nat) (m9 : Nat) (m10 : Nat) (m11 : Nat) (m12 : Nat) (mTy : Nat) (mKn : Nat) (mKe : Nat) (mCa : Nat) (mSe : Nat) (mAt : Nat) (mFi : Int32) (mSc : Int32) (mTx : Nat → Int32) (mTo : Nat → Int32) (mDr : Nat → Int32) (mSt : Nat → Int32) (mPa : Nat → Int32) (mIm : Nat → Int32) (mWi : Nat → Int32) (mSn : Nat → Int32) (mHe : Nat → Int32) (mFw : Nat → Int32) (mRo : Nat → Int32) (mBe : Nat → Int32) (p0 : Int32) (p1 : Int32) (hM : okM mTo) : RoI l yX9_apart wsX9_apart rm_X9_apart D (q_t cI cC cG) (wM cI cC cG m0 m1 m2 m3 m4 m5 m6 m7 m8 m9 m10 m11 m12 mTy mKn mKe mCa mSe mAt mFi mSc mTx mTo mDr mSt mPa mIm mWi mSn mHe mFw mRo mBe) [.ref m0, .int p0, .int p1] (f_X9_apart mTo mSt p0 p1) := by
  refine ro_enter (cc := cX9_apart) (maxL := 9) (ret := (some .int)) (by decide) rfl (Nat.le_of_ble_eq_true rfl) ?_
  intro p e s m below meth c ls B hP hK hl
  obtain ⟨hx, hb, hr, hlocks, hml, hown, hts, hN⟩ := B
  have hS : va_S q_no s.heap s.heap [] := va_S.rf
  have hown : s.vm.findClass RX9 = some m.cls := hown
  have hl : lv_has ls 9 [(0, .ref m0), (1, .int p0), (2, .int p1)] := hl
  have hN6 := okM_p hM
  have hN8 := okM_s hM
  have hNB := okM_b hM
  have hf19 := hts (.fieldLink RX9 19 "OlderByABlushModel" "s" "[I") (by decide +kernel)
  have hinX9 : ∀ w ∈ u_ws RX9 TX9 20, w ∈ wsX9_apart := by decide +kernel
  have hf13 := hts (.fieldLink RX9 13 "OlderByABlushModel" "told" "[I") (by decide +kernel)
  refine lv_aload_n hx hb dX9_apart_0 rfl (lv_at hl 0 rfl) ?_
  refine lv_iload_n hx hb dX9_apart_1 rfl (lv_at hl 1 rfl) ?_
  refine ro_i (va_runV (As := [.int p0]) (rest := []) ⟨hx, hb, hml, hown, hts⟩ (c_X9_isSecret l D cI cC cG m0 m1 m2 m3 m4 m5 m6 m7 m8 m9 m10 m11 m12 mTy mKn mKe mCa mSe mAt mFi mSc mTx mTo mDr mSt mPa mIm mWi mSn mHe mFw mRo mBe p0) (cwV 1 hts gX9_apart_X9_isSecret rfl rfl rfl (by decide +kernel) ⟨Nat.le_of_ble_eq_true rfl, Nat.le_of_ble_eq_true rfl⟩) (q_preV hK hP hN [0, 1, 2, 3, 4, 5, 6, 7, 8, 9, 10, 11, 12] rfl (ci := 9) (q0 := 0) rfl rfl) rfl rfl hl.1 rfl (lv_room (Nat.le_of_ble_eq_true rfl)) dX9_apart_2 ⟨Nat.zero_le _, Nat.zero_le _⟩) hS hP (fun H locs hP hS => ?_)
  refine lv_if_eq (tgt := 16) hx hb dX9_apart_5 (by decide) (fun c_1 => ?_) (fun c_1 => ?_)
  · refine lv_iconst (v := (-1)) hx hb dX9_apart_16 (by decide) ?_
    exact ro_iret hx hb hr hlocks hS (by simp only [f_X9_apart, if_pos c_1]) dX9_apart_17
  refine lv_aload_n hx hb dX9_apart_8 rfl (lv_at hl 0 rfl) ?_
  refine lv_iload_n hx hb dX9_apart_9 rfl (lv_at hl 2 rfl) ?_
  refine ro_i (va_runV (As := [.int p1]) (rest := []) ⟨hx, hb, hml, hown, hts⟩ (c_X9_isPerson l D cI cC cG m0 m1 m2 m3 m4 m5 m6 m7 m8 m9 m10 m11 m12 mTy mKn mKe mCa mSe mAt mFi mSc mTx mTo mDr mSt mPa mIm mWi mSn mHe mFw mRo mBe p1) (cwV 1 hts gX9_apart_X9_isPerson rfl rfl rfl (by decide +kernel) ⟨Nat.le_of_ble_eq_true rfl, Nat.le_of_ble_eq_true rfl⟩) (q_preV hK hP hN [0, 1, 2, 3, 4, 5, 6, 7, 8, 9, 10, 11, 12] rfl (ci := 9) (q0 := 0) rfl rfl) rfl rfl hl.1 rfl (lv_room (Nat.le_of_ble_eq_true rfl)) dX9_apart_10 ⟨Nat.zero_le _, Nat.zero_le _⟩) hS hP (fun H locs hP hS => ?_)
  refine lv_if_ne (tgt := 18) hx hb dX9_apart_13 (by decide) (fun c_2 => ?_) (fun c_2 => ?_)
  · refine lv_aload_n hx hb dX9_apart_18 rfl (lv_at hl 0 rfl) ?_
    refine lv_iload_n hx hb dX9_apart_19 rfl (lv_at hl 2 rfl) ?_
    refine ro_i (va_runV (As := [.int p1]) (rest := []) ⟨hx, hb, hml, hown, hts⟩ (c_X9_isAlive l D cI cC cG m0 m1 m2 m3 m4 m5 m6 m7 m8 m9 m10 m11 m12 mTy mKn mKe mCa mSe mAt mFi mSc mTx mTo mDr mSt mPa mIm mWi mSn mHe mFw mRo mBe p1 (vp_mono (pers_in hM c_2) (by decide))) (cwV 1 hts gX9_apart_X9_isAlive rfl rfl rfl (by decide +kernel) ⟨Nat.le_of_ble_eq_true rfl, Nat.le_of_ble_eq_true rfl⟩) (q_preV hK hP hN [0, 1, 2, 3, 4, 5, 6, 7, 8, 9, 10, 11, 12] rfl (ci := 9) (q0 := 0) rfl rfl) rfl rfl hl.1 rfl (lv_room (Nat.le_of_ble_eq_true rfl)) dX9_apart_20 ⟨Nat.zero_le _, Nat.zero_le _⟩) hS hP (fun H locs hP hS => ?_)
    refine lv_if_ne (tgt := 29) hx hb dX9_apart_23 (by decide) (fun c_3 => ?_) (fun c_3 => ?_)
    · refine lv_aload_n hx hb dX9_apart_29 rfl (lv_at hl 0 rfl) ?_
      refine lv_iload_n hx hb dX9_apart_30 rfl (lv_at hl 2 rfl) ?_
      refine lv_iload_n hx hb dX9_apart_31 rfl (lv_at hl 1 rfl) ?_
      refine ro_i (va_runV (As := [.int p1, .int p0]) (rest := []) ⟨hx, hb, hml, hown, hts⟩ (c_X9_knows l D cI cC cG m0 m1 m2 m3 m4 m5 m6 m7 m8 m9 m10 m11 m12 mTy mKn mKe mCa mSe mAt mFi mSc mTx mTo mDr mSt mPa mIm mWi mSn mHe mFw mRo mBe p1 p0 (vp_mono (secr_in hM c_1) (by decide))) (cwV 2 hts gX9_apart_X9_knows rfl rfl rfl (by decide +kernel) ⟨Nat.le_of_ble_eq_true rfl, Nat.le_of_ble_eq_true rfl⟩) (q_preV hK hP hN [0, 1, 2, 3, 4, 5, 6, 7, 8, 9, 10, 11, 12] rfl (ci := 9) (q0 := 0) rfl rfl) rfl rfl hl.1 rfl (lv_room (Nat.le_of_ble_eq_true rfl)) dX9_apart_32 ⟨Nat.zero_le _, Nat.zero_le _⟩) hS hP (fun H locs hP hS => ?_)
      refine lv_if_eq (tgt := 41) hx hb dX9_apart_35 (by decide) (fun c_4 => ?_) (fun c_4 => ?_)
      · refine lv_aload_n hx hb dX9_apart_41 rfl (lv_at hl 0 rfl) ?_
        refine ro_i (va_runV (As := []) (rest := []) ⟨hx, hb, hml, hown, hts⟩ (c_X9_alive l D cI cC cG m0 m1 m2 m3 m4 m5 m6 m7 m8 m9 m10 m11 m12 mTy mKn mKe mCa mSe mAt mFi mSc mTx mTo mDr mSt mPa mIm mWi mSn mHe mFw mRo mBe hM) (cwV 0 hts gX9_apart_X9_alive rfl rfl rfl (by decide +kernel) ⟨Nat.le_of_ble_eq_true rfl, Nat.le_of_ble_eq_true rfl⟩) (q_preV hK hP hN [0, 1, 2, 3, 4, 5, 6, 7, 8, 9, 10, 11, 12] rfl (ci := 9) (q0 := 0) rfl rfl) rfl rfl hl.1 rfl (lv_room (Nat.le_of_ble_eq_true rfl)) dX9_apart_42 ⟨Nat.zero_le _, Nat.zero_le _⟩) hS hP (fun H locs hP hS => ?_)
        refine lv_istore_n (lv' := [(3, .int (f_X9_alive mTo mSt)), (0, .ref m0), (1, .int p0), (2, .int p1)]) hx hb dX9_apart_45 rfl hl (by decide) rfl (fun ls hl => ?_)
        refine lv_iload_n hx hb dX9_apart_46 rfl (lv_at hl 0 rfl) ?_
        refine lv_aload_n hx hb dX9_apart_47 rfl (lv_at hl 1 rfl) ?_
        refine va_get (D := D) (ci := 9) (v := .ref m4) (C := RX9) (T := TX9) (N := 20) hx hb hts hinX9 hown hK hP 0 rfl rfl 4 (by decide) hf19 (fun _ h9 => h9) rfl dX9_apart_48 ?_
        refine lv_bipush (v := 6) hx hb dX9_apart_51 (by decide) ?_
        refine lv_iload_n hx hb dX9_apart_53 rfl (lv_at hl 2 rfl) ?_
        refine lv_iadd hx hb dX9_apart_54 ?_
        refine q_iald hx hb hK hP 4 0 rfl rfl (in_add 6 (n := 8) (secr_in hM c_1) (by decide) (by decide)) (6 + (Int32.toNatClampNeg p0)) (in_addc 6 (n := 8) (N := 1000) (secr_in hM c_1) (by decide) (by decide)) dX9_apart_55 ?_
        refine lv_iand hx hb dX9_apart_56 ?_
        refine lv_istore (lv' := [(4, .int ((f_X9_alive mTo mSt) &&& (mSt (6 + (Int32.toNatClampNeg p0))))), (3, .int (f_X9_alive mTo mSt)), (0, .ref m0), (1, .int p0), (2, .int p1)]) hx hb dX9_apart_57 hl (by decide) rfl (fun ls hl => ?_)
        refine lv_bipush (v := (-4)) hx hb dX9_apart_59 (by decide) ?_
        refine lv_istore (lv' := [(5, .int (-4)), (4, .int ((f_X9_alive mTo mSt) &&& (mSt (6 + (Int32.toNatClampNeg p0))))), (3, .int (f_X9_alive mTo mSt)), (0, .ref m0), (1, .int p0), (2, .int p1)]) hx hb dX9_apart_61 hl (by decide) rfl (fun ls hl => ?_)
        refine lv_iconst (v := 0) hx hb dX9_apart_63 (by decide) ?_
        refine lv_istore (lv' := [(6, .int 0), (5, .int (-4)), (4, .int ((f_X9_alive mTo mSt) &&& (mSt (6 + (Int32.toNatClampNeg p0))))), (3, .int (f_X9_alive mTo mSt)), (0, .ref m0), (1, .int p0), (2, .int p1)]) hx hb dX9_apart_64 hl (by decide) rfl (fun ls hl => ?_)
        have K66_ : ∀ (H : Heap) (locs : List Loc), va_P D vwCl [(m0, .inr (9, [.ref m1, .int (nI mTy), .ref m2, .ref m3, .ref m4, .ref m5, .int (nI mKn), .ref m6, .int (nI mKe), .ref m7, .int (nI mCa), .ref m8, .int (nI mSe), .int (nI mAt), .int mFi, .int mSc, .ref m9, .ref m10, .ref m11, .ref m12])), (m1, .inl (cI, 200, .inl mTx)), (m2, .inl (cI, 37, .inl mTo)), (m3, .inl (cI, 37, .inl mDr)), (m4, .inl (cI, 15, .inl mSt)), (m5, .inl (cI, 120, .inl mPa)), (m6, .inl (cI, 30, .inl mIm)), (m7, .inl (cI, 5, .inl mWi)), (m8, .inl (cI, 6, .inl mSn)), (m9, .inl (cI, 15, .inl mHe)), (m10, .inl (cI, 384, .inl mFw)), (m11, .inl (cI, 5, .inl mRo)), (m12, .inl (cI, 5, .inl mBe))] H → va_S q_no s.heap H locs → ∀ ls : Array Slot, lv_has ls 9 [(5, .int (F_X9_apart_66 p1 (f_X9_alive mTo mSt) ((f_X9_alive mTo mSt) &&& (mSt (6 + (Int32.toNatClampNeg p0)))) mTo mSt (-4) (Int32.toNatClampNeg ((1 : Int32) <<< ((mTo 0) &&& 31)))))] → W p l e rm_X9_apart s m ([.ref m0, .int p0, .int p1] : List Value).toArray below meth c H locs 0 0 (MQ below (q_Qi (f_X9_apart mTo mSt p0 p1)) ([.ref m0, .int p0, .int p1] : List Value).toArray s 0 0 q_no) (F0 m 193 ls []) := by
          intro H locs hP hS ls hl
          refine lv_iload hx hb dX9_apart_193 (lv_at hl 0 rfl) ?_
          exact ro_iret hx hb hr hlocks hS (by simp only [f_X9_apart, if_neg c_1, if_neg c_2, if_neg c_3, if_pos c_4]) dX9_apart_195
        have loop66_ : ∀ (n66_ j66_ : Nat), j66_ + n66_ = (Int32.toNatClampNeg ((1 : Int32) <<< ((mTo 0) &&& 31))) → ∀ (H : Heap) (locs : List Loc), va_P D vwCl [(m0, .inr (9, [.ref m1, .int (nI mTy), .ref m2, .ref m3, .ref m4, .ref m5, .int (nI mKn), .ref m6, .int (nI mKe), .ref m7, .int (nI mCa), .ref m8, .int (nI mSe), .int (nI mAt), .int mFi, .int mSc, .ref m9, .ref m10, .ref m11, .ref m12])), (m1, .inl (cI, 200, .inl mTx)), (m2, .inl (cI, 37, .inl mTo)), (m3, .inl (cI, 37, .inl mDr)), (m4, .inl (cI, 15, .inl mSt)), (m5, .inl (cI, 120, .inl mPa)), (m6, .inl (cI, 30, .inl mIm)), (m7, .inl (cI, 5, .inl mWi)), (m8, .inl (cI, 6, .inl mSn)), (m9, .inl (cI, 15, .inl mHe)), (m10, .inl (cI, 384, .inl mFw)), (m11, .inl (cI, 5, .inl mRo)), (m12, .inl (cI, 5, .inl mBe))] H → va_S q_no s.heap H locs → ∀ ls : Array Slot, lv_has ls 9 [(0, .ref m0), (2, .int p1), (3, .int (f_X9_alive mTo mSt)), (4, .int ((f_X9_alive mTo mSt) &&& (mSt (6 + (Int32.toNatClampNeg p0))))), (5, .int (F_X9_apart_66 p1 (f_X9_alive mTo mSt) ((f_X9_alive mTo mSt) &&& (mSt (6 + (Int32.toNatClampNeg p0)))) mTo mSt (-4) j66_)), (6, .int (nI j66_))] → W p l e rm_X9_apart s m ([.ref m0, .int p0, .int p1] : List Value).toArray below meth c H locs 0 0 (MQ below (q_Qi (f_X9_apart mTo mSt p0 p1)) ([.ref m0, .int p0, .int p1] : List Value).toArray s 0 0 q_no) (F0 m 66 ls []) := by
          intro n66_
          induction n66_ with
          | zero =>
            intro j66_ hj66_ H locs hP hS ls hl
            obtain rfl : j66_ = (Int32.toNatClampNeg ((1 : Int32) <<< ((mTo 0) &&& 31))) := by omega
            refine lv_iload hx hb dX9_apart_66 (lv_at hl 5 rfl) ?_
            refine lv_iconst (v := 1) hx hb dX9_apart_68 (by decide) ?_
            refine lv_aload_n hx hb dX9_apart_69 rfl (lv_at hl 0 rfl) ?_
            refine va_get (D := D) (ci := 9) (v := .ref m2) (C := RX9) (T := TX9) (N := 20) hx hb hts hinX9 hown hK hP 0 rfl rfl 2 (by decide) hf13 (fun _ h9 => h9) rfl dX9_apart_70 ?_
            refine lv_iconst (v := 0) hx hb dX9_apart_73 (by decide) ?_
            refine q_iald hx hb hK hP 2 0 rfl rfl (vp_in_nI (n := 0) (N := 37) (by decide) (by decide)) 0 (by decide) dX9_apart_74 ?_
            refine lv_ishl hx hb dX9_apart_75 ?_
            refine lv_icmp_ge (tgt := 193) hx hb dX9_apart_76 (by decide) (fun c_5 => ?_) (fun c_5 => ?_)
            rotate_left
            · exact absurd k_ge c_5
            exact K66_ _ _ hP hS _ (lv_sub hl [4] rfl)
          | succ n66_ ih66_ =>
            intro j66_ hj66_ H locs hP hS ls hl
            refine lv_iload hx hb dX9_apart_66 (lv_at hl 5 rfl) ?_
            refine lv_iconst (v := 1) hx hb dX9_apart_68 (by decide) ?_
            refine lv_aload_n hx hb dX9_apart_69 rfl (lv_at hl 0 rfl) ?_
            refine va_get (D := D) (ci := 9) (v := .ref m2) (C := RX9) (T := TX9) (N := 20) hx hb hts hinX9 hown hK hP 0 rfl rfl 2 (by decide) hf13 (fun _ h9 => h9) rfl dX9_apart_70 ?_
            refine lv_iconst (v := 0) hx hb dX9_apart_73 (by decide) ?_
            refine q_iald hx hb hK hP 2 0 rfl rfl (vp_in_nI (n := 0) (N := 37) (by decide) (by decide)) 0 (by decide) dX9_apart_74 ?_
            refine lv_ishl hx hb dX9_apart_75 ?_
            refine lv_icmp_ge (tgt := 193) hx hb dX9_apart_76 (by decide) (fun c_6 => ?_) (fun c_6 => ?_)
            · exact absurd c_6 (k_le (by omega))
            refine lv_iload hx hb dX9_apart_79 (lv_at hl 5 rfl) ?_
            refine lv_iload_n hx hb dX9_apart_81 rfl (lv_at hl 2 rfl) ?_
            refine lv_iconst (v := (-1)) hx hb dX9_apart_82 (by decide) ?_
            refine lv_ixor hx hb dX9_apart_83 ?_
            refine lv_iand hx hb dX9_apart_84 ?_
            refine lv_if_ne (tgt := 187) hx hb dX9_apart_85 (by decide) (fun c_7 => ?_) (fun c_7 => ?_)
            · refine lv_iinc (v := (nI (j66_ + 1))) (lv' := [(6, .int (nI (j66_ + 1))), (0, .ref m0), (2, .int p1), (3, .int (f_X9_alive mTo mSt)), (4, .int ((f_X9_alive mTo mSt) &&& (mSt (6 + (Int32.toNatClampNeg p0))))), (5, .int (F_X9_apart_66 p1 (f_X9_alive mTo mSt) ((f_X9_alive mTo mSt) &&& (mSt (6 + (Int32.toNatClampNeg p0)))) mTo mSt (-4) j66_))]) hx hb dX9_apart_187 hl (k := 5) rfl (nI_1 _) (by decide) rfl (fun ls hl => ?_)
              refine lv_goto (tgt := 66) hx hb dX9_apart_190 (by decide) ?_
              have e_8 : (F_X9_apart_66 p1 (f_X9_alive mTo mSt) ((f_X9_alive mTo mSt) &&& (mSt (6 + (Int32.toNatClampNeg p0)))) mTo mSt (-4) (j66_ + 1)) = (F_X9_apart_66 p1 (f_X9_alive mTo mSt) ((f_X9_alive mTo mSt) &&& (mSt (6 + (Int32.toNatClampNeg p0)))) mTo mSt (-4) j66_) := by simp only [F_X9_apart_66, if_neg c_7]
              exact ih66_ (j66_ + 1) (by omega) _ _ hP hS _ (by rw [e_8]; exact (lv_sub hl [1, 2, 3, 4, 5, 0] rfl))
            refine lv_iload hx hb dX9_apart_88 (lv_at hl 3 rfl) ?_
            refine lv_iload hx hb dX9_apart_90 (lv_at hl 5 rfl) ?_
            refine lv_iconst (v := (-1)) hx hb dX9_apart_92 (by decide) ?_
            refine lv_ixor hx hb dX9_apart_93 ?_
            refine lv_iand hx hb dX9_apart_94 ?_
            refine lv_if_ne (tgt := 187) hx hb dX9_apart_95 (by decide) (fun c_9 => ?_) (fun c_9 => ?_)
            · refine lv_iinc (v := (nI (j66_ + 1))) (lv' := [(6, .int (nI (j66_ + 1))), (0, .ref m0), (2, .int p1), (3, .int (f_X9_alive mTo mSt)), (4, .int ((f_X9_alive mTo mSt) &&& (mSt (6 + (Int32.toNatClampNeg p0))))), (5, .int (F_X9_apart_66 p1 (f_X9_alive mTo mSt) ((f_X9_alive mTo mSt) &&& (mSt (6 + (Int32.toNatClampNeg p0)))) mTo mSt (-4) j66_))]) hx hb dX9_apart_187 hl (k := 5) rfl (nI_1 _) (by decide) rfl (fun ls hl => ?_)
              refine lv_goto (tgt := 66) hx hb dX9_apart_190 (by decide) ?_
              have e_10 : (F_X9_apart_66 p1 (f_X9_alive mTo mSt) ((f_X9_alive mTo mSt) &&& (mSt (6 + (Int32.toNatClampNeg p0)))) mTo mSt (-4) (j66_ + 1)) = (F_X9_apart_66 p1 (f_X9_alive mTo mSt) ((f_X9_alive mTo mSt) &&& (mSt (6 + (Int32.toNatClampNeg p0)))) mTo mSt (-4) j66_) := by simp only [F_X9_apart_66, if_pos c_7, if_neg c_9]
              exact ih66_ (j66_ + 1) (by omega) _ _ hP hS _ (by rw [e_10]; exact (lv_sub hl [1, 2, 3, 4, 5, 0] rfl))
            refine lv_iload hx hb dX9_apart_98 (lv_at hl 5 rfl) ?_
            refine lv_iload_n hx hb dX9_apart_100 rfl (lv_at hl 1 rfl) ?_
            refine lv_ishr hx hb dX9_apart_101 ?_
            refine lv_iconst (v := 1) hx hb dX9_apart_102 (by decide) ?_
            refine lv_iand hx hb dX9_apart_103 ?_
            refine lv_if_ne (tgt := 187) hx hb dX9_apart_104 (by decide) (fun c_11 => ?_) (fun c_11 => ?_)
            · refine lv_iinc (v := (nI (j66_ + 1))) (lv' := [(6, .int (nI (j66_ + 1))), (0, .ref m0), (2, .int p1), (3, .int (f_X9_alive mTo mSt)), (4, .int ((f_X9_alive mTo mSt) &&& (mSt (6 + (Int32.toNatClampNeg p0))))), (5, .int (F_X9_apart_66 p1 (f_X9_alive mTo mSt) ((f_X9_alive mTo mSt) &&& (mSt (6 + (Int32.toNatClampNeg p0)))) mTo mSt (-4) j66_))]) hx hb dX9_apart_187 hl (k := 5) rfl (nI_1 _) (by decide) rfl (fun ls hl => ?_)
              refine lv_goto (tgt := 66) hx hb dX9_apart_190 (by decide) ?_
              have e_12 : (F_X9_apart_66 p1 (f_X9_alive mTo mSt) ((f_X9_alive mTo mSt) &&& (mSt (6 + (Int32.toNatClampNeg p0)))) mTo mSt (-4) (j66_ + 1)) = (F_X9_apart_66 p1 (f_X9_alive mTo mSt) ((f_X9_alive mTo mSt) &&& (mSt (6 + (Int32.toNatClampNeg p0)))) mTo mSt (-4) j66_) := by simp only [F_X9_apart_66, if_pos c_7, if_pos c_9, if_neg c_11]
              exact ih66_ (j66_ + 1) (by omega) _ _ hP hS _ (by rw [e_12]; exact (lv_sub hl [1, 2, 3, 4, 5, 0] rfl))
            refine lv_iconst (v := 0) hx hb dX9_apart_107 (by decide) ?_
            refine lv_istore (lv' := [(7, .int 0), (0, .ref m0), (2, .int p1), (3, .int (f_X9_alive mTo mSt)), (4, .int ((f_X9_alive mTo mSt) &&& (mSt (6 + (Int32.toNatClampNeg p0))))), (5, .int (F_X9_apart_66 p1 (f_X9_alive mTo mSt) ((f_X9_alive mTo mSt) &&& (mSt (6 + (Int32.toNatClampNeg p0)))) mTo mSt (-4) j66_)), (6, .int (nI j66_))]) hx hb dX9_apart_108 hl (by decide) rfl (fun ls hl => ?_)
            refine lv_iconst (v := 0) hx hb dX9_apart_110 (by decide) ?_
            refine lv_istore (lv' := [(8, .int 0), (7, .int 0), (0, .ref m0), (2, .int p1), (3, .int (f_X9_alive mTo mSt)), (4, .int ((f_X9_alive mTo mSt) &&& (mSt (6 + (Int32.toNatClampNeg p0))))), (5, .int (F_X9_apart_66 p1 (f_X9_alive mTo mSt) ((f_X9_alive mTo mSt) &&& (mSt (6 + (Int32.toNatClampNeg p0)))) mTo mSt (-4) j66_)), (6, .int (nI j66_))]) hx hb dX9_apart_111 hl (by decide) rfl (fun ls hl => ?_)
            have K113_ : ∀ (H : Heap) (locs : List Loc), va_P D vwCl [(m0, .inr (9, [.ref m1, .int (nI mTy), .ref m2, .ref m3, .ref m4, .ref m5, .int (nI mKn), .ref m6, .int (nI mKe), .ref m7, .int (nI mCa), .ref m8, .int (nI mSe), .int (nI mAt), .int mFi, .int mSc, .ref m9, .ref m10, .ref m11, .ref m12])), (m1, .inl (cI, 200, .inl mTx)), (m2, .inl (cI, 37, .inl mTo)), (m3, .inl (cI, 37, .inl mDr)), (m4, .inl (cI, 15, .inl mSt)), (m5, .inl (cI, 120, .inl mPa)), (m6, .inl (cI, 30, .inl mIm)), (m7, .inl (cI, 5, .inl mWi)), (m8, .inl (cI, 6, .inl mSn)), (m9, .inl (cI, 15, .inl mHe)), (m10, .inl (cI, 384, .inl mFw)), (m11, .inl (cI, 5, .inl mRo)), (m12, .inl (cI, 5, .inl mBe))] H → va_S q_no s.heap H locs → ∀ ls : Array Slot, lv_has ls 9 [(0, .ref m0), (2, .int p1), (3, .int (f_X9_alive mTo mSt)), (4, .int ((f_X9_alive mTo mSt) &&& (mSt (6 + (Int32.toNatClampNeg p0))))), (5, .int (F_X9_apart_66 p1 (f_X9_alive mTo mSt) ((f_X9_alive mTo mSt) &&& (mSt (6 + (Int32.toNatClampNeg p0)))) mTo mSt (-4) j66_)), (6, .int (nI j66_)), (7, .int (F_X9_apart_113 j66_ mTo mSt 0 (Int32.toNatClampNeg (mTo 0))))] → W p l e rm_X9_apart s m ([.ref m0, .int p0, .int p1] : List Value).toArray below meth c H locs 0 0 (MQ below (q_Qi (f_X9_apart mTo mSt p0 p1)) ([.ref m0, .int p0, .int p1] : List Value).toArray s 0 0 q_no) (F0 m 164 ls []) := by
              intro H locs hP hS ls hl
              refine lv_iload hx hb dX9_apart_164 (lv_at hl 4 rfl) ?_
              refine lv_bipush (v := (-4)) hx hb dX9_apart_166 (by decide) ?_
              refine lv_icmp_eq (tgt := 178) hx hb dX9_apart_168 (by decide) (fun c_13 => ?_) (fun c_13 => ?_)
              · refine lv_iload hx hb dX9_apart_178 (lv_at hl 6 rfl) ?_
                refine lv_goto (tgt := 185) hx hb dX9_apart_180 (by decide) ?_
                refine lv_istore (lv' := [(5, .int (F_X9_apart_113 j66_ mTo mSt 0 (Int32.toNatClampNeg (mTo 0)))), (0, .ref m0), (2, .int p1), (3, .int (f_X9_alive mTo mSt)), (4, .int ((f_X9_alive mTo mSt) &&& (mSt (6 + (Int32.toNatClampNeg p0))))), (6, .int (nI j66_)), (7, .int (F_X9_apart_113 j66_ mTo mSt 0 (Int32.toNatClampNeg (mTo 0))))]) hx hb dX9_apart_185 hl (by decide) rfl (fun ls hl => ?_)
                refine lv_iinc (v := (nI (j66_ + 1))) (lv' := [(6, .int (nI (j66_ + 1))), (5, .int (F_X9_apart_113 j66_ mTo mSt 0 (Int32.toNatClampNeg (mTo 0)))), (0, .ref m0), (2, .int p1), (3, .int (f_X9_alive mTo mSt)), (4, .int ((f_X9_alive mTo mSt) &&& (mSt (6 + (Int32.toNatClampNeg p0))))), (7, .int (F_X9_apart_113 j66_ mTo mSt 0 (Int32.toNatClampNeg (mTo 0))))]) hx hb dX9_apart_187 hl (k := 5) rfl (nI_1 _) (by decide) rfl (fun ls hl => ?_)
                refine lv_goto (tgt := 66) hx hb dX9_apart_190 (by decide) ?_
                have e_14 : (F_X9_apart_66 p1 (f_X9_alive mTo mSt) ((f_X9_alive mTo mSt) &&& (mSt (6 + (Int32.toNatClampNeg p0)))) mTo mSt (-4) (j66_ + 1)) = (F_X9_apart_113 j66_ mTo mSt 0 (Int32.toNatClampNeg (mTo 0))) := by simp only [F_X9_apart_66, if_pos c_7, if_pos c_9, if_pos c_11, if_pos c_13]
                exact ih66_ (j66_ + 1) (by omega) _ _ hP hS _ (by rw [e_14]; exact (lv_sub hl [2, 3, 4, 5, 1, 0] rfl))
              refine lv_iload hx hb dX9_apart_171 (lv_at hl 6 rfl) ?_
              refine lv_iload hx hb dX9_apart_173 (lv_at hl 4 rfl) ?_
              refine lv_icmp_ge (tgt := 183) hx hb dX9_apart_175 (by decide) (fun c_15 => ?_) (fun c_15 => ?_)
              · refine lv_iload hx hb dX9_apart_183 (lv_at hl 4 rfl) ?_
                refine lv_istore (lv' := [(5, .int (F_X9_apart_66 p1 (f_X9_alive mTo mSt) ((f_X9_alive mTo mSt) &&& (mSt (6 + (Int32.toNatClampNeg p0)))) mTo mSt (-4) j66_)), (0, .ref m0), (2, .int p1), (3, .int (f_X9_alive mTo mSt)), (4, .int ((f_X9_alive mTo mSt) &&& (mSt (6 + (Int32.toNatClampNeg p0))))), (6, .int (nI j66_)), (7, .int (F_X9_apart_113 j66_ mTo mSt 0 (Int32.toNatClampNeg (mTo 0))))]) hx hb dX9_apart_185 hl (by decide) rfl (fun ls hl => ?_)
                refine lv_iinc (v := (nI (j66_ + 1))) (lv' := [(6, .int (nI (j66_ + 1))), (5, .int (F_X9_apart_66 p1 (f_X9_alive mTo mSt) ((f_X9_alive mTo mSt) &&& (mSt (6 + (Int32.toNatClampNeg p0)))) mTo mSt (-4) j66_)), (0, .ref m0), (2, .int p1), (3, .int (f_X9_alive mTo mSt)), (4, .int ((f_X9_alive mTo mSt) &&& (mSt (6 + (Int32.toNatClampNeg p0))))), (7, .int (F_X9_apart_113 j66_ mTo mSt 0 (Int32.toNatClampNeg (mTo 0))))]) hx hb dX9_apart_187 hl (k := 5) rfl (nI_1 _) (by decide) rfl (fun ls hl => ?_)
                refine lv_goto (tgt := 66) hx hb dX9_apart_190 (by decide) ?_
                have e_16 : (F_X9_apart_66 p1 (f_X9_alive mTo mSt) ((f_X9_alive mTo mSt) &&& (mSt (6 + (Int32.toNatClampNeg p0)))) mTo mSt (-4) (j66_ + 1)) = (F_X9_apart_66 p1 (f_X9_alive mTo mSt) ((f_X9_alive mTo mSt) &&& (mSt (6 + (Int32.toNatClampNeg p0)))) mTo mSt (-4) j66_) := by simp only [F_X9_apart_66, if_pos c_7, if_pos c_9, if_pos c_11, if_neg c_13, if_pos c_15]
                exact ih66_ (j66_ + 1) (by omega) _ _ hP hS _ (by rw [e_16]; exact (lv_sub hl [2, 3, 4, 5, 1, 0] rfl))
              refine lv_iload hx hb dX9_apart_178 (lv_at hl 6 rfl) ?_
              refine lv_goto (tgt := 185) hx hb dX9_apart_180 (by decide) ?_
              refine lv_istore (lv' := [(5, .int (F_X9_apart_113 j66_ mTo mSt 0 (Int32.toNatClampNeg (mTo 0)))), (0, .ref m0), (2, .int p1), (3, .int (f_X9_alive mTo mSt)), (4, .int ((f_X9_alive mTo mSt) &&& (mSt (6 + (Int32.toNatClampNeg p0))))), (6, .int (nI j66_)), (7, .int (F_X9_apart_113 j66_ mTo mSt 0 (Int32.toNatClampNeg (mTo 0))))]) hx hb dX9_apart_185 hl (by decide) rfl (fun ls hl => ?_)
              refine lv_iinc (v := (nI (j66_ + 1))) (lv' := [(6, .int (nI (j66_ + 1))), (5, .int (F_X9_apart_113 j66_ mTo mSt 0 (Int32.toNatClampNeg (mTo 0)))), (0, .ref m0), (2, .int p1), (3, .int (f_X9_alive mTo mSt)), (4, .int ((f_X9_alive mTo mSt) &&& (mSt (6 + (Int32.toNatClampNeg p0))))), (7, .int (F_X9_apart_113 j66_ mTo mSt 0 (Int32.toNatClampNeg (mTo 0))))]) hx hb dX9_apart_187 hl (k := 5) rfl (nI_1 _) (by decide) rfl (fun ls hl => ?_)
              refine lv_goto (tgt := 66) hx hb dX9_apart_190 (by decide) ?_
              have e_17 : (F_X9_apart_66 p1 (f_X9_alive mTo mSt) ((f_X9_alive mTo mSt) &&& (mSt (6 + (Int32.toNatClampNeg p0)))) mTo mSt (-4) (j66_ + 1)) = (F_X9_apart_113 j66_ mTo mSt 0 (Int32.toNatClampNeg (mTo 0))) := by simp only [F_X9_apart_66, if_pos c_7, if_pos c_9, if_pos c_11, if_neg c_13, if_neg c_15]
              exact ih66_ (j66_ + 1) (by omega) _ _ hP hS _ (by rw [e_17]; exact (lv_sub hl [2, 3, 4, 5, 1, 0] rfl))
            have loop113_ : ∀ (n113_ j113_ : Nat), j113_ + n113_ = (Int32.toNatClampNeg (mTo 0)) → ∀ (H : Heap) (locs : List Loc), va_P D vwCl [(m0, .inr (9, [.ref m1, .int (nI mTy), .ref m2, .ref m3, .ref m4, .ref m5, .int (nI mKn), .ref m6, .int (nI mKe), .ref m7, .int (nI mCa), .ref m8, .int (nI mSe), .int (nI mAt), .int mFi, .int mSc, .ref m9, .ref m10, .ref m11, .ref m12])), (m1, .inl (cI, 200, .inl mTx)), (m2, .inl (cI, 37, .inl mTo)), (m3, .inl (cI, 37, .inl mDr)), (m4, .inl (cI, 15, .inl mSt)), (m5, .inl (cI, 120, .inl mPa)), (m6, .inl (cI, 30, .inl mIm)), (m7, .inl (cI, 5, .inl mWi)), (m8, .inl (cI, 6, .inl mSn)), (m9, .inl (cI, 15, .inl mHe)), (m10, .inl (cI, 384, .inl mFw)), (m11, .inl (cI, 5, .inl mRo)), (m12, .inl (cI, 5, .inl mBe))] H → va_S q_no s.heap H locs → ∀ ls : Array Slot, lv_has ls 9 [(0, .ref m0), (2, .int p1), (3, .int (f_X9_alive mTo mSt)), (4, .int ((f_X9_alive mTo mSt) &&& (mSt (6 + (Int32.toNatClampNeg p0))))), (5, .int (F_X9_apart_66 p1 (f_X9_alive mTo mSt) ((f_X9_alive mTo mSt) &&& (mSt (6 + (Int32.toNatClampNeg p0)))) mTo mSt (-4) j66_)), (6, .int (nI j66_)), (7, .int (F_X9_apart_113 j66_ mTo mSt 0 j113_)), (8, .int (nI j113_))] → W p l e rm_X9_apart s m ([.ref m0, .int p0, .int p1] : List Value).toArray below meth c H locs 0 0 (MQ below (q_Qi (f_X9_apart mTo mSt p0 p1)) ([.ref m0, .int p0, .int p1] : List Value).toArray s 0 0 q_no) (F0 m 113 ls []) := by
              intro n113_
              induction n113_ with
              | zero =>
                intro j113_ hj113_ H locs hP hS ls hl
                obtain rfl : j113_ = (Int32.toNatClampNeg (mTo 0)) := by omega
                refine lv_iload hx hb dX9_apart_113 (lv_at hl 7 rfl) ?_
                refine lv_aload_n hx hb dX9_apart_115 rfl (lv_at hl 0 rfl) ?_
                refine va_get (D := D) (ci := 9) (v := .ref m2) (C := RX9) (T := TX9) (N := 20) hx hb hts hinX9 hown hK hP 0 rfl rfl 2 (by decide) hf13 (fun _ h9 => h9) rfl dX9_apart_116 ?_
                refine lv_iconst (v := 0) hx hb dX9_apart_119 (by decide) ?_
                refine q_iald hx hb hK hP 2 0 rfl rfl (vp_in_nI (n := 0) (N := 37) (by decide) (by decide)) 0 (by decide) dX9_apart_120 ?_
                refine lv_icmp_ge (tgt := 164) hx hb dX9_apart_121 (by decide) (fun c_18 => ?_) (fun c_18 => ?_)
                rotate_left
                · exact absurd k_ge c_18
                exact K113_ _ _ hP hS _ (lv_sub hl [0, 1, 2, 3, 4, 5, 6] rfl)
              | succ n113_ ih113_ =>
                intro j113_ hj113_ H locs hP hS ls hl
                refine lv_iload hx hb dX9_apart_113 (lv_at hl 7 rfl) ?_
                refine lv_aload_n hx hb dX9_apart_115 rfl (lv_at hl 0 rfl) ?_
                refine va_get (D := D) (ci := 9) (v := .ref m2) (C := RX9) (T := TX9) (N := 20) hx hb hts hinX9 hown hK hP 0 rfl rfl 2 (by decide) hf13 (fun _ h9 => h9) rfl dX9_apart_116 ?_
                refine lv_iconst (v := 0) hx hb dX9_apart_119 (by decide) ?_
                refine q_iald hx hb hK hP 2 0 rfl rfl (vp_in_nI (n := 0) (N := 37) (by decide) (by decide)) 0 (by decide) dX9_apart_120 ?_
                refine lv_icmp_ge (tgt := 164) hx hb dX9_apart_121 (by decide) (fun c_19 => ?_) (fun c_19 => ?_)
                · exact absurd c_19 (k_le (by omega))
                refine lv_iload hx hb dX9_apart_124 (lv_at hl 6 rfl) ?_
                refine lv_iload hx hb dX9_apart_126 (lv_at hl 5 rfl) ?_
                refine lv_iload hx hb dX9_apart_128 (lv_at hl 7 rfl) ?_
                refine lv_ishr hx hb dX9_apart_130 ?_
                refine lv_iconst (v := 1) hx hb dX9_apart_131 (by decide) ?_
                refine lv_iand hx hb dX9_apart_132 ?_
                refine lv_iconst (v := 1) hx hb dX9_apart_133 (by decide) ?_
                refine lv_icmp_ne (tgt := 154) hx hb dX9_apart_134 (by decide) (fun c_20 => ?_) (fun c_20 => ?_)
                · refine lv_iconst (v := 0) hx hb dX9_apart_154 (by decide) ?_
                  refine lv_iadd hx hb dX9_apart_155 ?_
                  refine lv_istore (lv' := [(7, .int ((F_X9_apart_113 j66_ mTo mSt 0 j113_) + 0)), (0, .ref m0), (2, .int p1), (3, .int (f_X9_alive mTo mSt)), (4, .int ((f_X9_alive mTo mSt) &&& (mSt (6 + (Int32.toNatClampNeg p0))))), (5, .int (F_X9_apart_66 p1 (f_X9_alive mTo mSt) ((f_X9_alive mTo mSt) &&& (mSt (6 + (Int32.toNatClampNeg p0)))) mTo mSt (-4) j66_)), (6, .int (nI j66_)), (8, .int (nI j113_))]) hx hb dX9_apart_156 hl (by decide) rfl (fun ls hl => ?_)
                  refine lv_iinc (v := (nI (j113_ + 1))) (lv' := [(8, .int (nI (j113_ + 1))), (7, .int ((F_X9_apart_113 j66_ mTo mSt 0 j113_) + 0)), (0, .ref m0), (2, .int p1), (3, .int (f_X9_alive mTo mSt)), (4, .int ((f_X9_alive mTo mSt) &&& (mSt (6 + (Int32.toNatClampNeg p0))))), (5, .int (F_X9_apart_66 p1 (f_X9_alive mTo mSt) ((f_X9_alive mTo mSt) &&& (mSt (6 + (Int32.toNatClampNeg p0)))) mTo mSt (-4) j66_)), (6, .int (nI j66_))]) hx hb dX9_apart_158 hl (k := 7) rfl (nI_1 _) (by decide) rfl (fun ls hl => ?_)
                  refine lv_goto (tgt := 113) hx hb dX9_apart_161 (by decide) ?_
                  have e_21 : (F_X9_apart_113 j66_ mTo mSt 0 (j113_ + 1)) = ((F_X9_apart_113 j66_ mTo mSt 0 j113_) + 0) := by simp only [F_X9_apart_113, if_neg c_20]
                  exact ih113_ (j113_ + 1) (by omega) _ _ hP hS _ (by rw [e_21]; exact (lv_sub hl [2, 3, 4, 5, 6, 7, 1, 0] rfl))
                refine lv_aload_n hx hb dX9_apart_137 rfl (lv_at hl 0 rfl) ?_
                refine lv_iload hx hb dX9_apart_138 (lv_at hl 7 rfl) ?_
                refine ro_i (va_runV (As := [.int (nI j113_)]) (rest := [.int (F_X9_apart_113 j66_ mTo mSt 0 j113_)]) ⟨hx, hb, hml, hown, hts⟩ (c_X9_met l D cI cC cG m0 m1 m2 m3 m4 m5 m6 m7 m8 m9 m10 m11 m12 mTy mKn mKe mCa mSe mAt mFi mSc mTx mTo mDr mSt mPa mIm mWi mSn mHe mFw mRo mBe (nI j113_) hM (vp_in_nI (by omega) (by decide))) (cwV 1 hts gX9_apart_X9_met rfl rfl rfl (by decide +kernel) ⟨Nat.le_of_ble_eq_true rfl, Nat.le_of_ble_eq_true rfl⟩) (q_preV hK hP hN [0, 1, 2, 3, 4, 5, 6, 7, 8, 9, 10, 11, 12] rfl (ci := 9) (q0 := 0) rfl rfl) rfl rfl hl.1 rfl (lv_room (Nat.le_of_ble_eq_true rfl)) dX9_apart_140 ⟨Nat.zero_le _, Nat.zero_le _⟩) hS hP (fun H locs hP hS => ?_)
                refine lv_iload hx hb dX9_apart_143 (lv_at hl 5 rfl) ?_
                refine lv_iconst (v := (-1)) hx hb dX9_apart_145 (by decide) ?_
                refine lv_ixor hx hb dX9_apart_146 ?_
                refine lv_iand hx hb dX9_apart_147 ?_
                refine ro_i (va_runS (As := [.int ((f_X9_met mTo mSt (nI j113_)) &&& ((nI j66_) ^^^ (-1)))]) (rest := [.int (F_X9_apart_113 j66_ mTo mSt 0 j113_)]) ⟨hx, hb, hml, hown, hts⟩ (c_X9_ones l D cI cC cG ((f_X9_met mTo mSt (nI j113_)) &&& ((nI j66_) ^^^ (-1)))) (cwS 1 hts gX9_apart_X9_ones rfl rfl rfl (by decide +kernel) ⟨Nat.le_of_ble_eq_true rfl, Nat.le_of_ble_eq_true rfl⟩) (q_preS hK hP hN [] rfl) rfl rfl hl.1 rfl (lv_room (Nat.le_of_ble_eq_true rfl)) dX9_apart_148 ⟨Nat.zero_le _, Nat.zero_le _⟩) hS hP (fun H locs hP hS => ?_)
                refine lv_goto (tgt := 155) hx hb dX9_apart_151 (by decide) ?_
                refine lv_iadd hx hb dX9_apart_155 ?_
                refine lv_istore (lv' := [(7, .int ((F_X9_apart_113 j66_ mTo mSt 0 j113_) + (f_X9_ones ((f_X9_met mTo mSt (nI j113_)) &&& ((nI j66_) ^^^ (-1)))))), (0, .ref m0), (2, .int p1), (3, .int (f_X9_alive mTo mSt)), (4, .int ((f_X9_alive mTo mSt) &&& (mSt (6 + (Int32.toNatClampNeg p0))))), (5, .int (F_X9_apart_66 p1 (f_X9_alive mTo mSt) ((f_X9_alive mTo mSt) &&& (mSt (6 + (Int32.toNatClampNeg p0)))) mTo mSt (-4) j66_)), (6, .int (nI j66_)), (8, .int (nI j113_))]) hx hb dX9_apart_156 hl (by decide) rfl (fun ls hl => ?_)
                refine lv_iinc (v := (nI (j113_ + 1))) (lv' := [(8, .int (nI (j113_ + 1))), (7, .int ((F_X9_apart_113 j66_ mTo mSt 0 j113_) + (f_X9_ones ((f_X9_met mTo mSt (nI j113_)) &&& ((nI j66_) ^^^ (-1)))))), (0, .ref m0), (2, .int p1), (3, .int (f_X9_alive mTo mSt)), (4, .int ((f_X9_alive mTo mSt) &&& (mSt (6 + (Int32.toNatClampNeg p0))))), (5, .int (F_X9_apart_66 p1 (f_X9_alive mTo mSt) ((f_X9_alive mTo mSt) &&& (mSt (6 + (Int32.toNatClampNeg p0)))) mTo mSt (-4) j66_)), (6, .int (nI j66_))]) hx hb dX9_apart_158 hl (k := 7) rfl (nI_1 _) (by decide) rfl (fun ls hl => ?_)
                refine lv_goto (tgt := 113) hx hb dX9_apart_161 (by decide) ?_
                have e_22 : (F_X9_apart_113 j66_ mTo mSt 0 (j113_ + 1)) = ((F_X9_apart_113 j66_ mTo mSt 0 j113_) + (f_X9_ones ((f_X9_met mTo mSt (nI j113_)) &&& ((nI j66_) ^^^ (-1))))) := by simp only [F_X9_apart_113, if_pos c_20]
                exact ih113_ (j113_ + 1) (by omega) _ _ hP hS _ (by rw [e_22]; exact (lv_sub hl [2, 3, 4, 5, 6, 7, 1, 0] rfl))
            exact loop113_ (Int32.toNatClampNeg (mTo 0)) 0 (by omega) _ _ hP hS _ (lv_sub hl [2, 3, 4, 5, 6, 7, 1, 0] rfl)
        exact loop66_ (Int32.toNatClampNeg ((1 : Int32) <<< ((mTo 0) &&& 31))) 0 (by omega) _ _ hP hS _ (lv_sub hl [4, 6, 3, 2, 1, 0] rfl)
      refine lv_bipush (v := (-4)) hx hb dX9_apart_38 (by decide) ?_
      exact ro_iret hx hb hr hlocks hS (by simp only [f_X9_apart, if_neg c_1, if_neg c_2, if_neg c_3, if_neg c_4]) dX9_apart_40
    refine lv_bipush (v := (-2)) hx hb dX9_apart_26 (by decide) ?_
    exact ro_iret hx hb hr hlocks hS (by simp only [f_X9_apart, if_neg c_1, if_neg c_2, if_pos c_3]) dX9_apart_28
  refine lv_iconst (v := (-1)) hx hb dX9_apart_16 (by decide) ?_
  exact ro_iret hx hb hr hlocks hS (by simp only [f_X9_apart, if_neg c_1, if_pos c_2]) dX9_apart_17
