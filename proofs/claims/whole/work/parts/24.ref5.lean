theorem rI_at (mTy : Nat) (mAt : Nat) (mTx : Nat → Int32) (p0 : Int32) : mAt ≤ g_X9_readsItem_mAt mTy mAt mTx p0 ∧ g_X9_readsItem_mAt mTy mAt mTx p0 ≤ mAt + 6 := by
  have h1 := number_at mTy mAt mTx
  have h2 := sign_at mTy (g_X9_number_mAt mTy mAt mTx) mTx 59
  have h3 := two_at mTy mAt mTx
  unfold g_X9_readsItem_mAt
  repeat' split
  all_goals omega
theorem rI_m {d : Nat → Int32} {a b : Int32} (h0 : vp_in (d 0) 7) (h1 : vp_in (d 1) 9) : vp_in (g_X9_meets_mDr d a b 0) 7 ∧ vp_in (g_X9_meets_mDr d a b 1) 9 := by
  unfold g_X9_meets_mDr
  rw [pk_un (by omega), pk_un (by omega), pk_un (by omega), pk_un (by omega)]
  exact ⟨h0, h1⟩
theorem rI_a {d : Nat → Int32} {a b : Int32} (h0 : vp_in (d 0) 7) (h1 : vp_in (d 1) 9) (hn : ¬ d 0 = 6) : vp_in (g_X9_adds_mDr d a b 0) 7 ∧ vp_in (g_X9_adds_mDr d a b 1) 9 := by
  unfold g_X9_adds_mDr
  rw [pk_us, pk_un (by decide), pk_un (by omega), pk_un (by omega)]
  exact ⟨in_addn (in_ne h0 hn (by decide)) 1 (by decide) (by decide), h1⟩
theorem rI_s {d : Nat → Int32} {a b : Int32} (h0 : vp_in (d 0) 7) (h1 : vp_in (d 1) 9) (hn : ¬ d 1 = 8) : vp_in (g_X9_secretOf_mDr d a b 0) 7 ∧ vp_in (g_X9_secretOf_mDr d a b 1) 9 := by
  unfold g_X9_secretOf_mDr
  rw [pk_us, pk_un (by decide), pk_un (by omega), pk_un (by omega)]
  exact ⟨h0, in_addn (in_ne h1 hn (by decide)) 1 (by decide) (by decide)⟩
theorem rI_u {d : Nat → Int32} {x : Int32} (h0 : vp_in (d 0) 7) (h1 : vp_in (d 1) 9) : vp_in (upd d 2 x 0) 7 ∧ vp_in (upd d 2 x 1) 9 := by
  rw [pk_un (by decide), pk_un (by decide)]
  exact ⟨h0, h1⟩
theorem rI_d (mTy : Nat) (mAt : Nat) (mSc : Int32) (mTx : Nat → Int32) (mDr : Nat → Int32) (p0 : Int32) (h0 : vp_in (mDr 0) 7) (h1 : vp_in (mDr 1) 9) : vp_in (g_X9_readsItem_mDr mTy mAt mSc mTx mDr p0 0) 7 ∧ vp_in (g_X9_readsItem_mDr mTy mAt mSc mTx mDr p0 1) 9 := by
  unfold g_X9_readsItem_mDr
  generalize g_X9_two_mFi mTy mAt mTx = fi
  generalize g_X9_two_mSc mTy mAt mSc mTx = sc
  generalize f_X9_number mTy mAt mTx = nu
  by_cases c1 : p0 = 100
  · rw [if_pos c1]
    exact rI_u h0 h1
  · rw [if_neg c1]
    by_cases c2 : p0 = 109
    · rw [if_pos c2]
      by_cases d1 : f_X9_two mTy mAt mTx = 0
      · rw [if_pos d1]; exact ⟨h0, h1⟩
      · rw [if_neg d1]
        by_cases d2 : mDr 0 ≤ fi
        · rw [if_pos d2]; exact ⟨h0, h1⟩
        · rw [if_neg d2]
          by_cases d3 : mDr 0 ≤ sc
          · rw [if_pos d3]; exact ⟨h0, h1⟩
          · rw [if_neg d3]
            by_cases d4 : fi = sc
            · rw [if_pos d4]; exact ⟨h0, h1⟩
            · rw [if_neg d4]; exact rI_m h0 h1
    · rw [if_neg c2]
      by_cases c3 : p0 = 112
      · rw [if_pos c3]
        by_cases d1 : f_X9_two mTy mAt mTx = 0
        · rw [if_pos d1]; exact ⟨h0, h1⟩
        · rw [if_neg d1]
          by_cases d2 : 60 < fi
          · rw [if_pos d2]; exact ⟨h0, h1⟩
          · rw [if_neg d2]
            by_cases d3 : 4 < sc
            · rw [if_pos d3]; exact ⟨h0, h1⟩
            · rw [if_neg d3]
              by_cases d4 : mDr 0 = 6
              · rw [if_pos d4]; exact ⟨h0, h1⟩
              · rw [if_neg d4]; exact rI_a h0 h1 d4
      · rw [if_neg c3]
        by_cases c4 : p0 = 115
        · rw [if_pos c4]
          by_cases d1 : f_X9_two mTy mAt mTx = 0
          · rw [if_pos d1]; exact ⟨h0, h1⟩
          · rw [if_neg d1]
            by_cases d2 : mDr 0 ≤ fi
            · rw [if_pos d2]; exact ⟨h0, h1⟩
            · rw [if_neg d2]
              by_cases d3 : 63 < sc
              · rw [if_pos d3]; exact ⟨h0, h1⟩
              · rw [if_neg d3]
                by_cases d4 : mDr 1 = 8
                · rw [if_pos d4]; exact ⟨h0, h1⟩
                · rw [if_neg d4]; exact rI_s h0 h1 d4
        · rw [if_neg c4]; exact ⟨h0, h1⟩
theorem beg_F (i0 : Nat → Int32) : ∀ n k : Nat, F_X9_begins_2 i0 n k = if k < n then 0 else i0 k
  | 0, k => by simp [F_X9_begins_2]
  | n + 1, k => by
    have ih := beg_F i0 n k
    simp only [F_X9_begins_2]
    by_cases h : k = n
    · subst h
      rw [pk_us, if_pos (Nat.lt_succ_self k)]
    · rw [pk_un h, ih]
      by_cases h2 : k < n
      · rw [if_pos h2, if_pos (by omega)]
      · rw [if_neg h2, if_neg (by omega)]
theorem beg_d (d : Nat → Int32) : vp_in (g_X9_begins_mDr d 0) 7 ∧ vp_in (g_X9_begins_mDr d 1) 9 := by
  unfold g_X9_begins_mDr
  rw [pk_un (by decide), pk_un (by decide), beg_F, beg_F]
  exact ⟨vp_in_nI (n := 0) (by decide) (by decide), vp_in_nI (n := 0) (by decide) (by decide)⟩
def L_X9_reads_9 (mTy : Nat) (mTx : Nat → Int32) : Nat → Nat → Int32 → Int32 → (Nat → Int32) → Int32 × Nat × Int32 × Int32 × (Nat → Int32)
  | 0, a0_, a1_, a2_, a3_ => ((-4), a0_, a1_, a2_, a3_)
  | n9_ + 1, a0_, a1_, a2_, a3_ => (if (nI mTy) ≤ (nI a0_) then ((-4), a0_, a1_, a2_, a3_) else (if (f_X9_readsItem mTy (a0_ + 1) a2_ mTx a3_ (mTx a0_)) = 0 then ((nI a0_), (g_X9_readsItem_mAt mTy (a0_ + 1) mTx (mTx a0_)), (g_X9_readsItem_mFi mTy (a0_ + 1) a1_ mTx (mTx a0_)), (g_X9_readsItem_mSc mTy (a0_ + 1) a2_ mTx (mTx a0_)), (g_X9_readsItem_mDr mTy (a0_ + 1) a2_ mTx a3_ (mTx a0_))) else L_X9_reads_9 mTy mTx n9_ (g_X9_readsItem_mAt mTy (a0_ + 1) mTx (mTx a0_)) (g_X9_readsItem_mFi mTy (a0_ + 1) a1_ mTx (mTx a0_)) (g_X9_readsItem_mSc mTy (a0_ + 1) a2_ mTx (mTx a0_)) (g_X9_readsItem_mDr mTy (a0_ + 1) a2_ mTx a3_ (mTx a0_))))
def f_X9_reads (mTy : Nat) (mFi : Int32) (mSc : Int32) (mTx : Nat → Int32) (mDr : Nat → Int32) : Int32 := (L_X9_reads_9 mTy mTx 201 0 mFi mSc (g_X9_begins_mDr mDr)).1
def g_X9_reads_mAt (mTy : Nat) (mFi : Int32) (mSc : Int32) (mTx : Nat → Int32) (mDr : Nat → Int32) : Nat := (L_X9_reads_9 mTy mTx 201 0 mFi mSc (g_X9_begins_mDr mDr)).2.1
def g_X9_reads_mFi (mTy : Nat) (mFi : Int32) (mSc : Int32) (mTx : Nat → Int32) (mDr : Nat → Int32) : Int32 := (L_X9_reads_9 mTy mTx 201 0 mFi mSc (g_X9_begins_mDr mDr)).2.2.1
def g_X9_reads_mSc (mTy : Nat) (mFi : Int32) (mSc : Int32) (mTx : Nat → Int32) (mDr : Nat → Int32) : Int32 := (L_X9_reads_9 mTy mTx 201 0 mFi mSc (g_X9_begins_mDr mDr)).2.2.2.1
def g_X9_reads_mDr (mTy : Nat) (mFi : Int32) (mSc : Int32) (mTx : Nat → Int32) (mDr : Nat → Int32) : Nat → Int32 := (L_X9_reads_9 mTy mTx 201 0 mFi mSc (g_X9_begins_mDr mDr)).2.2.2.2
abbrev rm_X9_reads : Room := { frames := 5, cells := 0, slots := 0, locals := 104 }
set_option maxRecDepth 100000 in
set_option maxHeartbeats 4000000 in
theorem c_X9_reads (l : Launch) (D : va_G) (cI cC cG : ClassId) (m0 : Nat) (m1 : Nat) (m2 : Nat) (m3 : Nat) (m4 : Nat) (m5 : Nat) (m6 : Nat) (m7 : Nat) (m8 : Nat) (m9 : Nat) (m10 : Nat) (m11 : Nat) (m12 : Nat) (mTy : Nat) (mKn : Nat) (mKe : Nat) (mCa : Nat) (mSe : Nat) (mAt : Nat) (mFi : Int32) (mSc : Int32) (mTx : Nat → Int32) (mTo : Nat → Int32) (mDr : Nat → Int32) (mSt : Nat → Int32) (mPa : Nat → Int32) (mIm : Nat → Int32) (mWi : Nat → Int32) (mSn : Nat → Int32) (mHe : Nat → Int32) (mFw : Nat → Int32) (mRo : Nat → Int32) (mBe : Nat → Int32) (sz : Nat) (hty : mTy ≤ 200) : RwI l yX9_reads wsX9_reads rm_X9_reads D (q_t cI cC cG) (wM cI cC cG m0 m1 m2 m3 m4 m5 m6 m7 m8 m9 m10 m11 m12 mTy mKn mKe mCa mSe mAt mFi mSc mTx mTo mDr mSt mPa mIm mWi mSn mHe mFw mRo mBe) (wM cI cC cG m0 m1 m2 m3 m4 m5 m6 m7 m8 m9 m10 m11 m12 mTy mKn mKe mCa mSe (g_X9_reads_mAt mTy mFi mSc mTx mDr) (g_X9_reads_mFi mTy mFi mSc mTx mDr) (g_X9_reads_mSc mTy mFi mSc mTx mDr) mTx mTo (g_X9_reads_mDr mTy mFi mSc mTx mDr) mSt mPa mIm mWi mSn mHe mFw mRo mBe) sz [.ref m0] (f_X9_reads mTy mFi mSc mTx mDr) := by
  refine rw_enter (cc := cX9_reads) (maxL := 2) (ret := (some .int)) (by decide) rfl (Nat.le_of_ble_eq_true rfl) ?_
  intro p e s m below meth c ls B hP hK hD hS hA hl
  obtain ⟨hx, hb, hr, hlocks, hml, hown, hts, hN⟩ := B
  have hown : s.vm.findClass RX9 = some m.cls := hown
  have hl : lv_has ls 2 [(0, .ref m0)] := hl
  have hf70 := hts (.fieldLink RX9 70 "OlderByABlushModel" "at" "I") (by decide +kernel)
  have hinX9 : ∀ w ∈ u_ws RX9 TX9 20, w ∈ wsX9_reads := by decide +kernel
  have hf66 := hts (.fieldLink RX9 66 "OlderByABlushModel" "typed" "I") (by decide +kernel)
  have hf7 := hts (.fieldLink RX9 7 "OlderByABlushModel" "text" "[I") (by decide +kernel)
  refine lv_aload_n hx hb dX9_reads_0 rfl (lv_at hl 0 rfl) ?_
  refine rw_v0 (va_runV (As := []) (rest := []) ⟨hx, hb, hml, hown, hts⟩ (c_X9_begins l D cI cC cG m0 m1 m2 m3 m4 m5 m6 m7 m8 m9 m10 m11 m12 mTy mKn mKe mCa mSe mAt mFi mSc mTx mTo mDr mSt mPa mIm mWi mSn mHe mFw mRo mBe s.heap.size) (cwV 0 hts gX9_reads_X9_begins rfl rfl rfl (by decide +kernel) ⟨Nat.le_of_ble_eq_true rfl, Nat.le_of_ble_eq_true rfl⟩) (q_preWV hK hP hD hN [0, 1, 2, 3, 4, 5, 6, 7, 8, 9, 10, 11, 12] (by decide) rfl rfl (ci := 9) (q0 := 0) rfl rfl) rfl rfl hl.1 rfl (lv_room (Nat.le_of_ble_eq_true rfl)) dX9_reads_1 ⟨Nat.zero_le _, Nat.zero_le _⟩) hS hA hD (fun H locs hP hD hS => ?_)
  have hP : va_P D vwCl [(m0, .inr (9, [.ref m1, .int (nI mTy), .ref m2, .ref m3, .ref m4, .ref m5, .int (nI mKn), .ref m6, .int (nI mKe), .ref m7, .int (nI mCa), .ref m8, .int (nI mSe), .int (nI mAt), .int mFi, .int mSc, .ref m9, .ref m10, .ref m11, .ref m12])), (m1, .inl (cI, 200, .inl mTx)), (m2, .inl (cI, 37, .inl mTo)), (m3, .inl (cI, 37, .inl (g_X9_begins_mDr mDr))), (m4, .inl (cI, 15, .inl mSt)), (m5, .inl (cI, 120, .inl mPa)), (m6, .inl (cI, 30, .inl mIm)), (m7, .inl (cI, 5, .inl mWi)), (m8, .inl (cI, 6, .inl mSn)), (m9, .inl (cI, 15, .inl mHe)), (m10, .inl (cI, 384, .inl mFw)), (m11, .inl (cI, 5, .inl mRo)), (m12, .inl (cI, 5, .inl mBe))] H := hP
  have hD : va_D (va_A (wM cI cC cG m0 m1 m2 m3 m4 m5 m6 m7 m8 m9 m10 m11 m12 mTy mKn mKe mCa mSe mAt mFi mSc mTx mTo mDr mSt mPa mIm mWi mSn mHe mFw mRo mBe) sz) [(m0, .inr (9, [.ref m1, .int (nI mTy), .ref m2, .ref m3, .ref m4, .ref m5, .int (nI mKn), .ref m6, .int (nI mKe), .ref m7, .int (nI mCa), .ref m8, .int (nI mSe), .int (nI mAt), .int mFi, .int mSc, .ref m9, .ref m10, .ref m11, .ref m12])), (m1, .inl (cI, 200, .inl mTx)), (m2, .inl (cI, 37, .inl mTo)), (m3, .inl (cI, 37, .inl (g_X9_begins_mDr mDr))), (m4, .inl (cI, 15, .inl mSt)), (m5, .inl (cI, 120, .inl mPa)), (m6, .inl (cI, 30, .inl mIm)), (m7, .inl (cI, 5, .inl mWi)), (m8, .inl (cI, 6, .inl mSn)), (m9, .inl (cI, 15, .inl mHe)), (m10, .inl (cI, 384, .inl mFw)), (m11, .inl (cI, 5, .inl mRo)), (m12, .inl (cI, 5, .inl mBe))] := hD
  refine lv_aload_n hx hb dX9_reads_4 rfl (lv_at hl 0 rfl) ?_
  refine lv_iconst (v := 0) hx hb dX9_reads_5 (by decide) ?_
  refine va_put (D := D) (ci := 9) (v := .int 0) (ty := .int) (C := RX9) (T := TX9) (N := 20) hx hb hts hinX9 tyX9 tyX9_ok nmX9 hown hK hP hD hS 0 rfl rfl 13 (by decide) hf70 (fun _ h9 => h9) rfl (by decide +kernel) rfl rfl (Nat.le_of_ble_eq_true rfl) dX9_reads_6 (fun H locs hP hD hS => ?_)
  have hP : va_P D vwCl [(m0, .inr (9, [.ref m1, .int (nI mTy), .ref m2, .ref m3, .ref m4, .ref m5, .int (nI mKn), .ref m6, .int (nI mKe), .ref m7, .int (nI mCa), .ref m8, .int (nI mSe), .int 0, .int mFi, .int mSc, .ref m9, .ref m10, .ref m11, .ref m12])), (m1, .inl (cI, 200, .inl mTx)), (m2, .inl (cI, 37, .inl mTo)), (m3, .inl (cI, 37, .inl (g_X9_begins_mDr mDr))), (m4, .inl (cI, 15, .inl mSt)), (m5, .inl (cI, 120, .inl mPa)), (m6, .inl (cI, 30, .inl mIm)), (m7, .inl (cI, 5, .inl mWi)), (m8, .inl (cI, 6, .inl mSn)), (m9, .inl (cI, 15, .inl mHe)), (m10, .inl (cI, 384, .inl mFw)), (m11, .inl (cI, 5, .inl mRo)), (m12, .inl (cI, 5, .inl mBe))] H := hP
  have hD : va_D (va_A (wM cI cC cG m0 m1 m2 m3 m4 m5 m6 m7 m8 m9 m10 m11 m12 mTy mKn mKe mCa mSe mAt mFi mSc mTx mTo mDr mSt mPa mIm mWi mSn mHe mFw mRo mBe) sz) [(m0, .inr (9, [.ref m1, .int (nI mTy), .ref m2, .ref m3, .ref m4, .ref m5, .int (nI mKn), .ref m6, .int (nI mKe), .ref m7, .int (nI mCa), .ref m8, .int (nI mSe), .int 0, .int mFi, .int mSc, .ref m9, .ref m10, .ref m11, .ref m12])), (m1, .inl (cI, 200, .inl mTx)), (m2, .inl (cI, 37, .inl mTo)), (m3, .inl (cI, 37, .inl (g_X9_begins_mDr mDr))), (m4, .inl (cI, 15, .inl mSt)), (m5, .inl (cI, 120, .inl mPa)), (m6, .inl (cI, 30, .inl mIm)), (m7, .inl (cI, 5, .inl mWi)), (m8, .inl (cI, 6, .inl mSn)), (m9, .inl (cI, 15, .inl mHe)), (m10, .inl (cI, 384, .inl mFw)), (m11, .inl (cI, 5, .inl mRo)), (m12, .inl (cI, 5, .inl mBe))] := hD
  have hr9_ : (f_X9_reads mTy mFi mSc mTx mDr) = (L_X9_reads_9 mTy mTx 201 0 mFi mSc (g_X9_begins_mDr mDr)).1 := by simp only [f_X9_reads]
  have ho9_0 : (g_X9_reads_mAt mTy mFi mSc mTx mDr) = (L_X9_reads_9 mTy mTx 201 0 mFi mSc (g_X9_begins_mDr mDr)).2.1 := by simp only [g_X9_reads_mAt]
  have ho9_1 : (g_X9_reads_mFi mTy mFi mSc mTx mDr) = (L_X9_reads_9 mTy mTx 201 0 mFi mSc (g_X9_begins_mDr mDr)).2.2.1 := by simp only [g_X9_reads_mFi]
  have ho9_2 : (g_X9_reads_mSc mTy mFi mSc mTx mDr) = (L_X9_reads_9 mTy mTx 201 0 mFi mSc (g_X9_begins_mDr mDr)).2.2.2.1 := by simp only [g_X9_reads_mSc]
  have ho9_3 : (g_X9_reads_mDr mTy mFi mSc mTx mDr) = (L_X9_reads_9 mTy mTx 201 0 mFi mSc (g_X9_begins_mDr mDr)).2.2.2.2 := by simp only [g_X9_reads_mDr]
  have loop9_ : ∀ (n9_ : Nat) (a9_0 : Nat) (a9_1 : Int32) (a9_2 : Int32) (a9_3 : Nat → Int32), mTy ≤ a9_0 + n9_ ∧ a9_0 ≤ 300 ∧ vp_in (a9_3 0) 7 ∧ vp_in (a9_3 1) 9 → (L_X9_reads_9 mTy mTx n9_ a9_0 a9_1 a9_2 a9_3) = (L_X9_reads_9 mTy mTx 201 0 mFi mSc (g_X9_begins_mDr mDr)) → ∀ (H : Heap) (locs : List Loc), va_P D vwCl [(m0, .inr (9, [.ref m1, .int (nI mTy), .ref m2, .ref m3, .ref m4, .ref m5, .int (nI mKn), .ref m6, .int (nI mKe), .ref m7, .int (nI mCa), .ref m8, .int (nI mSe), .int (nI a9_0), .int a9_1, .int a9_2, .ref m9, .ref m10, .ref m11, .ref m12])), (m1, .inl (cI, 200, .inl mTx)), (m2, .inl (cI, 37, .inl mTo)), (m3, .inl (cI, 37, .inl a9_3)), (m4, .inl (cI, 15, .inl mSt)), (m5, .inl (cI, 120, .inl mPa)), (m6, .inl (cI, 30, .inl mIm)), (m7, .inl (cI, 5, .inl mWi)), (m8, .inl (cI, 6, .inl mSn)), (m9, .inl (cI, 15, .inl mHe)), (m10, .inl (cI, 384, .inl mFw)), (m11, .inl (cI, 5, .inl mRo)), (m12, .inl (cI, 5, .inl mBe))] H → va_D (va_A (wM cI cC cG m0 m1 m2 m3 m4 m5 m6 m7 m8 m9 m10 m11 m12 mTy mKn mKe mCa mSe mAt mFi mSc mTx mTo mDr mSt mPa mIm mWi mSn mHe mFw mRo mBe) sz) [(m0, .inr (9, [.ref m1, .int (nI mTy), .ref m2, .ref m3, .ref m4, .ref m5, .int (nI mKn), .ref m6, .int (nI mKe), .ref m7, .int (nI mCa), .ref m8, .int (nI mSe), .int (nI a9_0), .int a9_1, .int a9_2, .ref m9, .ref m10, .ref m11, .ref m12])), (m1, .inl (cI, 200, .inl mTx)), (m2, .inl (cI, 37, .inl mTo)), (m3, .inl (cI, 37, .inl a9_3)), (m4, .inl (cI, 15, .inl mSt)), (m5, .inl (cI, 120, .inl mPa)), (m6, .inl (cI, 30, .inl mIm)), (m7, .inl (cI, 5, .inl mWi)), (m8, .inl (cI, 6, .inl mSn)), (m9, .inl (cI, 15, .inl mHe)), (m10, .inl (cI, 384, .inl mFw)), (m11, .inl (cI, 5, .inl mRo)), (m12, .inl (cI, 5, .inl mBe))] → va_S (va_A (wM cI cC cG m0 m1 m2 m3 m4 m5 m6 m7 m8 m9 m10 m11 m12 mTy mKn mKe mCa mSe mAt mFi mSc mTx mTo mDr mSt mPa mIm mWi mSn mHe mFw mRo mBe) sz) s.heap H locs → ∀ ls : Array Slot, lv_has ls 2 [(0, .ref m0)] → W p l e rm_X9_reads s m ([.ref m0] : List Value).toArray below meth c H locs 0 0 (MQ below (q_QWi D (wM cI cC cG m0 m1 m2 m3 m4 m5 m6 m7 m8 m9 m10 m11 m12 mTy mKn mKe mCa mSe mAt mFi mSc mTx mTo mDr mSt mPa mIm mWi mSn mHe mFw mRo mBe) (wM cI cC cG m0 m1 m2 m3 m4 m5 m6 m7 m8 m9 m10 m11 m12 mTy mKn mKe mCa mSe (g_X9_reads_mAt mTy mFi mSc mTx mDr) (g_X9_reads_mFi mTy mFi mSc mTx mDr) (g_X9_reads_mSc mTy mFi mSc mTx mDr) mTx mTo (g_X9_reads_mDr mTy mFi mSc mTx mDr) mSt mPa mIm mWi mSn mHe mFw mRo mBe) sz (f_X9_reads mTy mFi mSc mTx mDr)) ([.ref m0] : List Value).toArray s 0 0 (va_A (wM cI cC cG m0 m1 m2 m3 m4 m5 m6 m7 m8 m9 m10 m11 m12 mTy mKn mKe mCa mSe mAt mFi mSc mTx mTo mDr mSt mPa mIm mWi mSn mHe mFw mRo mBe) sz)) (F0 m 9 ls []) := by
    intro n9_
    induction n9_ with
    | zero =>
      intro a9_0 a9_1 a9_2 a9_3 hj9_ hv9_ H locs hP hD hS ls hl
      obtain ⟨hq1, hq2, hq3, hq4⟩ := hj9_
      refine lv_aload_n hx hb dX9_reads_9 rfl (lv_at hl 0 rfl) ?_
      refine va_get (D := D) (ci := 9) (v := .int (nI a9_0)) (C := RX9) (T := TX9) (N := 20) hx hb hts hinX9 hown hK hP 0 rfl rfl 13 (by decide) hf70 (fun _ h9 => h9) rfl dX9_reads_10 ?_
      refine lv_aload_n hx hb dX9_reads_13 rfl (lv_at hl 0 rfl) ?_
      refine va_get (D := D) (ci := 9) (v := .int (nI mTy)) (C := RX9) (T := TX9) (N := 20) hx hb hts hinX9 hown hK hP 0 rfl rfl 1 (by decide) hf66 (fun _ h9 => h9) rfl dX9_reads_14 ?_
      refine lv_icmp_ge (tgt := 53) hx hb dX9_reads_17 (by decide) (fun c_1 => ?_) (fun c_1 => ?_)
      rotate_left
      · exact absurd (nI_le (show mTy ≤ a9_0 from by omega) (by omega)) c_1
      refine lv_bipush (v := (-4)) hx hb dX9_reads_53 (by decide) ?_
      have e_2 : (g_X9_reads_mAt mTy mFi mSc mTx mDr) = a9_0 := by rw [ho9_0, ← hv9_]; simp only [L_X9_reads_9]
      have e_3 : (g_X9_reads_mFi mTy mFi mSc mTx mDr) = a9_1 := by rw [ho9_1, ← hv9_]; simp only [L_X9_reads_9]
      have e_4 : (g_X9_reads_mSc mTy mFi mSc mTx mDr) = a9_2 := by rw [ho9_2, ← hv9_]; simp only [L_X9_reads_9]
      have e_5 : (g_X9_reads_mDr mTy mFi mSc mTx mDr) = a9_3 := by rw [ho9_3, ← hv9_]; simp only [L_X9_reads_9]
      exact rw_iret hx hb hr hlocks hP hD hS (by rw [hr9_, ← hv9_]; simp only [L_X9_reads_9]) (by rw [e_2, e_3, e_4, e_5] <;> rfl) dX9_reads_55
    | succ n9_ ih9_ =>
      intro a9_0 a9_1 a9_2 a9_3 hj9_ hv9_ H locs hP hD hS ls hl
      obtain ⟨hq1, hq2, hq3, hq4⟩ := hj9_
      refine lv_aload_n hx hb dX9_reads_9 rfl (lv_at hl 0 rfl) ?_
      refine va_get (D := D) (ci := 9) (v := .int (nI a9_0)) (C := RX9) (T := TX9) (N := 20) hx hb hts hinX9 hown hK hP 0 rfl rfl 13 (by decide) hf70 (fun _ h9 => h9) rfl dX9_reads_10 ?_
      refine lv_aload_n hx hb dX9_reads_13 rfl (lv_at hl 0 rfl) ?_
      refine va_get (D := D) (ci := 9) (v := .int (nI mTy)) (C := RX9) (T := TX9) (N := 20) hx hb hts hinX9 hown hK hP 0 rfl rfl 1 (by decide) hf66 (fun _ h9 => h9) rfl dX9_reads_14 ?_
      refine lv_icmp_ge (tgt := 53) hx hb dX9_reads_17 (by decide) (fun c_6 => ?_) (fun c_6 => ?_)
      · have nc_6 := k_leT (a := mTy) (b := a9_0) (by omega) (by omega) c_6
        refine lv_bipush (v := (-4)) hx hb dX9_reads_53 (by decide) ?_
        have e_7 : (g_X9_reads_mAt mTy mFi mSc mTx mDr) = a9_0 := by rw [ho9_0, ← hv9_]; simp only [L_X9_reads_9, if_pos c_6]
        have e_8 : (g_X9_reads_mFi mTy mFi mSc mTx mDr) = a9_1 := by rw [ho9_1, ← hv9_]; simp only [L_X9_reads_9, if_pos c_6]
        have e_9 : (g_X9_reads_mSc mTy mFi mSc mTx mDr) = a9_2 := by rw [ho9_2, ← hv9_]; simp only [L_X9_reads_9, if_pos c_6]
        have e_10 : (g_X9_reads_mDr mTy mFi mSc mTx mDr) = a9_3 := by rw [ho9_3, ← hv9_]; simp only [L_X9_reads_9, if_pos c_6]
        exact rw_iret hx hb hr hlocks hP hD hS (by rw [hr9_, ← hv9_]; simp only [L_X9_reads_9, if_pos c_6]) (by rw [e_7, e_8, e_9, e_10] <;> rfl) dX9_reads_55
      have nc_6 := k_leF (a := mTy) (b := a9_0) (by omega) (by omega) c_6
      refine lv_aload_n hx hb dX9_reads_20 rfl (lv_at hl 0 rfl) ?_
      refine va_get (D := D) (ci := 9) (v := .int (nI a9_0)) (C := RX9) (T := TX9) (N := 20) hx hb hts hinX9 hown hK hP 0 rfl rfl 13 (by decide) hf70 (fun _ h9 => h9) rfl dX9_reads_21 ?_
      refine lv_istore_n (lv' := [(1, .int (nI a9_0)), (0, .ref m0)]) hx hb dX9_reads_24 rfl hl (by decide) rfl (fun ls hl => ?_)
      refine lv_aload_n hx hb dX9_reads_25 rfl (lv_at hl 1 rfl) ?_
      refine lv_dup hx hb dX9_reads_26 rfl ?_
      refine va_get (D := D) (ci := 9) (v := .int (nI a9_0)) (C := RX9) (T := TX9) (N := 20) hx hb hts hinX9 hown hK hP 0 rfl rfl 13 (by decide) hf70 (fun _ h9 => h9) rfl dX9_reads_27 ?_
      refine lv_iconst (v := 1) hx hb dX9_reads_30 (by decide) ?_
      refine q_iaddN (a := a9_0) (b := 1) hx hb dX9_reads_31 ?_
      refine va_put (D := D) (ci := 9) (v := .int (nI (a9_0 + 1))) (ty := .int) (C := RX9) (T := TX9) (N := 20) hx hb hts hinX9 tyX9 tyX9_ok nmX9 hown hK hP hD hS 0 rfl rfl 13 (by decide) hf70 (fun _ h9 => h9) rfl (by decide +kernel) rfl rfl (Nat.le_of_ble_eq_true rfl) dX9_reads_32 (fun H locs hP hD hS => ?_)
      have hP : va_P D vwCl [(m0, .inr (9, [.ref m1, .int (nI mTy), .ref m2, .ref m3, .ref m4, .ref m5, .int (nI mKn), .ref m6, .int (nI mKe), .ref m7, .int (nI mCa), .ref m8, .int (nI mSe), .int (nI (a9_0 + 1)), .int a9_1, .int a9_2, .ref m9, .ref m10, .ref m11, .ref m12])), (m1, .inl (cI, 200, .inl mTx)), (m2, .inl (cI, 37, .inl mTo)), (m3, .inl (cI, 37, .inl a9_3)), (m4, .inl (cI, 15, .inl mSt)), (m5, .inl (cI, 120, .inl mPa)), (m6, .inl (cI, 30, .inl mIm)), (m7, .inl (cI, 5, .inl mWi)), (m8, .inl (cI, 6, .inl mSn)), (m9, .inl (cI, 15, .inl mHe)), (m10, .inl (cI, 384, .inl mFw)), (m11, .inl (cI, 5, .inl mRo)), (m12, .inl (cI, 5, .inl mBe))] H := hP
      have hD : va_D (va_A (wM cI cC cG m0 m1 m2 m3 m4 m5 m6 m7 m8 m9 m10 m11 m12 mTy mKn mKe mCa mSe mAt mFi mSc mTx mTo mDr mSt mPa mIm mWi mSn mHe mFw mRo mBe) sz) [(m0, .inr (9, [.ref m1, .int (nI mTy), .ref m2, .ref m3, .ref m4, .ref m5, .int (nI mKn), .ref m6, .int (nI mKe), .ref m7, .int (nI mCa), .ref m8, .int (nI mSe), .int (nI (a9_0 + 1)), .int a9_1, .int a9_2, .ref m9, .ref m10, .ref m11, .ref m12])), (m1, .inl (cI, 200, .inl mTx)), (m2, .inl (cI, 37, .inl mTo)), (m3, .inl (cI, 37, .inl a9_3)), (m4, .inl (cI, 15, .inl mSt)), (m5, .inl (cI, 120, .inl mPa)), (m6, .inl (cI, 30, .inl mIm)), (m7, .inl (cI, 5, .inl mWi)), (m8, .inl (cI, 6, .inl mSn)), (m9, .inl (cI, 15, .inl mHe)), (m10, .inl (cI, 384, .inl mFw)), (m11, .inl (cI, 5, .inl mRo)), (m12, .inl (cI, 5, .inl mBe))] := hD
      refine lv_aload_n hx hb dX9_reads_35 rfl (lv_at hl 1 rfl) ?_
      refine lv_aload_n hx hb dX9_reads_36 rfl (lv_at hl 1 rfl) ?_
      refine va_get (D := D) (ci := 9) (v := .ref m1) (C := RX9) (T := TX9) (N := 20) hx hb hts hinX9 hown hK hP 0 rfl rfl 0 (by decide) hf7 (fun _ h9 => h9) rfl dX9_reads_37 ?_
      refine lv_iload_n hx hb dX9_reads_40 rfl (lv_at hl 0 rfl) ?_
      refine q_iald hx hb hK hP 1 0 rfl rfl (vp_in_nI (by omega) (by decide)) a9_0 (nI_clamp (by omega)) dX9_reads_41 ?_
      refine rw_i0 (va_runV (As := [.int (mTx a9_0)]) (rest := []) ⟨hx, hb, hml, hown, hts⟩ (c_X9_readsItem l D cI cC cG m0 m1 m2 m3 m4 m5 m6 m7 m8 m9 m10 m11 m12 mTy mKn mKe mCa mSe (a9_0 + 1) a9_1 a9_2 mTx mTo a9_3 mSt mPa mIm mWi mSn mHe mFw mRo mBe (mTx a9_0) H.size (by omega) (by omega) hq3 hq4) (cwV 1 hts gX9_reads_X9_readsItem rfl rfl rfl (by decide +kernel) ⟨Nat.le_of_ble_eq_true rfl, Nat.le_of_ble_eq_true rfl⟩) (q_preWV hK hP hD hN [0, 1, 2, 3, 4, 5, 6, 7, 8, 9, 10, 11, 12] (by decide) rfl rfl (ci := 9) (q0 := 0) rfl rfl) rfl rfl hl.1 rfl (lv_room (Nat.le_of_ble_eq_true rfl)) dX9_reads_42 ⟨Nat.zero_le _, Nat.zero_le _⟩) hS hA hD (fun H locs hP hD hS => ?_)
      have hP : va_P D vwCl [(m0, .inr (9, [.ref m1, .int (nI mTy), .ref m2, .ref m3, .ref m4, .ref m5, .int (nI mKn), .ref m6, .int (nI mKe), .ref m7, .int (nI mCa), .ref m8, .int (nI mSe), .int (nI (g_X9_readsItem_mAt mTy (a9_0 + 1) mTx (mTx a9_0))), .int (g_X9_readsItem_mFi mTy (a9_0 + 1) a9_1 mTx (mTx a9_0)), .int (g_X9_readsItem_mSc mTy (a9_0 + 1) a9_2 mTx (mTx a9_0)), .ref m9, .ref m10, .ref m11, .ref m12])), (m1, .inl (cI, 200, .inl mTx)), (m2, .inl (cI, 37, .inl mTo)), (m3, .inl (cI, 37, .inl (g_X9_readsItem_mDr mTy (a9_0 + 1) a9_2 mTx a9_3 (mTx a9_0)))), (m4, .inl (cI, 15, .inl mSt)), (m5, .inl (cI, 120, .inl mPa)), (m6, .inl (cI, 30, .inl mIm)), (m7, .inl (cI, 5, .inl mWi)), (m8, .inl (cI, 6, .inl mSn)), (m9, .inl (cI, 15, .inl mHe)), (m10, .inl (cI, 384, .inl mFw)), (m11, .inl (cI, 5, .inl mRo)), (m12, .inl (cI, 5, .inl mBe))] H := hP
      have hD : va_D (va_A (wM cI cC cG m0 m1 m2 m3 m4 m5 m6 m7 m8 m9 m10 m11 m12 mTy mKn mKe mCa mSe mAt mFi mSc mTx mTo mDr mSt mPa mIm mWi mSn mHe mFw mRo mBe) sz) [(m0, .inr (9, [.ref m1, .int (nI mTy), .ref m2, .ref m3, .ref m4, .ref m5, .int (nI mKn), .ref m6, .int (nI mKe), .ref m7, .int (nI mCa), .ref m8, .int (nI mSe), .int (nI (g_X9_readsItem_mAt mTy (a9_0 + 1) mTx (mTx a9_0))), .int (g_X9_readsItem_mFi mTy (a9_0 + 1) a9_1 mTx (mTx a9_0)), .int (g_X9_readsItem_mSc mTy (a9_0 + 1) a9_2 mTx (mTx a9_0)), .ref m9, .ref m10, .ref m11, .ref m12])), (m1, .inl (cI, 200, .inl mTx)), (m2, .inl (cI, 37, .inl mTo)), (m3, .inl (cI, 37, .inl (g_X9_readsItem_mDr mTy (a9_0 + 1) a9_2 mTx a9_3 (mTx a9_0)))), (m4, .inl (cI, 15, .inl mSt)), (m5, .inl (cI, 120, .inl mPa)), (m6, .inl (cI, 30, .inl mIm)), (m7, .inl (cI, 5, .inl mWi)), (m8, .inl (cI, 6, .inl mSn)), (m9, .inl (cI, 15, .inl mHe)), (m10, .inl (cI, 384, .inl mFw)), (m11, .inl (cI, 5, .inl mRo)), (m12, .inl (cI, 5, .inl mBe))] := hD
      have hp_11 := rI_at mTy (a9_0 + 1) mTx (mTx a9_0)
      refine lv_if_ne (tgt := 50) hx hb dX9_reads_45 (by decide) (fun c_12 => ?_) (fun c_12 => ?_)
      · refine lv_goto (tgt := 9) hx hb dX9_reads_50 (by decide) ?_
        exact ih9_ (g_X9_readsItem_mAt mTy (a9_0 + 1) mTx (mTx a9_0)) (g_X9_readsItem_mFi mTy (a9_0 + 1) a9_1 mTx (mTx a9_0)) (g_X9_readsItem_mSc mTy (a9_0 + 1) a9_2 mTx (mTx a9_0)) (g_X9_readsItem_mDr mTy (a9_0 + 1) a9_2 mTx a9_3 (mTx a9_0)) ⟨by omega, by omega, (rI_d mTy (a9_0 + 1) a9_2 mTx a9_3 (mTx a9_0) hq3 hq4)⟩ (by rw [← hv9_]; simp only [L_X9_reads_9, if_neg c_6, if_neg c_12]) _ _ hP hD hS _ (lv_sub hl [1] rfl)
      refine lv_iload_n hx hb dX9_reads_48 rfl (lv_at hl 0 rfl) ?_
      have e_13 : (g_X9_reads_mAt mTy mFi mSc mTx mDr) = (g_X9_readsItem_mAt mTy (a9_0 + 1) mTx (mTx a9_0)) := by rw [ho9_0, ← hv9_]; simp only [L_X9_reads_9, if_neg c_6, if_pos c_12]
      have e_14 : (g_X9_reads_mFi mTy mFi mSc mTx mDr) = (g_X9_readsItem_mFi mTy (a9_0 + 1) a9_1 mTx (mTx a9_0)) := by rw [ho9_1, ← hv9_]; simp only [L_X9_reads_9, if_neg c_6, if_pos c_12]
      have e_15 : (g_X9_reads_mSc mTy mFi mSc mTx mDr) = (g_X9_readsItem_mSc mTy (a9_0 + 1) a9_2 mTx (mTx a9_0)) := by rw [ho9_2, ← hv9_]; simp only [L_X9_reads_9, if_neg c_6, if_pos c_12]
      have e_16 : (g_X9_reads_mDr mTy mFi mSc mTx mDr) = (g_X9_readsItem_mDr mTy (a9_0 + 1) a9_2 mTx a9_3 (mTx a9_0)) := by rw [ho9_3, ← hv9_]; simp only [L_X9_reads_9, if_neg c_6, if_pos c_12]
      exact rw_iret hx hb hr hlocks hP hD hS (by rw [hr9_, ← hv9_]; simp only [L_X9_reads_9, if_neg c_6, if_pos c_12]) (by rw [e_13, e_14, e_15, e_16] <;> rfl) dX9_reads_49
  exact loop9_ 201 0 mFi mSc (g_X9_begins_mDr mDr) ⟨by omega, by omega, beg_d mDr⟩ rfl _ _ hP hD hS _ (lv_sub hl [0] rfl)
