def L_X9_confession_69 (x1 : Int32) (x2 : Int32) (x3 : Int32) : Nat → Int64 → Int64 → Int64 → Int64 × Int64 × Int64
  | 0, a0_, a1_, a2_ => (a0_, a1_, a2_)
  | n69_ + 1, a0_, a1_, a2_ => (if 0 < (lg_cmp ((Int32.toInt64 ((x1 * x2) / 2)) * (a1_ * 10)) (((((Int32.toInt64 x3) * (Int32.toInt64 x1)) * (Int32.toInt64 x2)) * a1_) + ((Int32.toInt64 (10 - x3)) * a0_))) then L_X9_confession_69 x1 x2 x3 n69_ (((((Int32.toInt64 x3) * (Int32.toInt64 x1)) * (Int32.toInt64 x2)) * a1_) + ((Int32.toInt64 (10 - x3)) * a0_)) (a1_ * 10) a2_ else L_X9_confession_69 x1 x2 x3 n69_ ((Int32.toInt64 ((x1 * x2) / 2)) * (a1_ * 10)) (a1_ * 10) (Int32.toInt64 (nI (n69_ + 1))))
def L_X9_confession_164  : Nat → Int64 → Int64 → Int64 × Int64
  | 0, a0_, a1_ => (a0_, a1_)
  | n164_ + 1, a0_, a1_ => (if (lg_cmp a1_ 0) ≤ 0 then (a0_, a1_) else L_X9_confession_164 n164_ a1_ (a0_ - a0_ / a1_ * a1_))
def f_X9_confession (p0 : Int32) (p1 : Int32) (p2 : Int32) (p3 : Int32) (p4 : Int32) : Int64 := (if (f_X9_in p0 0 9) = 0 then -1 else (if (f_X9_in p1 0 2) = 0 then -1 else (if (f_X9_in p2 0 10) = 0 then -1 else (if (f_X9_in p3 0 12) = 0 then -1 else (if (f_X9_in p4 0 2) = 0 then -1 else (if p4 = 0 then (L_X9_confession_69 p0 p1 p2 (Int32.toNatClampNeg p3) 0 1 (-4)).2.2 else (if p4 = 1 then ((L_X9_confession_69 p0 p1 p2 (Int32.toNatClampNeg p3) 0 1 (-4)).1 / (L_X9_confession_164 ((Int64.toInt (L_X9_confession_69 p0 p1 p2 (Int32.toNatClampNeg p3) 0 1 (-4)).2.1).toNat + 1) ((L_X9_confession_69 p0 p1 p2 (Int32.toNatClampNeg p3) 0 1 (-4)).1) ((L_X9_confession_69 p0 p1 p2 (Int32.toNatClampNeg p3) 0 1 (-4)).2.1)).1) else ((L_X9_confession_69 p0 p1 p2 (Int32.toNatClampNeg p3) 0 1 (-4)).2.1 / (L_X9_confession_164 ((Int64.toInt (L_X9_confession_69 p0 p1 p2 (Int32.toNatClampNeg p3) 0 1 (-4)).2.1).toNat + 1) ((L_X9_confession_69 p0 p1 p2 (Int32.toNatClampNeg p3) 0 1 (-4)).1) ((L_X9_confession_69 p0 p1 p2 (Int32.toNatClampNeg p3) 0 1 (-4)).2.1)).1))))))))
theorem in_of {x : Int32} (hi : Nat) (hh : hi < 2 ^ 31) (h : ¬ f_X9_in x 0 (nI hi) = 0) : ∃ n, n ≤ hi ∧ x = nI n := by
  unfold f_X9_in at h
  by_cases c1 : x < 0
  · rw [if_pos c1] at h
    exact absurd rfl h
  · rw [if_neg c1] at h
    by_cases c2 : nI hi < x
    · rw [if_pos c2] at h
      exact absurd rfl h
    · exact nI_of2 (nI_toInt hh) c1 (Int32.not_lt.mp c2)
theorem in_nn {x hi : Int32} (h : ¬ f_X9_in x 0 hi = 0) : ¬ x < 0 := fun q => h (by unfold f_X9_in; rw [if_pos q])
theorem conf_L {U C X : Nat} (hU : U ≤ 9) (hC : C ≤ 2) (hX : X ≤ 10) : ∀ (n k M : Nat) (f : Int64), M ≤ 18 * 10 ^ k → ∃ (M' : Nat) (f' : Int64), L_X9_confession_69 (nI U) (nI C) (nI X) n (lN M) (lN (10 ^ k)) f = (lN M', lN (10 ^ (k + n)), f') ∧ M' ≤ 18 * 10 ^ (k + n)
  | 0, k, M, f, hM => ⟨M, f, rfl, hM⟩
  | n + 1, k, M, f, hM => by
    have hUC : U * C ≤ 18 := Nat.mul_le_mul hU hC
    have e1 : nI U * nI C / 2 = nI (U * C / 2) := by
      rw [pk_mul]
      exact pk_div (d := 2) (by omega) (by decide) (by decide)
    have e2 : (10 : Int32) - nI X = nI (10 - X) := pk_sub hX
    have e3 : lN (10 ^ k) * 10 = lN (10 ^ (k + 1)) := by
      rw [Nat.pow_succ]
      exact lN_mul (10 ^ k) 10
    have w1 : X * U * C * 10 ^ k + (10 - X) * M ≤ 18 * 10 ^ (k + 1) := by
      have h1 : X * U * C * 10 ^ k ≤ X * (18 * 10 ^ k) := by
        rw [Nat.mul_assoc X, Nat.mul_assoc X]
        exact Nat.mul_le_mul_left X (Nat.mul_le_mul_right _ hUC)
      have h2 : (10 - X) * M ≤ (10 - X) * (18 * 10 ^ k) := Nat.mul_le_mul_left _ hM
      have h3 : X * (18 * 10 ^ k) + (10 - X) * (18 * 10 ^ k) = 18 * 10 ^ (k + 1) := by
        rw [← Nat.add_mul, Nat.add_sub_cancel' hX, Nat.pow_succ]
        omega
      omega
    have w2 : U * C / 2 * 10 ^ (k + 1) ≤ 18 * 10 ^ (k + 1) := Nat.mul_le_mul_right _ (by omega)
    simp only [L_X9_confession_69]
    rw [e1, e2, e3, nI_l (by omega), nI_l (by omega), nI_l (by omega), nI_l (by omega), nI_l (by omega), lN_mul, lN_mul, lN_mul, lN_mul, lN_mul, lN_add]
    rw [show k + (n + 1) = (k + 1) + n by omega]
    split
    · exact conf_L hU hC hX n (k + 1) _ _ w1
    · exact conf_L hU hC hX n (k + 1) _ _ w2
theorem conf_e {p0 p1 p2 p3 : Int32} (h0 : ¬ f_X9_in p0 0 9 = 0) (h1 : ¬ f_X9_in p1 0 2 = 0) (h2 : ¬ f_X9_in p2 0 10 = 0) (h3 : ¬ f_X9_in p3 0 12 = 0) : 0 ≤ (Int64.toInt (L_X9_confession_69 p0 p1 p2 (Int32.toNatClampNeg p3) 0 1 (-4)).1) ∧ 0 ≤ (Int64.toInt (L_X9_confession_69 p0 p1 p2 (Int32.toNatClampNeg p3) 0 1 (-4)).2.1) ∧ ¬ (L_X9_confession_69 p0 p1 p2 (Int32.toNatClampNeg p3) 0 1 (-4)).2.1 = 0 := by
  obtain ⟨U, hU, rfl⟩ := in_of 9 (by decide) h0
  obtain ⟨C, hC, rfl⟩ := in_of 2 (by decide) h1
  obtain ⟨X, hX, rfl⟩ := in_of 10 (by decide) h2
  obtain ⟨n, hn, rfl⟩ := in_of 12 (by decide) h3
  rw [nI_clamp (by omega)]
  obtain ⟨M, f, e, hM⟩ := conf_L hU hC hX n 0 0 (-4) (Nat.zero_le _)
  have e' : L_X9_confession_69 (nI U) (nI C) (nI X) n 0 1 (-4) = (lN M, lN (10 ^ (0 + n)), f) := e
  have hp : 10 ^ (0 + n) ≤ 10 ^ 12 := Nat.pow_le_pow_right (by decide) (by omega)
  have hp1 : 0 < 10 ^ (0 + n) := Nat.pow_pos (by decide)
  have hp2 : (10 : Nat) ^ 12 = 1000000000000 := by decide
  rw [e']
  refine ⟨?_, ?_, ?_⟩
  · show 0 ≤ (lN M).toInt
    rw [pk_lT (by omega)]
    omega
  · show 0 ≤ (lN (10 ^ (0 + n))).toInt
    rw [pk_lT (by omega)]
    omega
  · show ¬ lN (10 ^ (0 + n)) = lN 0
    rw [pk_lEQ (by omega) (by decide)]
    omega
theorem i64_nn {x : Int64} (h : 0 ≤ x.toInt) : ¬ x < 0 := by
  rw [Int64.lt_iff_toInt_lt]
  have : (0 : Int64).toInt = 0 := by decide
  omega
theorem gcd_s {a b : Int64} {n : Nat} (hb : ¬ lg_cmp b 0 ≤ 0) (h : 0 ≤ (Int64.toInt a) ∧ 0 ≤ (Int64.toInt b) ∧ (Int64.toInt b).toNat < n + 1) : 0 ≤ (Int64.toInt b) ∧ 0 ≤ (Int64.toInt (a - a / b * b)) ∧ (Int64.toInt (a - a / b * b)).toNat < n := by
  obtain ⟨h1, h2, h3⟩ := h
  rw [lg_cmp_le] at hb
  obtain ⟨A, hA, rfl⟩ := pk_lOf (i64_nn h1)
  obtain ⟨B, hB, rfl⟩ := pk_lOf (i64_nn h2)
  have hB0 : 0 < B := Nat.pos_of_ne_zero fun z => hb (by rw [z]; decide)
  rw [pk_lT hB] at h2 h3
  have hm := Nat.mod_lt A hB0
  rw [pk_lRem hA hB0 hB, pk_lT hB, pk_lT (show A % B < 2 ^ 63 by omega)]
  omega
theorem lc_ne {b : Int64} (h : ¬ lg_cmp b 0 ≤ 0) : ¬ b = 0 := fun q => h (by rw [q]; decide)
theorem gcd_ne : ∀ (n : Nat) (a b : Int64), 0 ≤ (Int64.toInt a) → 0 ≤ (Int64.toInt b) → (Int64.toInt b).toNat < n → (¬ a = 0 ∨ ¬ b = 0) → ¬ (L_X9_confession_164 n a b).1 = 0
  | 0, a, b, _, _, h, _ => absurd h (Nat.not_lt_zero _)
  | n + 1, a, b, h1, h2, h3, h4 => by
    simp only [L_X9_confession_164]
    by_cases c : lg_cmp b 0 ≤ 0
    · rw [if_pos c]
      rw [lg_cmp_le] at c
      rcases h4 with h | h
      · exact h
      · exact absurd (Int64.toInt_inj.mp (by
          have c1 := Int64.le_iff_toInt_le.mp c
          have c2 : (0 : Int64).toInt = 0 := by decide
          omega)) h
    · rw [if_neg c]
      obtain ⟨g1, g2, g3⟩ := gcd_s c ⟨h1, h2, h3⟩
      refine gcd_ne n b _ g1 g2 g3 (Or.inl fun z => c ?_)
      rw [z]
      decide
abbrev rm_X9_confession : Room := { frames := 1, cells := 0, slots := 0, locals := 22 }
set_option maxRecDepth 100000 in
set_option maxHeartbeats 4000000 in
theorem c_X9_confession (l : Launch) (D : va_G) (cI cC cG : ClassId) (m0 : Nat) (m1 : Nat) (m2 : Nat) (m3 : Nat) (m4 : Nat) (m5 : Nat) (m6 : Nat) (m7 : Nat) (m8 : Nat) (m9 : Nat) (m10 : Nat) (m11 : Nat) (m12 : Nat) (mTy : Nat) (mKn : Nat) (mKe : Nat) (mCa : Nat) (mSe : Nat) (mAt : Nat) (mFi : Int32) (mSc : Int32) (mTx : Nat → Int32) (mTo : Nat → Int32) (mDr : Nat → Int32) (mSt : Nat → Int32) (mPa : Nat → Int32) (mIm : Nat → Int32) (mWi : Nat → Int32) (mSn : Nat → Int32) (mHe : Nat → Int32) (mFw : Nat → Int32) (mRo : Nat → Int32) (mBe : Nat → Int32) (p0 : Int32) (p1 : Int32) (p2 : Int32) (p3 : Int32) (p4 : Int32) : RoL l yX9_confession wsX9_confession rm_X9_confession D (q_t cI cC cG) (wM cI cC cG m0 m1 m2 m3 m4 m5 m6 m7 m8 m9 m10 m11 m12 mTy mKn mKe mCa mSe mAt mFi mSc mTx mTo mDr mSt mPa mIm mWi mSn mHe mFw mRo mBe) [.ref m0, .int p0, .int p1, .int p2, .int p3, .int p4] (f_X9_confession p0 p1 p2 p3 p4) := by
  refine ro_enter (cc := cX9_confession) (maxL := 18) (ret := (some .long)) (by decide) rfl (Nat.le_of_ble_eq_true rfl) ?_
  intro p e s m below meth c ls B hP hK hl
  obtain ⟨hx, hb, hr, hlocks, hml, hown, hts, hN⟩ := B
  have hS : va_S q_no s.heap s.heap [] := va_S.rf
  have hown : s.vm.findClass RX9 = some m.cls := hown
  have hl : lv_has ls 18 [(0, .ref m0), (1, .int p0), (2, .int p1), (3, .int p2), (4, .int p3), (5, .int p4)] := hl
  have hc179 := hts (.constantLong RX9 179 (-1)) (by decide +kernel)
  have hc181 := hts (.constantLong RX9 181 (-4)) (by decide +kernel)
  have hc183 := hts (.constantLong RX9 183 (10)) (by decide +kernel)
  refine lv_iload_n hx hb dX9_confession_0 rfl (lv_at hl 1 rfl) ?_
  refine lv_iconst (v := 0) hx hb dX9_confession_1 (by decide) ?_
  refine lv_bipush (v := 9) hx hb dX9_confession_2 (by decide) ?_
  refine ro_i (va_runS (As := [.int p0, .int 0, .int 9]) (rest := []) ⟨hx, hb, hml, hown, hts⟩ (c_X9_in l D cI cC cG p0 0 9) (cwS 3 hts gX9_confession_X9_in rfl rfl rfl (by decide +kernel) ⟨Nat.le_of_ble_eq_true rfl, Nat.le_of_ble_eq_true rfl⟩) (q_preS hK hP hN [] rfl) rfl rfl hl.1 rfl (lv_room (Nat.le_of_ble_eq_true rfl)) dX9_confession_4 ⟨Nat.zero_le _, Nat.zero_le _⟩) hS hP (fun H locs hP hS => ?_)
  refine lv_if_eq (tgt := 50) hx hb dX9_confession_7 (by decide) (fun c_1 => ?_) (fun c_1 => ?_)
  · refine lv_ldc2 hx hb hown hc179 dX9_confession_50 ?_
    exact ro_lret hx hb hr hlocks hS (by simp only [f_X9_confession, if_pos c_1]) dX9_confession_53
  refine lv_iload_n hx hb dX9_confession_10 rfl (lv_at hl 2 rfl) ?_
  refine lv_iconst (v := 0) hx hb dX9_confession_11 (by decide) ?_
  refine lv_iconst (v := 2) hx hb dX9_confession_12 (by decide) ?_
  refine ro_i (va_runS (As := [.int p1, .int 0, .int 2]) (rest := []) ⟨hx, hb, hml, hown, hts⟩ (c_X9_in l D cI cC cG p1 0 2) (cwS 3 hts gX9_confession_X9_in rfl rfl rfl (by decide +kernel) ⟨Nat.le_of_ble_eq_true rfl, Nat.le_of_ble_eq_true rfl⟩) (q_preS hK hP hN [] rfl) rfl rfl hl.1 rfl (lv_room (Nat.le_of_ble_eq_true rfl)) dX9_confession_13 ⟨Nat.zero_le _, Nat.zero_le _⟩) hS hP (fun H locs hP hS => ?_)
  refine lv_if_eq (tgt := 50) hx hb dX9_confession_16 (by decide) (fun c_2 => ?_) (fun c_2 => ?_)
  · refine lv_ldc2 hx hb hown hc179 dX9_confession_50 ?_
    exact ro_lret hx hb hr hlocks hS (by simp only [f_X9_confession, if_neg c_1, if_pos c_2]) dX9_confession_53
  refine lv_iload_n hx hb dX9_confession_19 rfl (lv_at hl 3 rfl) ?_
  refine lv_iconst (v := 0) hx hb dX9_confession_20 (by decide) ?_
  refine lv_bipush (v := 10) hx hb dX9_confession_21 (by decide) ?_
  refine ro_i (va_runS (As := [.int p2, .int 0, .int 10]) (rest := []) ⟨hx, hb, hml, hown, hts⟩ (c_X9_in l D cI cC cG p2 0 10) (cwS 3 hts gX9_confession_X9_in rfl rfl rfl (by decide +kernel) ⟨Nat.le_of_ble_eq_true rfl, Nat.le_of_ble_eq_true rfl⟩) (q_preS hK hP hN [] rfl) rfl rfl hl.1 rfl (lv_room (Nat.le_of_ble_eq_true rfl)) dX9_confession_23 ⟨Nat.zero_le _, Nat.zero_le _⟩) hS hP (fun H locs hP hS => ?_)
  refine lv_if_eq (tgt := 50) hx hb dX9_confession_26 (by decide) (fun c_3 => ?_) (fun c_3 => ?_)
  · refine lv_ldc2 hx hb hown hc179 dX9_confession_50 ?_
    exact ro_lret hx hb hr hlocks hS (by simp only [f_X9_confession, if_neg c_1, if_neg c_2, if_pos c_3]) dX9_confession_53
  refine lv_iload hx hb dX9_confession_29 (lv_at hl 4 rfl) ?_
  refine lv_iconst (v := 0) hx hb dX9_confession_31 (by decide) ?_
  refine lv_bipush (v := 12) hx hb dX9_confession_32 (by decide) ?_
  refine ro_i (va_runS (As := [.int p3, .int 0, .int 12]) (rest := []) ⟨hx, hb, hml, hown, hts⟩ (c_X9_in l D cI cC cG p3 0 12) (cwS 3 hts gX9_confession_X9_in rfl rfl rfl (by decide +kernel) ⟨Nat.le_of_ble_eq_true rfl, Nat.le_of_ble_eq_true rfl⟩) (q_preS hK hP hN [] rfl) rfl rfl hl.1 rfl (lv_room (Nat.le_of_ble_eq_true rfl)) dX9_confession_34 ⟨Nat.zero_le _, Nat.zero_le _⟩) hS hP (fun H locs hP hS => ?_)
  refine lv_if_eq (tgt := 50) hx hb dX9_confession_37 (by decide) (fun c_4 => ?_) (fun c_4 => ?_)
  · refine lv_ldc2 hx hb hown hc179 dX9_confession_50 ?_
    exact ro_lret hx hb hr hlocks hS (by simp only [f_X9_confession, if_neg c_1, if_neg c_2, if_neg c_3, if_pos c_4]) dX9_confession_53
  refine lv_iload hx hb dX9_confession_40 (lv_at hl 5 rfl) ?_
  refine lv_iconst (v := 0) hx hb dX9_confession_42 (by decide) ?_
  refine lv_iconst (v := 2) hx hb dX9_confession_43 (by decide) ?_
  refine ro_i (va_runS (As := [.int p4, .int 0, .int 2]) (rest := []) ⟨hx, hb, hml, hown, hts⟩ (c_X9_in l D cI cC cG p4 0 2) (cwS 3 hts gX9_confession_X9_in rfl rfl rfl (by decide +kernel) ⟨Nat.le_of_ble_eq_true rfl, Nat.le_of_ble_eq_true rfl⟩) (q_preS hK hP hN [] rfl) rfl rfl hl.1 rfl (lv_room (Nat.le_of_ble_eq_true rfl)) dX9_confession_44 ⟨Nat.zero_le _, Nat.zero_le _⟩) hS hP (fun H locs hP hS => ?_)
  refine lv_if_ne (tgt := 54) hx hb dX9_confession_47 (by decide) (fun c_5 => ?_) (fun c_5 => ?_)
  · refine lv_lconst (v := 0) hx hb dX9_confession_54 rfl ?_
    refine lv_lstore (lv' := [(6, .long 0), (0, .ref m0), (1, .int p0), (2, .int p1), (3, .int p2), (4, .int p3), (5, .int p4)]) hx hb dX9_confession_55 hl (by decide) rfl (fun ls hl => ?_)
    refine lv_lconst (v := 1) hx hb dX9_confession_57 rfl ?_
    refine lv_lstore (lv' := [(8, .long 1), (6, .long 0), (0, .ref m0), (1, .int p0), (2, .int p1), (3, .int p2), (4, .int p3), (5, .int p4)]) hx hb dX9_confession_58 hl (by decide) rfl (fun ls hl => ?_)
    refine lv_ldc2 hx hb hown hc181 dX9_confession_60 ?_
    refine lv_lstore (lv' := [(10, .long (-4)), (8, .long 1), (6, .long 0), (0, .ref m0), (1, .int p0), (2, .int p1), (3, .int p2), (4, .int p3), (5, .int p4)]) hx hb dX9_confession_63 hl (by decide) rfl (fun ls hl => ?_)
    refine lv_iload hx hb dX9_confession_65 (lv_at hl 7 rfl) ?_
    refine lv_istore (lv' := [(12, .int p3), (10, .long (-4)), (8, .long 1), (6, .long 0), (0, .ref m0), (1, .int p0), (2, .int p1), (3, .int p2), (4, .int p3), (5, .int p4)]) hx hb dX9_confession_67 hl (by decide) rfl (fun ls hl => ?_)
    have K69_ : ∀ (H : Heap) (locs : List Loc), va_P D vwCl [(m0, .inr (9, [.ref m1, .int (nI mTy), .ref m2, .ref m3, .ref m4, .ref m5, .int (nI mKn), .ref m6, .int (nI mKe), .ref m7, .int (nI mCa), .ref m8, .int (nI mSe), .int (nI mAt), .int mFi, .int mSc, .ref m9, .ref m10, .ref m11, .ref m12])), (m1, .inl (cI, 200, .inl mTx)), (m2, .inl (cI, 37, .inl mTo)), (m3, .inl (cI, 37, .inl mDr)), (m4, .inl (cI, 15, .inl mSt)), (m5, .inl (cI, 120, .inl mPa)), (m6, .inl (cI, 30, .inl mIm)), (m7, .inl (cI, 5, .inl mWi)), (m8, .inl (cI, 6, .inl mSn)), (m9, .inl (cI, 15, .inl mHe)), (m10, .inl (cI, 384, .inl mFw)), (m11, .inl (cI, 5, .inl mRo)), (m12, .inl (cI, 5, .inl mBe))] H → va_S q_no s.heap H locs → ∀ ls : Array Slot, lv_has ls 18 [(5, .int p4), (6, .long ((L_X9_confession_69 p0 p1 p2 (Int32.toNatClampNeg p3) 0 1 (-4)).1)), (8, .long ((L_X9_confession_69 p0 p1 p2 (Int32.toNatClampNeg p3) 0 1 (-4)).2.1)), (10, .long ((L_X9_confession_69 p0 p1 p2 (Int32.toNatClampNeg p3) 0 1 (-4)).2.2))] → W p l e rm_X9_confession s m ([.ref m0, .int p0, .int p1, .int p2, .int p3, .int p4] : List Value).toArray below meth c H locs 0 0 (MQ below (q_Ql (f_X9_confession p0 p1 p2 p3 p4)) ([.ref m0, .int p0, .int p1, .int p2, .int p3, .int p4] : List Value).toArray s 0 0 q_no) (F0 m 156 ls []) := by
      intro H locs hP hS ls hl
      refine lv_lload hx hb dX9_confession_156 (lv_at hl 1 rfl) ?_
      refine lv_lstore (lv' := [(12, .long ((L_X9_confession_69 p0 p1 p2 (Int32.toNatClampNeg p3) 0 1 (-4)).1)), (5, .int p4), (6, .long ((L_X9_confession_69 p0 p1 p2 (Int32.toNatClampNeg p3) 0 1 (-4)).1)), (8, .long ((L_X9_confession_69 p0 p1 p2 (Int32.toNatClampNeg p3) 0 1 (-4)).2.1)), (10, .long ((L_X9_confession_69 p0 p1 p2 (Int32.toNatClampNeg p3) 0 1 (-4)).2.2))]) hx hb dX9_confession_158 hl (by decide) rfl (fun ls hl => ?_)
      refine lv_lload hx hb dX9_confession_160 (lv_at hl 3 rfl) ?_
      refine lv_lstore (lv' := [(14, .long ((L_X9_confession_69 p0 p1 p2 (Int32.toNatClampNeg p3) 0 1 (-4)).2.1)), (12, .long ((L_X9_confession_69 p0 p1 p2 (Int32.toNatClampNeg p3) 0 1 (-4)).1)), (5, .int p4), (6, .long ((L_X9_confession_69 p0 p1 p2 (Int32.toNatClampNeg p3) 0 1 (-4)).1)), (8, .long ((L_X9_confession_69 p0 p1 p2 (Int32.toNatClampNeg p3) 0 1 (-4)).2.1)), (10, .long ((L_X9_confession_69 p0 p1 p2 (Int32.toNatClampNeg p3) 0 1 (-4)).2.2))]) hx hb dX9_confession_162 hl (by decide) rfl (fun ls hl => ?_)
      have K164_ : ∀ (H : Heap) (locs : List Loc), va_P D vwCl [(m0, .inr (9, [.ref m1, .int (nI mTy), .ref m2, .ref m3, .ref m4, .ref m5, .int (nI mKn), .ref m6, .int (nI mKe), .ref m7, .int (nI mCa), .ref m8, .int (nI mSe), .int (nI mAt), .int mFi, .int mSc, .ref m9, .ref m10, .ref m11, .ref m12])), (m1, .inl (cI, 200, .inl mTx)), (m2, .inl (cI, 37, .inl mTo)), (m3, .inl (cI, 37, .inl mDr)), (m4, .inl (cI, 15, .inl mSt)), (m5, .inl (cI, 120, .inl mPa)), (m6, .inl (cI, 30, .inl mIm)), (m7, .inl (cI, 5, .inl mWi)), (m8, .inl (cI, 6, .inl mSn)), (m9, .inl (cI, 15, .inl mHe)), (m10, .inl (cI, 384, .inl mFw)), (m11, .inl (cI, 5, .inl mRo)), (m12, .inl (cI, 5, .inl mBe))] H → va_S q_no s.heap H locs → ∀ ls : Array Slot, lv_has ls 18 [(5, .int p4), (6, .long ((L_X9_confession_69 p0 p1 p2 (Int32.toNatClampNeg p3) 0 1 (-4)).1)), (8, .long ((L_X9_confession_69 p0 p1 p2 (Int32.toNatClampNeg p3) 0 1 (-4)).2.1)), (10, .long ((L_X9_confession_69 p0 p1 p2 (Int32.toNatClampNeg p3) 0 1 (-4)).2.2)), (12, .long ((L_X9_confession_164 ((Int64.toInt (L_X9_confession_69 p0 p1 p2 (Int32.toNatClampNeg p3) 0 1 (-4)).2.1).toNat + 1) ((L_X9_confession_69 p0 p1 p2 (Int32.toNatClampNeg p3) 0 1 (-4)).1) ((L_X9_confession_69 p0 p1 p2 (Int32.toNatClampNeg p3) 0 1 (-4)).2.1)).1))] → W p l e rm_X9_confession s m ([.ref m0, .int p0, .int p1, .int p2, .int p3, .int p4] : List Value).toArray below meth c H locs 0 0 (MQ below (q_Ql (f_X9_confession p0 p1 p2 p3 p4)) ([.ref m0, .int p0, .int p1, .int p2, .int p3, .int p4] : List Value).toArray s 0 0 q_no) (F0 m 189 ls []) := by
        intro H locs hP hS ls hl
        refine lv_iload hx hb dX9_confession_189 (lv_at hl 0 rfl) ?_
        refine lv_if_ne (tgt := 199) hx hb dX9_confession_191 (by decide) (fun c_6 => ?_) (fun c_6 => ?_)
        · refine lv_iload hx hb dX9_confession_199 (lv_at hl 0 rfl) ?_
          refine lv_iconst (v := 1) hx hb dX9_confession_201 (by decide) ?_
          refine lv_icmp_ne (tgt := 213) hx hb dX9_confession_202 (by decide) (fun c_7 => ?_) (fun c_7 => ?_)
          · refine lv_lload hx hb dX9_confession_213 (lv_at hl 2 rfl) ?_
            refine lv_lload hx hb dX9_confession_215 (lv_at hl 4 rfl) ?_
            refine lv_ldiv hx hb dX9_confession_217 (gcd_ne _ _ _ (conf_e (by assumption) (by assumption) (by assumption) (by assumption)).1 (conf_e (by assumption) (by assumption) (by assumption) (by assumption)).2.1 (Nat.lt_succ_self _) (Or.inr (conf_e (by assumption) (by assumption) (by assumption) (by assumption)).2.2)) ?_
            exact ro_lret hx hb hr hlocks hS (by simp only [f_X9_confession, if_neg c_1, if_neg c_2, if_neg c_3, if_neg c_4, if_neg c_5, if_neg c_6, if_neg c_7]) dX9_confession_218
          refine lv_lload hx hb dX9_confession_205 (lv_at hl 1 rfl) ?_
          refine lv_lload hx hb dX9_confession_207 (lv_at hl 4 rfl) ?_
          refine lv_ldiv hx hb dX9_confession_209 (gcd_ne _ _ _ (conf_e (by assumption) (by assumption) (by assumption) (by assumption)).1 (conf_e (by assumption) (by assumption) (by assumption) (by assumption)).2.1 (Nat.lt_succ_self _) (Or.inr (conf_e (by assumption) (by assumption) (by assumption) (by assumption)).2.2)) ?_
          refine lv_goto (tgt := 218) hx hb dX9_confession_210 (by decide) ?_
          exact ro_lret hx hb hr hlocks hS (by simp only [f_X9_confession, if_neg c_1, if_neg c_2, if_neg c_3, if_neg c_4, if_neg c_5, if_neg c_6, if_pos c_7]) dX9_confession_218
        refine lv_lload hx hb dX9_confession_194 (lv_at hl 3 rfl) ?_
        refine lv_goto (tgt := 218) hx hb dX9_confession_196 (by decide) ?_
        exact ro_lret hx hb hr hlocks hS (by simp only [f_X9_confession, if_neg c_1, if_neg c_2, if_neg c_3, if_neg c_4, if_neg c_5, if_pos c_6]) dX9_confession_218
      have loop164_ : ∀ (n164_ : Nat) (a164_0 : Int64) (a164_1 : Int64), 0 ≤ (Int64.toInt a164_0) ∧ 0 ≤ (Int64.toInt a164_1) ∧ (Int64.toInt a164_1).toNat < n164_ → (L_X9_confession_164 n164_ a164_0 a164_1) = (L_X9_confession_164 ((Int64.toInt (L_X9_confession_69 p0 p1 p2 (Int32.toNatClampNeg p3) 0 1 (-4)).2.1).toNat + 1) ((L_X9_confession_69 p0 p1 p2 (Int32.toNatClampNeg p3) 0 1 (-4)).1) ((L_X9_confession_69 p0 p1 p2 (Int32.toNatClampNeg p3) 0 1 (-4)).2.1)) → ∀ (H : Heap) (locs : List Loc), va_P D vwCl [(m0, .inr (9, [.ref m1, .int (nI mTy), .ref m2, .ref m3, .ref m4, .ref m5, .int (nI mKn), .ref m6, .int (nI mKe), .ref m7, .int (nI mCa), .ref m8, .int (nI mSe), .int (nI mAt), .int mFi, .int mSc, .ref m9, .ref m10, .ref m11, .ref m12])), (m1, .inl (cI, 200, .inl mTx)), (m2, .inl (cI, 37, .inl mTo)), (m3, .inl (cI, 37, .inl mDr)), (m4, .inl (cI, 15, .inl mSt)), (m5, .inl (cI, 120, .inl mPa)), (m6, .inl (cI, 30, .inl mIm)), (m7, .inl (cI, 5, .inl mWi)), (m8, .inl (cI, 6, .inl mSn)), (m9, .inl (cI, 15, .inl mHe)), (m10, .inl (cI, 384, .inl mFw)), (m11, .inl (cI, 5, .inl mRo)), (m12, .inl (cI, 5, .inl mBe))] H → va_S q_no s.heap H locs → ∀ ls : Array Slot, lv_has ls 18 [(5, .int p4), (6, .long ((L_X9_confession_69 p0 p1 p2 (Int32.toNatClampNeg p3) 0 1 (-4)).1)), (8, .long ((L_X9_confession_69 p0 p1 p2 (Int32.toNatClampNeg p3) 0 1 (-4)).2.1)), (10, .long ((L_X9_confession_69 p0 p1 p2 (Int32.toNatClampNeg p3) 0 1 (-4)).2.2)), (12, .long a164_0), (14, .long a164_1)] → W p l e rm_X9_confession s m ([.ref m0, .int p0, .int p1, .int p2, .int p3, .int p4] : List Value).toArray below meth c H locs 0 0 (MQ below (q_Ql (f_X9_confession p0 p1 p2 p3 p4)) ([.ref m0, .int p0, .int p1, .int p2, .int p3, .int p4] : List Value).toArray s 0 0 q_no) (F0 m 164 ls []) := by
        intro n164_
        induction n164_ with
        | zero =>
          intro a164_0 a164_1 hj164_ hv164_ H locs hP hS ls hl
          refine lv_lload hx hb dX9_confession_164 (lv_at hl 5 rfl) ?_
          refine lv_lconst (v := 0) hx hb dX9_confession_166 rfl ?_
          refine W.lcmp hx hb dX9_confession_167 ?_
          refine lv_if_le (tgt := 189) hx hb dX9_confession_168 (by decide) (fun c_8 => ?_) (fun c_8 => ?_)
          rotate_left
          · exact absurd hj164_.2.2 (Nat.not_lt_zero _)
          have e_9 : (a164_0, a164_1) = (L_X9_confession_164 ((Int64.toInt (L_X9_confession_69 p0 p1 p2 (Int32.toNatClampNeg p3) 0 1 (-4)).2.1).toNat + 1) ((L_X9_confession_69 p0 p1 p2 (Int32.toNatClampNeg p3) 0 1 (-4)).1) ((L_X9_confession_69 p0 p1 p2 (Int32.toNatClampNeg p3) 0 1 (-4)).2.1)) := by rw [← hv164_]; simp only [L_X9_confession_164]
          have e_10 : a164_0 = (L_X9_confession_164 ((Int64.toInt (L_X9_confession_69 p0 p1 p2 (Int32.toNatClampNeg p3) 0 1 (-4)).2.1).toNat + 1) ((L_X9_confession_69 p0 p1 p2 (Int32.toNatClampNeg p3) 0 1 (-4)).1) ((L_X9_confession_69 p0 p1 p2 (Int32.toNatClampNeg p3) 0 1 (-4)).2.1)).1 := congrArg (fun z => z.1) e_9
          have e_11 : a164_1 = (L_X9_confession_164 ((Int64.toInt (L_X9_confession_69 p0 p1 p2 (Int32.toNatClampNeg p3) 0 1 (-4)).2.1).toNat + 1) ((L_X9_confession_69 p0 p1 p2 (Int32.toNatClampNeg p3) 0 1 (-4)).1) ((L_X9_confession_69 p0 p1 p2 (Int32.toNatClampNeg p3) 0 1 (-4)).2.1)).2 := congrArg (fun z => z.2) e_9
          exact K164_ _ _ hP hS _ (by rw [← e_10]; exact (lv_sub hl [0, 1, 2, 3, 4] rfl))
        | succ n164_ ih164_ =>
          intro a164_0 a164_1 hj164_ hv164_ H locs hP hS ls hl
          refine lv_lload hx hb dX9_confession_164 (lv_at hl 5 rfl) ?_
          refine lv_lconst (v := 0) hx hb dX9_confession_166 rfl ?_
          refine W.lcmp hx hb dX9_confession_167 ?_
          refine lv_if_le (tgt := 189) hx hb dX9_confession_168 (by decide) (fun c_12 => ?_) (fun c_12 => ?_)
          · have e_13 : (a164_0, a164_1) = (L_X9_confession_164 ((Int64.toInt (L_X9_confession_69 p0 p1 p2 (Int32.toNatClampNeg p3) 0 1 (-4)).2.1).toNat + 1) ((L_X9_confession_69 p0 p1 p2 (Int32.toNatClampNeg p3) 0 1 (-4)).1) ((L_X9_confession_69 p0 p1 p2 (Int32.toNatClampNeg p3) 0 1 (-4)).2.1)) := by rw [← hv164_]; simp only [L_X9_confession_164, if_pos c_12]
            have e_14 : a164_0 = (L_X9_confession_164 ((Int64.toInt (L_X9_confession_69 p0 p1 p2 (Int32.toNatClampNeg p3) 0 1 (-4)).2.1).toNat + 1) ((L_X9_confession_69 p0 p1 p2 (Int32.toNatClampNeg p3) 0 1 (-4)).1) ((L_X9_confession_69 p0 p1 p2 (Int32.toNatClampNeg p3) 0 1 (-4)).2.1)).1 := congrArg (fun z => z.1) e_13
            have e_15 : a164_1 = (L_X9_confession_164 ((Int64.toInt (L_X9_confession_69 p0 p1 p2 (Int32.toNatClampNeg p3) 0 1 (-4)).2.1).toNat + 1) ((L_X9_confession_69 p0 p1 p2 (Int32.toNatClampNeg p3) 0 1 (-4)).1) ((L_X9_confession_69 p0 p1 p2 (Int32.toNatClampNeg p3) 0 1 (-4)).2.1)).2 := congrArg (fun z => z.2) e_13
            exact K164_ _ _ hP hS _ (by rw [← e_14]; exact (lv_sub hl [0, 1, 2, 3, 4] rfl))
          refine lv_lload hx hb dX9_confession_171 (lv_at hl 4 rfl) ?_
          refine lv_lload hx hb dX9_confession_173 (lv_at hl 5 rfl) ?_
          refine lv_lrem hx hb dX9_confession_175 (lc_ne c_12) ?_
          refine lv_lstore (lv' := [(16, .long (a164_0 - a164_0 / a164_1 * a164_1)), (5, .int p4), (6, .long ((L_X9_confession_69 p0 p1 p2 (Int32.toNatClampNeg p3) 0 1 (-4)).1)), (8, .long ((L_X9_confession_69 p0 p1 p2 (Int32.toNatClampNeg p3) 0 1 (-4)).2.1)), (10, .long ((L_X9_confession_69 p0 p1 p2 (Int32.toNatClampNeg p3) 0 1 (-4)).2.2)), (12, .long a164_0), (14, .long a164_1)]) hx hb dX9_confession_176 hl (by decide) rfl (fun ls hl => ?_)
          refine lv_lload hx hb dX9_confession_178 (lv_at hl 6 rfl) ?_
          refine lv_lstore (lv' := [(12, .long a164_1), (16, .long (a164_0 - a164_0 / a164_1 * a164_1)), (5, .int p4), (6, .long ((L_X9_confession_69 p0 p1 p2 (Int32.toNatClampNeg p3) 0 1 (-4)).1)), (8, .long ((L_X9_confession_69 p0 p1 p2 (Int32.toNatClampNeg p3) 0 1 (-4)).2.1)), (10, .long ((L_X9_confession_69 p0 p1 p2 (Int32.toNatClampNeg p3) 0 1 (-4)).2.2)), (14, .long a164_1)]) hx hb dX9_confession_180 hl (by decide) rfl (fun ls hl => ?_)
          refine lv_lload hx hb dX9_confession_182 (lv_at hl 1 rfl) ?_
          refine lv_lstore (lv' := [(14, .long (a164_0 - a164_0 / a164_1 * a164_1)), (12, .long a164_1), (16, .long (a164_0 - a164_0 / a164_1 * a164_1)), (5, .int p4), (6, .long ((L_X9_confession_69 p0 p1 p2 (Int32.toNatClampNeg p3) 0 1 (-4)).1)), (8, .long ((L_X9_confession_69 p0 p1 p2 (Int32.toNatClampNeg p3) 0 1 (-4)).2.1)), (10, .long ((L_X9_confession_69 p0 p1 p2 (Int32.toNatClampNeg p3) 0 1 (-4)).2.2))]) hx hb dX9_confession_184 hl (by decide) rfl (fun ls hl => ?_)
          refine lv_goto (tgt := 164) hx hb dX9_confession_186 (by decide) ?_
          exact ih164_ a164_1 (a164_0 - a164_0 / a164_1 * a164_1) (gcd_s c_12 hj164_) (by rw [← hv164_]; simp only [L_X9_confession_164, if_neg c_12]) _ _ hP hS _ (lv_sub hl [3, 4, 5, 6, 1, 0] rfl)
      exact loop164_ ((Int64.toInt (L_X9_confession_69 p0 p1 p2 (Int32.toNatClampNeg p3) 0 1 (-4)).2.1).toNat + 1) ((L_X9_confession_69 p0 p1 p2 (Int32.toNatClampNeg p3) 0 1 (-4)).1) ((L_X9_confession_69 p0 p1 p2 (Int32.toNatClampNeg p3) 0 1 (-4)).2.1) ⟨(conf_e (by assumption) (by assumption) (by assumption) (by assumption)).1, (conf_e (by assumption) (by assumption) (by assumption) (by assumption)).2.1, Nat.lt_succ_self _⟩ rfl _ _ hP hS _ (lv_sub hl [2, 3, 4, 5, 1, 0] rfl)
    have loop69_ : ∀ (n69_ : Nat) (a69_0 : Int64) (a69_1 : Int64) (a69_2 : Int64), n69_ ≤ (Int32.toNatClampNeg p3) → (L_X9_confession_69 p0 p1 p2 n69_ a69_0 a69_1 a69_2) = (L_X9_confession_69 p0 p1 p2 (Int32.toNatClampNeg p3) 0 1 (-4)) → ∀ (H : Heap) (locs : List Loc), va_P D vwCl [(m0, .inr (9, [.ref m1, .int (nI mTy), .ref m2, .ref m3, .ref m4, .ref m5, .int (nI mKn), .ref m6, .int (nI mKe), .ref m7, .int (nI mCa), .ref m8, .int (nI mSe), .int (nI mAt), .int mFi, .int mSc, .ref m9, .ref m10, .ref m11, .ref m12])), (m1, .inl (cI, 200, .inl mTx)), (m2, .inl (cI, 37, .inl mTo)), (m3, .inl (cI, 37, .inl mDr)), (m4, .inl (cI, 15, .inl mSt)), (m5, .inl (cI, 120, .inl mPa)), (m6, .inl (cI, 30, .inl mIm)), (m7, .inl (cI, 5, .inl mWi)), (m8, .inl (cI, 6, .inl mSn)), (m9, .inl (cI, 15, .inl mHe)), (m10, .inl (cI, 384, .inl mFw)), (m11, .inl (cI, 5, .inl mRo)), (m12, .inl (cI, 5, .inl mBe))] H → va_S q_no s.heap H locs → ∀ ls : Array Slot, lv_has ls 18 [(1, .int p0), (2, .int p1), (3, .int p2), (5, .int p4), (6, .long a69_0), (8, .long a69_1), (10, .long a69_2), (12, .int (nI n69_))] → W p l e rm_X9_confession s m ([.ref m0, .int p0, .int p1, .int p2, .int p3, .int p4] : List Value).toArray below meth c H locs 0 0 (MQ below (q_Ql (f_X9_confession p0 p1 p2 p3 p4)) ([.ref m0, .int p0, .int p1, .int p2, .int p3, .int p4] : List Value).toArray s 0 0 q_no) (F0 m 69 ls []) := by
      intro n69_
      induction n69_ with
      | zero =>
        intro a69_0 a69_1 a69_2 hj69_ hv69_ H locs hP hS ls hl
        refine lv_iload hx hb dX9_confession_69 (lv_at hl 7 rfl) ?_
        refine lv_if_le (tgt := 156) hx hb dX9_confession_71 (by decide) (fun c_16 => ?_) (fun c_16 => ?_)
        rotate_left
        · exact absurd (by decide) c_16
        have e_17 : (a69_0, a69_1, a69_2) = (L_X9_confession_69 p0 p1 p2 (Int32.toNatClampNeg p3) 0 1 (-4)) := by rw [← hv69_]; simp only [L_X9_confession_69]
        have e_18 : a69_0 = (L_X9_confession_69 p0 p1 p2 (Int32.toNatClampNeg p3) 0 1 (-4)).1 := congrArg (fun z => z.1) e_17
        have e_19 : a69_1 = (L_X9_confession_69 p0 p1 p2 (Int32.toNatClampNeg p3) 0 1 (-4)).2.1 := congrArg (fun z => z.2.1) e_17
        have e_20 : a69_2 = (L_X9_confession_69 p0 p1 p2 (Int32.toNatClampNeg p3) 0 1 (-4)).2.2 := congrArg (fun z => z.2.2) e_17
        exact K69_ _ _ hP hS _ (by rw [← e_18, ← e_19, ← e_20]; exact (lv_sub hl [3, 4, 5, 6] rfl))
      | succ n69_ ih69_ =>
        intro a69_0 a69_1 a69_2 hj69_ hv69_ H locs hP hS ls hl
        have h31 := k_31 (x := p3)
        refine lv_iload hx hb dX9_confession_69 (lv_at hl 7 rfl) ?_
        refine lv_if_le (tgt := 156) hx hb dX9_confession_71 (by decide) (fun c_21 => ?_) (fun c_21 => ?_)
        · exact absurd c_21 (nI_nle (by omega) (by omega))
        refine lv_iload_n hx hb dX9_confession_74 rfl (lv_at hl 2 rfl) ?_
        refine lv_i2l (v := (Int32.toInt64 p2)) hx hb dX9_confession_75 rfl ?_
        refine lv_iload_n hx hb dX9_confession_76 rfl (lv_at hl 0 rfl) ?_
        refine lv_i2l (v := (Int32.toInt64 p0)) hx hb dX9_confession_77 rfl ?_
        refine lv_lmul hx hb dX9_confession_78 ?_
        refine lv_iload_n hx hb dX9_confession_79 rfl (lv_at hl 1 rfl) ?_
        refine lv_i2l (v := (Int32.toInt64 p1)) hx hb dX9_confession_80 rfl ?_
        refine lv_lmul hx hb dX9_confession_81 ?_
        refine lv_lload hx hb dX9_confession_82 (lv_at hl 5 rfl) ?_
        refine lv_lmul hx hb dX9_confession_84 ?_
        refine lv_bipush (v := 10) hx hb dX9_confession_85 (by decide) ?_
        refine lv_iload_n hx hb dX9_confession_87 rfl (lv_at hl 2 rfl) ?_
        refine lv_isub hx hb dX9_confession_88 ?_
        refine lv_i2l (v := (Int32.toInt64 (10 - p2))) hx hb dX9_confession_89 rfl ?_
        refine lv_lload hx hb dX9_confession_90 (lv_at hl 4 rfl) ?_
        refine lv_lmul hx hb dX9_confession_92 ?_
        refine lv_ladd hx hb dX9_confession_93 ?_
        refine lv_lstore (lv' := [(13, .long (((((Int32.toInt64 p2) * (Int32.toInt64 p0)) * (Int32.toInt64 p1)) * a69_1) + ((Int32.toInt64 (10 - p2)) * a69_0))), (1, .int p0), (2, .int p1), (3, .int p2), (5, .int p4), (6, .long a69_0), (8, .long a69_1), (10, .long a69_2), (12, .int (nI (n69_ + 1)))]) hx hb dX9_confession_94 hl (by decide) rfl (fun ls hl => ?_)
        refine lv_lload hx hb dX9_confession_96 (lv_at hl 6 rfl) ?_
        refine lv_ldc2 hx hb hown hc183 dX9_confession_98 ?_
        refine lv_lmul hx hb dX9_confession_101 ?_
        refine lv_lstore (lv' := [(8, .long (a69_1 * 10)), (13, .long (((((Int32.toInt64 p2) * (Int32.toInt64 p0)) * (Int32.toInt64 p1)) * a69_1) + ((Int32.toInt64 (10 - p2)) * a69_0))), (1, .int p0), (2, .int p1), (3, .int p2), (5, .int p4), (6, .long a69_0), (10, .long a69_2), (12, .int (nI (n69_ + 1)))]) hx hb dX9_confession_102 hl (by decide) rfl (fun ls hl => ?_)
        refine lv_iload_n hx hb dX9_confession_104 rfl (lv_at hl 2 rfl) ?_
        refine lv_iload_n hx hb dX9_confession_105 rfl (lv_at hl 3 rfl) ?_
        refine lv_imul hx hb dX9_confession_106 ?_
        refine lv_iconst (v := 2) hx hb dX9_confession_107 (by decide) ?_
        refine lv_idiv hx hb dX9_confession_108 (by decide) ?_
        refine lv_i2l (v := (Int32.toInt64 ((p0 * p1) / 2))) hx hb dX9_confession_109 rfl ?_
        refine lv_lload hx hb dX9_confession_110 (lv_at hl 0 rfl) ?_
        refine lv_lmul hx hb dX9_confession_112 ?_
        refine lv_lstore (lv' := [(15, .long ((Int32.toInt64 ((p0 * p1) / 2)) * (a69_1 * 10))), (8, .long (a69_1 * 10)), (13, .long (((((Int32.toInt64 p2) * (Int32.toInt64 p0)) * (Int32.toInt64 p1)) * a69_1) + ((Int32.toInt64 (10 - p2)) * a69_0))), (1, .int p0), (2, .int p1), (3, .int p2), (5, .int p4), (6, .long a69_0), (10, .long a69_2), (12, .int (nI (n69_ + 1)))]) hx hb dX9_confession_113 hl (by decide) rfl (fun ls hl => ?_)
        refine lv_lload hx hb dX9_confession_115 (lv_at hl 0 rfl) ?_
        refine lv_lload hx hb dX9_confession_117 (lv_at hl 2 rfl) ?_
        refine W.lcmp hx hb dX9_confession_119 ?_
        refine lv_if_gt (tgt := 129) hx hb dX9_confession_120 (by decide) (fun c_22 => ?_) (fun c_22 => ?_)
        · refine lv_lload hx hb dX9_confession_129 (lv_at hl 8 rfl) ?_
          refine lv_lstore (lv' := [(10, .long a69_2), (15, .long ((Int32.toInt64 ((p0 * p1) / 2)) * (a69_1 * 10))), (8, .long (a69_1 * 10)), (13, .long (((((Int32.toInt64 p2) * (Int32.toInt64 p0)) * (Int32.toInt64 p1)) * a69_1) + ((Int32.toInt64 (10 - p2)) * a69_0))), (1, .int p0), (2, .int p1), (3, .int p2), (5, .int p4), (6, .long a69_0), (12, .int (nI (n69_ + 1)))]) hx hb dX9_confession_131 hl (by decide) rfl (fun ls hl => ?_)
          refine lv_lload hx hb dX9_confession_133 (lv_at hl 1 rfl) ?_
          refine lv_lload hx hb dX9_confession_135 (lv_at hl 3 rfl) ?_
          refine W.lcmp hx hb dX9_confession_137 ?_
          refine lv_if_gt (tgt := 146) hx hb dX9_confession_138 (by decide) (fun c_23 => ?_) (fun c_23 => ?_)
          rotate_left
          · exact absurd c_22 c_23
          refine lv_lload hx hb dX9_confession_146 (lv_at hl 3 rfl) ?_
          refine lv_lstore (lv' := [(6, .long (((((Int32.toInt64 p2) * (Int32.toInt64 p0)) * (Int32.toInt64 p1)) * a69_1) + ((Int32.toInt64 (10 - p2)) * a69_0))), (10, .long a69_2), (15, .long ((Int32.toInt64 ((p0 * p1) / 2)) * (a69_1 * 10))), (8, .long (a69_1 * 10)), (13, .long (((((Int32.toInt64 p2) * (Int32.toInt64 p0)) * (Int32.toInt64 p1)) * a69_1) + ((Int32.toInt64 (10 - p2)) * a69_0))), (1, .int p0), (2, .int p1), (3, .int p2), (5, .int p4), (12, .int (nI (n69_ + 1)))]) hx hb dX9_confession_148 hl (by decide) rfl (fun ls hl => ?_)
          refine lv_iinc (v := (nI n69_)) (lv' := [(12, .int (nI n69_)), (6, .long (((((Int32.toInt64 p2) * (Int32.toInt64 p0)) * (Int32.toInt64 p1)) * a69_1) + ((Int32.toInt64 (10 - p2)) * a69_0))), (10, .long a69_2), (15, .long ((Int32.toInt64 ((p0 * p1) / 2)) * (a69_1 * 10))), (8, .long (a69_1 * 10)), (13, .long (((((Int32.toInt64 p2) * (Int32.toInt64 p0)) * (Int32.toInt64 p1)) * a69_1) + ((Int32.toInt64 (10 - p2)) * a69_0))), (1, .int p0), (2, .int p1), (3, .int p2), (5, .int p4)]) hx hb dX9_confession_150 hl (k := 9) rfl (pk_m1 _) (by decide) rfl (fun ls hl => ?_)
          refine lv_goto (tgt := 69) hx hb dX9_confession_153 (by decide) ?_
          exact ih69_ (((((Int32.toInt64 p2) * (Int32.toInt64 p0)) * (Int32.toInt64 p1)) * a69_1) + ((Int32.toInt64 (10 - p2)) * a69_0)) (a69_1 * 10) a69_2 (by omega) (by rw [← hv69_]; simp only [L_X9_confession_69, if_pos c_22]) _ _ hP hS _ (lv_sub hl [6, 7, 8, 9, 1, 4, 2, 0] rfl)
        refine lv_iload hx hb dX9_confession_123 (lv_at hl 9 rfl) ?_
        refine lv_i2l (v := (Int32.toInt64 (nI (n69_ + 1)))) hx hb dX9_confession_125 rfl ?_
        refine lv_goto (tgt := 131) hx hb dX9_confession_126 (by decide) ?_
        refine lv_lstore (lv' := [(10, .long (Int32.toInt64 (nI (n69_ + 1)))), (15, .long ((Int32.toInt64 ((p0 * p1) / 2)) * (a69_1 * 10))), (8, .long (a69_1 * 10)), (13, .long (((((Int32.toInt64 p2) * (Int32.toInt64 p0)) * (Int32.toInt64 p1)) * a69_1) + ((Int32.toInt64 (10 - p2)) * a69_0))), (1, .int p0), (2, .int p1), (3, .int p2), (5, .int p4), (6, .long a69_0), (12, .int (nI (n69_ + 1)))]) hx hb dX9_confession_131 hl (by decide) rfl (fun ls hl => ?_)
        refine lv_lload hx hb dX9_confession_133 (lv_at hl 1 rfl) ?_
        refine lv_lload hx hb dX9_confession_135 (lv_at hl 3 rfl) ?_
        refine W.lcmp hx hb dX9_confession_137 ?_
        refine lv_if_gt (tgt := 146) hx hb dX9_confession_138 (by decide) (fun c_24 => ?_) (fun c_24 => ?_)
        · exact absurd c_24 c_22
        refine lv_lload hx hb dX9_confession_141 (lv_at hl 1 rfl) ?_
        refine lv_goto (tgt := 148) hx hb dX9_confession_143 (by decide) ?_
        refine lv_lstore (lv' := [(6, .long ((Int32.toInt64 ((p0 * p1) / 2)) * (a69_1 * 10))), (10, .long (Int32.toInt64 (nI (n69_ + 1)))), (15, .long ((Int32.toInt64 ((p0 * p1) / 2)) * (a69_1 * 10))), (8, .long (a69_1 * 10)), (13, .long (((((Int32.toInt64 p2) * (Int32.toInt64 p0)) * (Int32.toInt64 p1)) * a69_1) + ((Int32.toInt64 (10 - p2)) * a69_0))), (1, .int p0), (2, .int p1), (3, .int p2), (5, .int p4), (12, .int (nI (n69_ + 1)))]) hx hb dX9_confession_148 hl (by decide) rfl (fun ls hl => ?_)
        refine lv_iinc (v := (nI n69_)) (lv' := [(12, .int (nI n69_)), (6, .long ((Int32.toInt64 ((p0 * p1) / 2)) * (a69_1 * 10))), (10, .long (Int32.toInt64 (nI (n69_ + 1)))), (15, .long ((Int32.toInt64 ((p0 * p1) / 2)) * (a69_1 * 10))), (8, .long (a69_1 * 10)), (13, .long (((((Int32.toInt64 p2) * (Int32.toInt64 p0)) * (Int32.toInt64 p1)) * a69_1) + ((Int32.toInt64 (10 - p2)) * a69_0))), (1, .int p0), (2, .int p1), (3, .int p2), (5, .int p4)]) hx hb dX9_confession_150 hl (k := 9) rfl (pk_m1 _) (by decide) rfl (fun ls hl => ?_)
        refine lv_goto (tgt := 69) hx hb dX9_confession_153 (by decide) ?_
        exact ih69_ ((Int32.toInt64 ((p0 * p1) / 2)) * (a69_1 * 10)) (a69_1 * 10) (Int32.toInt64 (nI (n69_ + 1))) (by omega) (by rw [← hv69_]; simp only [L_X9_confession_69, if_neg c_22]) _ _ hP hS _ (lv_sub hl [6, 7, 8, 9, 1, 4, 2, 0] rfl)
    exact loop69_ (Int32.toNatClampNeg p3) 0 1 (-4) (by omega) rfl _ _ hP hS _ (by rw [k_self (x := p3) (in_nn (hi := 12) (by assumption))]; exact (lv_sub hl [5, 6, 7, 9, 3, 2, 1, 0] rfl))
  refine lv_ldc2 hx hb hown hc179 dX9_confession_50 ?_
  exact ro_lret hx hb hr hlocks hS (by simp only [f_X9_confession, if_neg c_1, if_neg c_2, if_neg c_3, if_neg c_4, if_pos c_5]) dX9_confession_53
