/-! rows and facts for the reference -/
section QN
variable {p : Program} {l : Launch} {e : Env} {R : Room} {s : State} {m : MethodId} {args : Array Value} {below : List Frame} {meth : Method} {c : Code} {H : Heap} {locs : List Loc} {cells slots : Nat} {Q : State → Prop}
variable {cc : ByteArray} {pc : Nat} {ls : Array Slot} {rest : List Value}
theorem q_iaddN (a b : Nat) (hexec : p.tables.exec = Jvm.exec) (hb : c.code = cc) (hdg : decode cc pc = .ok (.iadd, 1))
    (k : W p l e R s m args below meth c H locs cells slots Q (F0 m (pc + 1) ls (.int (nI (a + b)) :: rest))) : W p l e R s m args below meth c H locs cells slots Q (F0 m pc ls (.int (nI b) :: .int (nI a) :: rest)) := by
  refine lv_iadd hexec hb hdg ?_
  rw [nI_add]
  exact k
theorem q_imulN (a b : Nat) (hexec : p.tables.exec = Jvm.exec) (hb : c.code = cc) (hdg : decode cc pc = .ok (.imul, 1))
    (k : W p l e R s m args below meth c H locs cells slots Q (F0 m (pc + 1) ls (.int (nI (a * b)) :: rest))) : W p l e R s m args below meth c H locs cells slots Q (F0 m pc ls (.int (nI b) :: .int (nI a) :: rest)) := by
  refine lv_imul hexec hb hdg ?_
  rw [pk_mul]
  exact k
theorem q_isubN (a : Nat) (h : ¬ nI a = 0) (hexec : p.tables.exec = Jvm.exec) (hb : c.code = cc) (hdg : decode cc pc = .ok (.isub, 1))
    (k : W p l e R s m args below meth c H locs cells slots Q (F0 m (pc + 1) ls (.int (nI (a - 1)) :: rest))) : W p l e R s m args below meth c H locs cells slots Q (F0 m pc ls (.int 1 :: .int (nI a) :: rest)) := by
  refine lv_isub hexec hb hdg ?_
  cases a with
  | zero => exact absurd rfl h
  | succ a =>
    rw [nI_pred]
    exact k
theorem q_isubC (a b : Nat) (h : b ≤ a) (hexec : p.tables.exec = Jvm.exec) (hb : c.code = cc) (hdg : decode cc pc = .ok (.isub, 1))
    (k : W p l e R s m args below meth c H locs cells slots Q (F0 m (pc + 1) ls (.int (nI (a - b)) :: rest))) : W p l e R s m args below meth c H locs cells slots Q (F0 m pc ls (.int (nI b) :: .int (nI a) :: rest)) := by
  refine lv_isub hexec hb hdg ?_
  rw [pk_sub h]
  exact k
theorem q_ialdV {D : va_G} {cl : List vw_C} {a : Nat} {tys : List (ClassId × FieldType)} {ws : va_W} (hexec : p.tables.exec = Jvm.exec) (hb : c.code = cc) (hK : va_K D cl tys s) (hP : va_P D cl ws H) (q0 t0 : Nat) {cA : ClassId} {n : Nat} {f : Nat → Int32} (ha : ws[q0]? = some (a, .inl (cA, n, .inl f))) (ht : tys[t0]? = some (cA, .int)) {i : Int32} (hin : vp_in i n) (k : Nat) (hk : i.toNatClampNeg = k) {v : Int32} (hv : f k = v) (hdg : decode cc pc = .ok (.iaload, 1))
    (kk : W p l e R s m args below meth c H locs cells slots Q (F0 m (pc + 1) ls (.int v :: rest))) : W p l e R s m args below meth c H locs cells slots Q (F0 m pc ls (.int i :: .ref a :: rest)) := by
  subst hv
  exact q_iald hexec hb hK hP q0 t0 ha ht hin k hk hdg kk
end QN
theorem cl_lt {x : Int32} {n : Nat} (h : vp_in x n) : x.toNatClampNeg < n := Nat.not_le.mp fun q => h (Or.inr q)
theorem cl_nI {x : Int32} {n : Nat} (h : vp_in x n) : nI x.toNatClampNeg = x := by
  obtain ⟨j, hj, e⟩ := nI_of (x := x) (fun q => h (Or.inl q))
  rw [e, nI_clamp hj]
theorem in_ne {x : Int32} {n : Nat} (h : vp_in x (n + 1)) (hn : ¬ x = nI n) (h31 : n + 1 < 2 ^ 31) : vp_in x n := by
  obtain ⟨j, hj, rfl⟩ := vp_in_of h h31
  refine vp_in_nI ?_ (by omega)
  rcases Nat.lt_or_ge j n with q | q
  · exact q
  · exact absurd (by rw [show j = n by omega]) hn
/-- what the reference's village is held to: persons, secrets, whose they are -/
def okM (t : Nat → Int32) : Prop := (∃ p, 1 ≤ p ∧ p ≤ 6 ∧ t 0 = nI p) ∧ (∃ q, q ≤ 8 ∧ t 1 = nI q) ∧ ∀ k, k < 8 → vp_in (t (21 + k)) 6
theorem okM_p {t : Nat → Int32} (h : okM t) : (t 0).toNatClampNeg ≤ 6 := by
  obtain ⟨⟨p, -, hp, e⟩, -⟩ := h
  rw [e, nI_clamp (by omega)]
  exact hp
theorem okM_s {t : Nat → Int32} (h : okM t) : (t 1).toNatClampNeg ≤ 8 := by
  obtain ⟨-, ⟨q, hq, e⟩, -⟩ := h
  rw [e, nI_clamp (by omega)]
  exact hq
theorem own_in {t : Nat → Int32} {k : Nat} (h : okM t) (hk : k < 8) : vp_in (t (21 + k)) 6 := h.2.2 k hk
theorem nI_tI {n : Nat} (h : n < 2 ^ 31) : (nI n).toInt = (n : Int) := nI_toInt h
theorem k_neN {n : Nat} {k : Nat} (h : ¬ nI n = nI k) : n ≠ k := fun q => h (by rw [q])
theorem k_ltT {a b : Nat} (ha : a < 2 ^ 31) (hb : b < 2 ^ 31) (h : nI a < nI b) : a < b := (nI_ltI ha hb).mp h
theorem k_ltF {a b : Nat} (ha : a < 2 ^ 31) (hb : b < 2 ^ 31) (h : ¬ nI a < nI b) : b ≤ a := Nat.not_lt.mp fun q => h ((nI_ltI ha hb).mpr q)
theorem k_leT {a b : Nat} (ha : a < 2 ^ 31) (hb : b < 2 ^ 31) (h : nI a ≤ nI b) : a ≤ b := (nI_leI ha hb).mp h
theorem k_leF {a b : Nat} (ha : a < 2 ^ 31) (hb : b < 2 ^ 31) (h : ¬ nI a ≤ nI b) : b < a := Nat.not_le.mp fun q => h ((nI_leI ha hb).mpr q)
abbrev wM (cI cC cG : ClassId) (m0 : Nat) (m1 : Nat) (m2 : Nat) (m3 : Nat) (m4 : Nat) (m5 : Nat) (m6 : Nat) (m7 : Nat) (m8 : Nat) (m9 : Nat) (m10 : Nat) (m11 : Nat) (m12 : Nat) (mTy : Nat) (mKn : Nat) (mKe : Nat) (mCa : Nat) (mSe : Nat) (mAt : Nat) (mFi : Int32) (mSc : Int32) (mTx : Nat → Int32) (mTo : Nat → Int32) (mDr : Nat → Int32) (mSt : Nat → Int32) (mPa : Nat → Int32) (mIm : Nat → Int32) (mWi : Nat → Int32) (mSn : Nat → Int32) (mHe : Nat → Int32) (mFw : Nat → Int32) (mRo : Nat → Int32) (mBe : Nat → Int32) : va_W := [(m0, .inr (9, [.ref m1, .int (nI mTy), .ref m2, .ref m3, .ref m4, .ref m5, .int (nI mKn), .ref m6, .int (nI mKe), .ref m7, .int (nI mCa), .ref m8, .int (nI mSe), .int (nI mAt), .int mFi, .int mSc, .ref m9, .ref m10, .ref m11, .ref m12])), (m1, .inl (cI, 200, .inl mTx)), (m2, .inl (cI, 37, .inl mTo)), (m3, .inl (cI, 37, .inl mDr)), (m4, .inl (cI, 15, .inl mSt)), (m5, .inl (cI, 120, .inl mPa)), (m6, .inl (cI, 30, .inl mIm)), (m7, .inl (cI, 5, .inl mWi)), (m8, .inl (cI, 6, .inl mSn)), (m9, .inl (cI, 15, .inl mHe)), (m10, .inl (cI, 384, .inl mFw)), (m11, .inl (cI, 5, .inl mRo)), (m12, .inl (cI, 5, .inl mBe))]
def f_X9_in (p0 : Int32) (p1 : Int32) (p2 : Int32) : Int32 := (if p0 < p1 then 0 else (if p2 < p0 then 0 else 1))
theorem b_X9_in (p0 : Int32) (p1 : Int32) (p2 : Int32) : (f_X9_in p0 p1 p2) = 0 ∨ (f_X9_in p0 p1 p2) = 1 := by
  unfold f_X9_in
  repeat' split
  all_goals first | exact Or.inl rfl | exact Or.inr rfl
abbrev rm_X9_in : Room := { frames := 0, cells := 0, slots := 0, locals := 0 }
set_option maxRecDepth 100000 in
set_option maxHeartbeats 4000000 in
theorem c_X9_in (l : Launch) (D : va_G) (cI cC cG : ClassId) (p0 : Int32) (p1 : Int32) (p2 : Int32) : RoI l yX9_in wsX9_in rm_X9_in D (q_t cI cC cG) [] [.int p0, .int p1, .int p2] (f_X9_in p0 p1 p2) := by
  refine ro_enter (cc := cX9_in) (maxL := 3) (ret := (some .boolean)) (by decide) rfl (Nat.le_of_ble_eq_true rfl) ?_
  intro p e s m below meth c ls B hP hK hl
  obtain ⟨hx, hb, hr, hlocks, hml, hown, hts, hN⟩ := B
  have hS : va_S q_no s.heap s.heap [] := va_S.rf
  have hown : s.vm.findClass RX9 = some m.cls := hown
  have hl : lv_has ls 3 [(0, .int p0), (1, .int p1), (2, .int p2)] := hl
  refine lv_iload_n hx hb dX9_in_0 rfl (lv_at hl 0 rfl) ?_
  refine lv_iload_n hx hb dX9_in_1 rfl (lv_at hl 1 rfl) ?_
  refine lv_icmp_lt (tgt := 14) hx hb dX9_in_2 (by decide) (fun c_1 => ?_) (fun c_1 => ?_)
  · refine lv_iconst (v := 0) hx hb dX9_in_14 (by decide) ?_
    exact ro_zret hx hb hr (by rfl) hlocks hS (by simp only [f_X9_in, if_pos c_1]) dX9_in_15
  refine lv_iload_n hx hb dX9_in_5 rfl (lv_at hl 0 rfl) ?_
  refine lv_iload_n hx hb dX9_in_6 rfl (lv_at hl 2 rfl) ?_
  refine lv_icmp_gt (tgt := 14) hx hb dX9_in_7 (by decide) (fun c_2 => ?_) (fun c_2 => ?_)
  · refine lv_iconst (v := 0) hx hb dX9_in_14 (by decide) ?_
    exact ro_zret hx hb hr (by rfl) hlocks hS (by simp only [f_X9_in, if_neg c_1, if_pos c_2]) dX9_in_15
  refine lv_iconst (v := 1) hx hb dX9_in_10 (by decide) ?_
  refine lv_goto (tgt := 15) hx hb dX9_in_11 (by decide) ?_
  exact ro_zret hx hb hr (by rfl) hlocks hS (by simp only [f_X9_in, if_neg c_1, if_neg c_2]) dX9_in_15
def F_X9_ones_4 (x0 : Int32) (i0_ : Int32) : Nat → Int32
  | 0 => i0_
  | j4_ + 1 => ((F_X9_ones_4 x0 i0_ j4_) + ((x0 >>> ((nI j4_) &&& 31)) &&& 1))
def f_X9_ones (p0 : Int32) : Int32 := (F_X9_ones_4 p0 0 8)
abbrev rm_X9_ones : Room := { frames := 0, cells := 0, slots := 0, locals := 0 }
set_option maxRecDepth 100000 in
set_option maxHeartbeats 4000000 in
theorem c_X9_ones (l : Launch) (D : va_G) (cI cC cG : ClassId) (p0 : Int32) : RoI l yX9_ones wsX9_ones rm_X9_ones D (q_t cI cC cG) [] [.int p0] (f_X9_ones p0) := by
  refine ro_enter (cc := cX9_ones) (maxL := 3) (ret := (some .int)) (by decide) rfl (Nat.le_of_ble_eq_true rfl) ?_
  intro p e s m below meth c ls B hP hK hl
  obtain ⟨hx, hb, hr, hlocks, hml, hown, hts, hN⟩ := B
  have hS : va_S q_no s.heap s.heap [] := va_S.rf
  have hown : s.vm.findClass RX9 = some m.cls := hown
  have hl : lv_has ls 3 [(0, .int p0)] := hl
  refine lv_iconst (v := 0) hx hb dX9_ones_0 (by decide) ?_
  refine lv_istore_n (lv' := [(1, .int 0), (0, .int p0)]) hx hb dX9_ones_1 rfl hl (by decide) rfl (fun ls hl => ?_)
  refine lv_iconst (v := 0) hx hb dX9_ones_2 (by decide) ?_
  refine lv_istore_n (lv' := [(2, .int 0), (1, .int 0), (0, .int p0)]) hx hb dX9_ones_3 rfl hl (by decide) rfl (fun ls hl => ?_)
  have K4_ : ∀ (H : Heap) (locs : List Loc), va_P D vwCl [] H → va_S q_no s.heap H locs → ∀ ls : Array Slot, lv_has ls 3 [(1, .int (F_X9_ones_4 p0 0 8))] → W p l e rm_X9_ones s m ([.int p0] : List Value).toArray below meth c H locs 0 0 (MQ below (q_Qi (f_X9_ones p0)) ([.int p0] : List Value).toArray s 0 0 q_no) (F0 m 24 ls []) := by
    intro H locs hP hS ls hl
    refine lv_iload_n hx hb dX9_ones_24 rfl (lv_at hl 0 rfl) ?_
    exact ro_iret hx hb hr hlocks hS (by simp only [f_X9_ones]) dX9_ones_25
  have loop4_ : ∀ (n4_ j4_ : Nat), j4_ + n4_ = 8 → ∀ (H : Heap) (locs : List Loc), va_P D vwCl [] H → va_S q_no s.heap H locs → ∀ ls : Array Slot, lv_has ls 3 [(0, .int p0), (1, .int (F_X9_ones_4 p0 0 j4_)), (2, .int (nI j4_))] → W p l e rm_X9_ones s m ([.int p0] : List Value).toArray below meth c H locs 0 0 (MQ below (q_Qi (f_X9_ones p0)) ([.int p0] : List Value).toArray s 0 0 q_no) (F0 m 4 ls []) := by
    intro n4_
    induction n4_ with
    | zero =>
      intro j4_ hj4_ H locs hP hS ls hl
      obtain rfl : j4_ = 8 := by omega
      refine lv_iload_n hx hb dX9_ones_4 rfl (lv_at hl 2 rfl) ?_
      refine lv_bipush (v := 8) hx hb dX9_ones_5 (by decide) ?_
      refine lv_icmp_ge (tgt := 24) hx hb dX9_ones_7 (by decide) (fun c_1 => ?_) (fun c_1 => ?_)
      rotate_left
      · exact absurd (nI_le (Nat.le_refl 8) (by decide)) c_1
      exact K4_ _ _ hP hS _ (lv_sub hl [1] rfl)
    | succ n4_ ih4_ =>
      intro j4_ hj4_ H locs hP hS ls hl
      refine lv_iload_n hx hb dX9_ones_4 rfl (lv_at hl 2 rfl) ?_
      refine lv_bipush (v := 8) hx hb dX9_ones_5 (by decide) ?_
      refine lv_icmp_ge (tgt := 24) hx hb dX9_ones_7 (by decide) (fun c_2 => ?_) (fun c_2 => ?_)
      · exact absurd c_2 (nI_ge (b := 8) (by omega) (by decide))
      refine lv_iload_n hx hb dX9_ones_10 rfl (lv_at hl 1 rfl) ?_
      refine lv_iload_n hx hb dX9_ones_11 rfl (lv_at hl 0 rfl) ?_
      refine lv_iload_n hx hb dX9_ones_12 rfl (lv_at hl 2 rfl) ?_
      refine lv_ishr hx hb dX9_ones_13 ?_
      refine lv_iconst (v := 1) hx hb dX9_ones_14 (by decide) ?_
      refine lv_iand hx hb dX9_ones_15 ?_
      refine lv_iadd hx hb dX9_ones_16 ?_
      refine lv_istore_n (lv' := [(1, .int ((F_X9_ones_4 p0 0 j4_) + ((p0 >>> ((nI j4_) &&& 31)) &&& 1))), (0, .int p0), (2, .int (nI j4_))]) hx hb dX9_ones_17 rfl hl (by decide) rfl (fun ls hl => ?_)
      refine lv_iinc (v := (nI (j4_ + 1))) (lv' := [(2, .int (nI (j4_ + 1))), (1, .int ((F_X9_ones_4 p0 0 j4_) + ((p0 >>> ((nI j4_) &&& 31)) &&& 1))), (0, .int p0)]) hx hb dX9_ones_18 hl (k := 2) rfl (nI_1 _) (by decide) rfl (fun ls hl => ?_)
      refine lv_goto (tgt := 4) hx hb dX9_ones_21 (by decide) ?_
      have e_3 : (F_X9_ones_4 p0 0 (j4_ + 1)) = ((F_X9_ones_4 p0 0 j4_) + ((p0 >>> ((nI j4_) &&& 31)) &&& 1)) := by simp only [F_X9_ones_4]
      exact ih4_ (j4_ + 1) (by omega) _ _ hP hS _ (by rw [e_3]; exact (lv_sub hl [2, 1, 0] rfl))
  exact loop4_ 8 0 (by omega) _ _ hP hS _ (lv_sub hl [2, 1, 0] rfl)
def f_X9_isFigure (p0 : Int32) : Int32 := (f_X9_in p0 48 57)
theorem b_X9_isFigure (p0 : Int32) : (f_X9_isFigure p0) = 0 ∨ (f_X9_isFigure p0) = 1 := by
  unfold f_X9_isFigure
  repeat' split
  all_goals first | exact Or.inl rfl | exact Or.inr rfl | exact b_X9_in _ _ _
abbrev rm_X9_isFigure : Room := { frames := 1, cells := 0, slots := 0, locals := 22 }
set_option maxRecDepth 100000 in
set_option maxHeartbeats 4000000 in
theorem c_X9_isFigure (l : Launch) (D : va_G) (cI cC cG : ClassId) (p0 : Int32) : RoI l yX9_isFigure wsX9_isFigure rm_X9_isFigure D (q_t cI cC cG) [] [.int p0] (f_X9_isFigure p0) := by
  refine ro_enter (cc := cX9_isFigure) (maxL := 1) (ret := (some .boolean)) (by decide) rfl (Nat.le_of_ble_eq_true rfl) ?_
  intro p e s m below meth c ls B hP hK hl
  obtain ⟨hx, hb, hr, hlocks, hml, hown, hts, hN⟩ := B
  have hS : va_S q_no s.heap s.heap [] := va_S.rf
  have hown : s.vm.findClass RX9 = some m.cls := hown
  have hl : lv_has ls 1 [(0, .int p0)] := hl
  refine lv_iload_n hx hb dX9_isFigure_0 rfl (lv_at hl 0 rfl) ?_
  refine lv_bipush (v := 48) hx hb dX9_isFigure_1 (by decide) ?_
  refine lv_bipush (v := 57) hx hb dX9_isFigure_3 (by decide) ?_
  refine ro_i (va_runS (As := [.int p0, .int 48, .int 57]) (rest := []) ⟨hx, hb, hml, hown, hts⟩ (c_X9_in l D cI cC cG p0 48 57) (cwS 3 hts gX9_isFigure_X9_in rfl rfl rfl (by decide +kernel) ⟨Nat.le_of_ble_eq_true rfl, Nat.le_of_ble_eq_true rfl⟩) (q_preS hK hP hN [] rfl) rfl rfl hl.1 rfl (lv_room (Nat.le_of_ble_eq_true rfl)) dX9_isFigure_5 ⟨Nat.zero_le _, Nat.zero_le _⟩) hS hP (fun H locs hP hS => ?_)
  exact ro_zret hx hb hr (q_nb (b_X9_in _ _ _)) hlocks hS (by simp only [f_X9_isFigure]) dX9_isFigure_8
def f_X9_care (p0 : Int32) (p1 : Int32) : Int32 := (if p0 = 1 then 2 else (if p0 = 2 then 0 else (if p0 = 3 then (if p1 ≤ 1 then 0 else 1) else 1)))
abbrev rm_X9_care : Room := { frames := 0, cells := 0, slots := 0, locals := 0 }
set_option maxRecDepth 100000 in
set_option maxHeartbeats 4000000 in
theorem c_X9_care (l : Launch) (D : va_G) (cI cC cG : ClassId) (p0 : Int32) (p1 : Int32) : RoI l yX9_care wsX9_care rm_X9_care D (q_t cI cC cG) [] [.int p0, .int p1] (f_X9_care p0 p1) := by
  refine ro_enter (cc := cX9_care) (maxL := 2) (ret := (some .int)) (by decide) rfl (Nat.le_of_ble_eq_true rfl) ?_
  intro p e s m below meth c ls B hP hK hl
  obtain ⟨hx, hb, hr, hlocks, hml, hown, hts, hN⟩ := B
  have hS : va_S q_no s.heap s.heap [] := va_S.rf
  have hown : s.vm.findClass RX9 = some m.cls := hown
  have hl : lv_has ls 2 [(0, .int p0), (1, .int p1)] := hl
  refine lv_iload_n hx hb dX9_care_0 rfl (lv_at hl 0 rfl) ?_
  refine lv_iconst (v := 1) hx hb dX9_care_1 (by decide) ?_
  refine lv_icmp_ne (tgt := 9) hx hb dX9_care_2 (by decide) (fun c_1 => ?_) (fun c_1 => ?_)
  · refine lv_iload_n hx hb dX9_care_9 rfl (lv_at hl 0 rfl) ?_
    refine lv_iconst (v := 2) hx hb dX9_care_10 (by decide) ?_
    refine lv_icmp_ne (tgt := 18) hx hb dX9_care_11 (by decide) (fun c_2 => ?_) (fun c_2 => ?_)
    · refine lv_iload_n hx hb dX9_care_18 rfl (lv_at hl 0 rfl) ?_
      refine lv_iconst (v := 3) hx hb dX9_care_19 (by decide) ?_
      refine lv_icmp_ne (tgt := 36) hx hb dX9_care_20 (by decide) (fun c_3 => ?_) (fun c_3 => ?_)
      · refine lv_iconst (v := 1) hx hb dX9_care_36 (by decide) ?_
        exact ro_iret hx hb hr hlocks hS (by simp only [f_X9_care, if_neg c_1, if_neg c_2, if_neg c_3]) dX9_care_37
      refine lv_iload_n hx hb dX9_care_23 rfl (lv_at hl 1 rfl) ?_
      refine lv_iconst (v := 1) hx hb dX9_care_24 (by decide) ?_
      refine lv_icmp_le (tgt := 32) hx hb dX9_care_25 (by decide) (fun c_4 => ?_) (fun c_4 => ?_)
      · refine lv_iconst (v := 0) hx hb dX9_care_32 (by decide) ?_
        refine lv_goto (tgt := 37) hx hb dX9_care_33 (by decide) ?_
        exact ro_iret hx hb hr hlocks hS (by simp only [f_X9_care, if_neg c_1, if_neg c_2, if_pos c_3, if_pos c_4]) dX9_care_37
      refine lv_iconst (v := 1) hx hb dX9_care_28 (by decide) ?_
      refine lv_goto (tgt := 37) hx hb dX9_care_29 (by decide) ?_
      exact ro_iret hx hb hr hlocks hS (by simp only [f_X9_care, if_neg c_1, if_neg c_2, if_pos c_3, if_neg c_4]) dX9_care_37
    refine lv_iconst (v := 0) hx hb dX9_care_14 (by decide) ?_
    refine lv_goto (tgt := 37) hx hb dX9_care_15 (by decide) ?_
    exact ro_iret hx hb hr hlocks hS (by simp only [f_X9_care, if_neg c_1, if_pos c_2]) dX9_care_37
  refine lv_iconst (v := 2) hx hb dX9_care_5 (by decide) ?_
  refine lv_goto (tgt := 37) hx hb dX9_care_6 (by decide) ?_
  exact ro_iret hx hb hr hlocks hS (by simp only [f_X9_care, if_pos c_1]) dX9_care_37
def f_X9_isPerson (mTo : Nat → Int32) (p0 : Int32) : Int32 := (f_X9_in p0 0 ((mTo 0) - 1))
abbrev rm_X9_isPerson : Room := { frames := 1, cells := 0, slots := 0, locals := 22 }
set_option maxRecDepth 100000 in
set_option maxHeartbeats 4000000 in
theorem c_X9_isPerson (l : Launch) (D : va_G) (cI cC cG : ClassId) (m0 : Nat) (m1 : Nat) (m2 : Nat) (m3 : Nat) (m4 : Nat) (m5 : Nat) (m6 : Nat) (m7 : Nat) (m8 : Nat) (m9 : Nat) (m10 : Nat) (m11 : Nat) (m12 : Nat) (mTy : Nat) (mKn : Nat) (mKe : Nat) (mCa : Nat) (mSe : Nat) (mAt : Nat) (mFi : Int32) (mSc : Int32) (mTx : Nat → Int32) (mTo : Nat → Int32) (mDr : Nat → Int32) (mSt : Nat → Int32) (mPa : Nat → Int32) (mIm : Nat → Int32) (mWi : Nat → Int32) (mSn : Nat → Int32) (mHe : Nat → Int32) (mFw : Nat → Int32) (mRo : Nat → Int32) (mBe : Nat → Int32) (p0 : Int32) : RoI l yX9_isPerson wsX9_isPerson rm_X9_isPerson D (q_t cI cC cG) (wM cI cC cG m0 m1 m2 m3 m4 m5 m6 m7 m8 m9 m10 m11 m12 mTy mKn mKe mCa mSe mAt mFi mSc mTx mTo mDr mSt mPa mIm mWi mSn mHe mFw mRo mBe) [.ref m0, .int p0] (f_X9_isPerson mTo p0) := by
  refine ro_enter (cc := cX9_isPerson) (maxL := 2) (ret := (some .boolean)) (by decide) rfl (Nat.le_of_ble_eq_true rfl) ?_
  intro p e s m below meth c ls B hP hK hl
  obtain ⟨hx, hb, hr, hlocks, hml, hown, hts, hN⟩ := B
  have hS : va_S q_no s.heap s.heap [] := va_S.rf
  have hown : s.vm.findClass RX9 = some m.cls := hown
  have hl : lv_has ls 2 [(0, .ref m0), (1, .int p0)] := hl
  have hf13 := hts (.fieldLink RX9 13 "OlderByABlushModel" "told" "[I") (by decide +kernel)
  have hinX9 : ∀ w ∈ u_ws RX9 TX9 20, w ∈ wsX9_isPerson := by decide +kernel
  refine lv_iload_n hx hb dX9_isPerson_0 rfl (lv_at hl 1 rfl) ?_
  refine lv_iconst (v := 0) hx hb dX9_isPerson_1 (by decide) ?_
  refine lv_aload_n hx hb dX9_isPerson_2 rfl (lv_at hl 0 rfl) ?_
  refine va_get (D := D) (ci := 9) (v := .ref m2) (C := RX9) (T := TX9) (N := 20) hx hb hts hinX9 hown hK hP 0 rfl rfl 2 (by decide) hf13 (fun _ h9 => h9) rfl dX9_isPerson_3 ?_
  refine lv_iconst (v := 0) hx hb dX9_isPerson_6 (by decide) ?_
  refine q_iald hx hb hK hP 2 0 rfl rfl (vp_in_nI (n := 0) (N := 37) (by decide) (by decide)) 0 (by decide) dX9_isPerson_7 ?_
  refine lv_iconst (v := 1) hx hb dX9_isPerson_8 (by decide) ?_
  refine lv_isub hx hb dX9_isPerson_9 ?_
  refine ro_i (va_runS (As := [.int p0, .int 0, .int ((mTo 0) - 1)]) (rest := []) ⟨hx, hb, hml, hown, hts⟩ (c_X9_in l D cI cC cG p0 0 ((mTo 0) - 1)) (cwS 3 hts gX9_isPerson_X9_in rfl rfl rfl (by decide +kernel) ⟨Nat.le_of_ble_eq_true rfl, Nat.le_of_ble_eq_true rfl⟩) (q_preS hK hP hN [] rfl) rfl rfl hl.1 rfl (lv_room (Nat.le_of_ble_eq_true rfl)) dX9_isPerson_10 ⟨Nat.zero_le _, Nat.zero_le _⟩) hS hP (fun H locs hP hS => ?_)
  exact ro_zret hx hb hr (q_nb (b_X9_in _ _ _)) hlocks hS (by simp only [f_X9_isPerson]) dX9_isPerson_13
def f_X9_isSecret (mTo : Nat → Int32) (p0 : Int32) : Int32 := (f_X9_in p0 0 ((mTo 1) - 1))
abbrev rm_X9_isSecret : Room := { frames := 1, cells := 0, slots := 0, locals := 22 }
set_option maxRecDepth 100000 in
set_option maxHeartbeats 4000000 in
theorem c_X9_isSecret (l : Launch) (D : va_G) (cI cC cG : ClassId) (m0 : Nat) (m1 : Nat) (m2 : Nat) (m3 : Nat) (m4 : Nat) (m5 : Nat) (m6 : Nat) (m7 : Nat) (m8 : Nat) (m9 : Nat) (m10 : Nat) (m11 : Nat) (m12 : Nat) (mTy : Nat) (mKn : Nat) (mKe : Nat) (mCa : Nat) (mSe : Nat) (mAt : Nat) (mFi : Int32) (mSc : Int32) (mTx : Nat → Int32) (mTo : Nat → Int32) (mDr : Nat → Int32) (mSt : Nat → Int32) (mPa : Nat → Int32) (mIm : Nat → Int32) (mWi : Nat → Int32) (mSn : Nat → Int32) (mHe : Nat → Int32) (mFw : Nat → Int32) (mRo : Nat → Int32) (mBe : Nat → Int32) (p0 : Int32) : RoI l yX9_isSecret wsX9_isSecret rm_X9_isSecret D (q_t cI cC cG) (wM cI cC cG m0 m1 m2 m3 m4 m5 m6 m7 m8 m9 m10 m11 m12 mTy mKn mKe mCa mSe mAt mFi mSc mTx mTo mDr mSt mPa mIm mWi mSn mHe mFw mRo mBe) [.ref m0, .int p0] (f_X9_isSecret mTo p0) := by
  refine ro_enter (cc := cX9_isSecret) (maxL := 2) (ret := (some .boolean)) (by decide) rfl (Nat.le_of_ble_eq_true rfl) ?_
  intro p e s m below meth c ls B hP hK hl
  obtain ⟨hx, hb, hr, hlocks, hml, hown, hts, hN⟩ := B
  have hS : va_S q_no s.heap s.heap [] := va_S.rf
  have hown : s.vm.findClass RX9 = some m.cls := hown
  have hl : lv_has ls 2 [(0, .ref m0), (1, .int p0)] := hl
  have hf13 := hts (.fieldLink RX9 13 "OlderByABlushModel" "told" "[I") (by decide +kernel)
  have hinX9 : ∀ w ∈ u_ws RX9 TX9 20, w ∈ wsX9_isSecret := by decide +kernel
  refine lv_iload_n hx hb dX9_isSecret_0 rfl (lv_at hl 1 rfl) ?_
  refine lv_iconst (v := 0) hx hb dX9_isSecret_1 (by decide) ?_
  refine lv_aload_n hx hb dX9_isSecret_2 rfl (lv_at hl 0 rfl) ?_
  refine va_get (D := D) (ci := 9) (v := .ref m2) (C := RX9) (T := TX9) (N := 20) hx hb hts hinX9 hown hK hP 0 rfl rfl 2 (by decide) hf13 (fun _ h9 => h9) rfl dX9_isSecret_3 ?_
  refine lv_iconst (v := 1) hx hb dX9_isSecret_6 (by decide) ?_
  refine q_iald hx hb hK hP 2 0 rfl rfl (vp_in_nI (n := 1) (N := 37) (by decide) (by decide)) 1 (by decide) dX9_isSecret_7 ?_
  refine lv_iconst (v := 1) hx hb dX9_isSecret_8 (by decide) ?_
  refine lv_isub hx hb dX9_isSecret_9 ?_
  refine ro_i (va_runS (As := [.int p0, .int 0, .int ((mTo 1) - 1)]) (rest := []) ⟨hx, hb, hml, hown, hts⟩ (c_X9_in l D cI cC cG p0 0 ((mTo 1) - 1)) (cwS 3 hts gX9_isSecret_X9_in rfl rfl rfl (by decide +kernel) ⟨Nat.le_of_ble_eq_true rfl, Nat.le_of_ble_eq_true rfl⟩) (q_preS hK hP hN [] rfl) rfl rfl hl.1 rfl (lv_room (Nat.le_of_ble_eq_true rfl)) dX9_isSecret_10 ⟨Nat.zero_le _, Nat.zero_le _⟩) hS hP (fun H locs hP hS => ?_)
  exact ro_zret hx hb hr (q_nb (b_X9_in _ _ _)) hlocks hS (by simp only [f_X9_isSecret]) dX9_isSecret_13
theorem pers_in {t : Nat → Int32} {i : Int32} (h : okM t) (hi : ¬ f_X9_isPerson t i = 0) : vp_in i 6 := by
  obtain ⟨⟨p, hp1, hp, e⟩, -⟩ := h
  unfold f_X9_isPerson f_X9_in at hi
  rw [e] at hi
  obtain ⟨p, rfl⟩ : ∃ q, p = q + 1 := ⟨p - 1, by omega⟩
  rw [nI_pred] at hi
  by_cases h1 : i < 0
  · rw [if_pos h1] at hi
    exact absurd rfl hi
  · rw [if_neg h1] at hi
    by_cases h3 : nI p < i
    · rw [if_pos h3] at hi
      exact absurd rfl hi
    · have h2 := Int32.not_lt.mp h3
      obtain ⟨j, hj, rfl⟩ := nI_of h1
      have := (nI_leI hj (by omega)).mp h2
      exact vp_in_nI (by omega) (by decide)
theorem secr_in {t : Nat → Int32} {i : Int32} (h : okM t) (hi : ¬ f_X9_isSecret t i = 0) : vp_in i 8 := by
  obtain ⟨-, ⟨p, hp, e⟩, -⟩ := h
  unfold f_X9_isSecret f_X9_in at hi
  rw [e] at hi
  by_cases h1 : i < 0
  · rw [if_pos h1] at hi
    exact absurd rfl hi
  · rw [if_neg h1] at hi
    by_cases h5 : nI p - 1 < i
    · rw [if_pos h5] at hi
      exact absurd rfl hi
    · have h2 := Int32.not_lt.mp h5
      obtain ⟨j, hj, rfl⟩ := nI_of h1
      cases p with
      | zero =>
        have h3 := Int32.le_iff_toInt_le.mp h2
        rw [nI_toInt hj] at h3
        have h4 : (nI 0 - 1).toInt = -1 := by decide
        omega
      | succ p =>
        rw [nI_pred] at h2
        have := (nI_leI hj (by omega)).mp h2
        exact vp_in_nI (by omega) (by decide)
def f_X9_write (mTy : Nat) (p0 : Int32) : Int32 := (if (f_X9_in p0 32 126) = 0 then (-1) else (if (nI mTy) = 200 then (-3) else (nI (mTy + 1))))
def g_X9_write_mTy (mTy : Nat) (p0 : Int32) : Nat := (if (f_X9_in p0 32 126) = 0 then mTy else (if (nI mTy) = 200 then mTy else (mTy + 1)))
def g_X9_write_mTx (mTy : Nat) (mTx : Nat → Int32) (p0 : Int32) : Nat → Int32 := (if (f_X9_in p0 32 126) = 0 then mTx else (if (nI mTy) = 200 then mTx else (upd mTx mTy p0)))
theorem tyin {n : Nat} (h : n ≤ 200) (hn : ¬ nI n = 200) : vp_in (nI n) 200 := by
  refine vp_in_nI ?_ (by decide)
  rcases Nat.lt_or_ge n 200 with q | q
  · exact q
  · exact absurd (by rw [show n = 200 by omega]; rfl) hn
abbrev rm_X9_write : Room := { frames := 1, cells := 0, slots := 0, locals := 22 }
set_option maxRecDepth 100000 in
set_option maxHeartbeats 4000000 in
theorem c_X9_write (l : Launch) (D : va_G) (cI cC cG : ClassId) (m0 : Nat) (m1 : Nat) (m2 : Nat) (m3 : Nat) (m4 : Nat) (m5 : Nat) (m6 : Nat) (m7 : Nat) (m8 : Nat) (m9 : Nat) (m10 : Nat) (m11 : Nat) (m12 : Nat) (mTy : Nat) (mKn : Nat) (mKe : Nat) (mCa : Nat) (mSe : Nat) (mAt : Nat) (mFi : Int32) (mSc : Int32) (mTx : Nat → Int32) (mTo : Nat → Int32) (mDr : Nat → Int32) (mSt : Nat → Int32) (mPa : Nat → Int32) (mIm : Nat → Int32) (mWi : Nat → Int32) (mSn : Nat → Int32) (mHe : Nat → Int32) (mFw : Nat → Int32) (mRo : Nat → Int32) (mBe : Nat → Int32) (p0 : Int32) (sz : Nat) (hty : mTy ≤ 200) : RwI l yX9_write wsX9_write rm_X9_write D (q_t cI cC cG) (wM cI cC cG m0 m1 m2 m3 m4 m5 m6 m7 m8 m9 m10 m11 m12 mTy mKn mKe mCa mSe mAt mFi mSc mTx mTo mDr mSt mPa mIm mWi mSn mHe mFw mRo mBe) (wM cI cC cG m0 m1 m2 m3 m4 m5 m6 m7 m8 m9 m10 m11 m12 (g_X9_write_mTy mTy p0) mKn mKe mCa mSe mAt mFi mSc (g_X9_write_mTx mTy mTx p0) mTo mDr mSt mPa mIm mWi mSn mHe mFw mRo mBe) sz [.ref m0, .int p0] (f_X9_write mTy p0) := by
  refine rw_enter (cc := cX9_write) (maxL := 2) (ret := (some .int)) (by decide) rfl (Nat.le_of_ble_eq_true rfl) ?_
  intro p e s m below meth c ls B hP hK hD hS hA hl
  obtain ⟨hx, hb, hr, hlocks, hml, hown, hts, hN⟩ := B
  have hown : s.vm.findClass RX9 = some m.cls := hown
  have hl : lv_has ls 2 [(0, .ref m0), (1, .int p0)] := hl
  have hf66 := hts (.fieldLink RX9 66 "OlderByABlushModel" "typed" "I") (by decide +kernel)
  have hinX9 : ∀ w ∈ u_ws RX9 TX9 20, w ∈ wsX9_write := by decide +kernel
  have hf7 := hts (.fieldLink RX9 7 "OlderByABlushModel" "text" "[I") (by decide +kernel)
  refine lv_iload_n hx hb dX9_write_0 rfl (lv_at hl 1 rfl) ?_
  refine lv_bipush (v := 32) hx hb dX9_write_1 (by decide) ?_
  refine lv_bipush (v := 126) hx hb dX9_write_3 (by decide) ?_
  refine ro_i (va_runS (As := [.int p0, .int 32, .int 126]) (rest := []) ⟨hx, hb, hml, hown, hts⟩ (c_X9_in l D cI cC cG p0 32 126) (cwS 3 hts gX9_write_X9_in rfl rfl rfl (by decide +kernel) ⟨Nat.le_of_ble_eq_true rfl, Nat.le_of_ble_eq_true rfl⟩) (q_preS hK hP hN [] rfl) rfl rfl hl.1 rfl (lv_room (Nat.le_of_ble_eq_true rfl)) dX9_write_5 ⟨Nat.zero_le _, Nat.zero_le _⟩) hS hP (fun H locs hP hS => ?_)
  refine lv_if_ne (tgt := 13) hx hb dX9_write_8 (by decide) (fun c_1 => ?_) (fun c_1 => ?_)
  · refine lv_aload_n hx hb dX9_write_13 rfl (lv_at hl 0 rfl) ?_
    refine va_get (D := D) (ci := 9) (v := .int (nI mTy)) (C := RX9) (T := TX9) (N := 20) hx hb hts hinX9 hown hK hP 0 rfl rfl 1 (by decide) hf66 (fun _ h9 => h9) rfl dX9_write_14 ?_
    refine lv_sipush (v := 200) hx hb dX9_write_17 (by decide) ?_
    refine lv_icmp_ne (tgt := 26) hx hb dX9_write_20 (by decide) (fun c_2 => ?_) (fun c_2 => ?_)
    · have nc_2 := k_neN (k := 200) c_2
      refine lv_aload_n hx hb dX9_write_26 rfl (lv_at hl 0 rfl) ?_
      refine va_get (D := D) (ci := 9) (v := .ref m1) (C := RX9) (T := TX9) (N := 20) hx hb hts hinX9 hown hK hP 0 rfl rfl 0 (by decide) hf7 (fun _ h9 => h9) rfl dX9_write_27 ?_
      refine lv_aload_n hx hb dX9_write_30 rfl (lv_at hl 0 rfl) ?_
      refine va_get (D := D) (ci := 9) (v := .int (nI mTy)) (C := RX9) (T := TX9) (N := 20) hx hb hts hinX9 hown hK hP 0 rfl rfl 1 (by decide) hf66 (fun _ h9 => h9) rfl dX9_write_31 ?_
      refine lv_iload_n hx hb dX9_write_34 rfl (lv_at hl 1 rfl) ?_
      refine q_iast hx hb hK hP hD hS 1 0 rfl rfl (tyin hty c_2) mTy (nI_clamp (by omega)) dX9_write_35 (fun H locs hP hD hS => ?_)
      have hP : va_P D vwCl [(m0, .inr (9, [.ref m1, .int (nI mTy), .ref m2, .ref m3, .ref m4, .ref m5, .int (nI mKn), .ref m6, .int (nI mKe), .ref m7, .int (nI mCa), .ref m8, .int (nI mSe), .int (nI mAt), .int mFi, .int mSc, .ref m9, .ref m10, .ref m11, .ref m12])), (m1, .inl (cI, 200, .inl (upd mTx mTy p0))), (m2, .inl (cI, 37, .inl mTo)), (m3, .inl (cI, 37, .inl mDr)), (m4, .inl (cI, 15, .inl mSt)), (m5, .inl (cI, 120, .inl mPa)), (m6, .inl (cI, 30, .inl mIm)), (m7, .inl (cI, 5, .inl mWi)), (m8, .inl (cI, 6, .inl mSn)), (m9, .inl (cI, 15, .inl mHe)), (m10, .inl (cI, 384, .inl mFw)), (m11, .inl (cI, 5, .inl mRo)), (m12, .inl (cI, 5, .inl mBe))] H := hP
      have hD : va_D (va_A (wM cI cC cG m0 m1 m2 m3 m4 m5 m6 m7 m8 m9 m10 m11 m12 mTy mKn mKe mCa mSe mAt mFi mSc mTx mTo mDr mSt mPa mIm mWi mSn mHe mFw mRo mBe) sz) [(m0, .inr (9, [.ref m1, .int (nI mTy), .ref m2, .ref m3, .ref m4, .ref m5, .int (nI mKn), .ref m6, .int (nI mKe), .ref m7, .int (nI mCa), .ref m8, .int (nI mSe), .int (nI mAt), .int mFi, .int mSc, .ref m9, .ref m10, .ref m11, .ref m12])), (m1, .inl (cI, 200, .inl (upd mTx mTy p0))), (m2, .inl (cI, 37, .inl mTo)), (m3, .inl (cI, 37, .inl mDr)), (m4, .inl (cI, 15, .inl mSt)), (m5, .inl (cI, 120, .inl mPa)), (m6, .inl (cI, 30, .inl mIm)), (m7, .inl (cI, 5, .inl mWi)), (m8, .inl (cI, 6, .inl mSn)), (m9, .inl (cI, 15, .inl mHe)), (m10, .inl (cI, 384, .inl mFw)), (m11, .inl (cI, 5, .inl mRo)), (m12, .inl (cI, 5, .inl mBe))] := hD
      refine lv_aload_n hx hb dX9_write_36 rfl (lv_at hl 0 rfl) ?_
      refine lv_dup hx hb dX9_write_37 rfl ?_
      refine va_get (D := D) (ci := 9) (v := .int (nI mTy)) (C := RX9) (T := TX9) (N := 20) hx hb hts hinX9 hown hK hP 0 rfl rfl 1 (by decide) hf66 (fun _ h9 => h9) rfl dX9_write_38 ?_
      refine lv_iconst (v := 1) hx hb dX9_write_41 (by decide) ?_
      refine q_iaddN (a := mTy) (b := 1) hx hb dX9_write_42 ?_
      refine va_put (D := D) (ci := 9) (v := .int (nI (mTy + 1))) (ty := .int) (C := RX9) (T := TX9) (N := 20) hx hb hts hinX9 tyX9 tyX9_ok nmX9 hown hK hP hD hS 0 rfl rfl 1 (by decide) hf66 (fun _ h9 => h9) rfl (by decide +kernel) rfl rfl (Nat.le_of_ble_eq_true rfl) dX9_write_43 (fun H locs hP hD hS => ?_)
      have hP : va_P D vwCl [(m0, .inr (9, [.ref m1, .int (nI (mTy + 1)), .ref m2, .ref m3, .ref m4, .ref m5, .int (nI mKn), .ref m6, .int (nI mKe), .ref m7, .int (nI mCa), .ref m8, .int (nI mSe), .int (nI mAt), .int mFi, .int mSc, .ref m9, .ref m10, .ref m11, .ref m12])), (m1, .inl (cI, 200, .inl (upd mTx mTy p0))), (m2, .inl (cI, 37, .inl mTo)), (m3, .inl (cI, 37, .inl mDr)), (m4, .inl (cI, 15, .inl mSt)), (m5, .inl (cI, 120, .inl mPa)), (m6, .inl (cI, 30, .inl mIm)), (m7, .inl (cI, 5, .inl mWi)), (m8, .inl (cI, 6, .inl mSn)), (m9, .inl (cI, 15, .inl mHe)), (m10, .inl (cI, 384, .inl mFw)), (m11, .inl (cI, 5, .inl mRo)), (m12, .inl (cI, 5, .inl mBe))] H := hP
      have hD : va_D (va_A (wM cI cC cG m0 m1 m2 m3 m4 m5 m6 m7 m8 m9 m10 m11 m12 mTy mKn mKe mCa mSe mAt mFi mSc mTx mTo mDr mSt mPa mIm mWi mSn mHe mFw mRo mBe) sz) [(m0, .inr (9, [.ref m1, .int (nI (mTy + 1)), .ref m2, .ref m3, .ref m4, .ref m5, .int (nI mKn), .ref m6, .int (nI mKe), .ref m7, .int (nI mCa), .ref m8, .int (nI mSe), .int (nI mAt), .int mFi, .int mSc, .ref m9, .ref m10, .ref m11, .ref m12])), (m1, .inl (cI, 200, .inl (upd mTx mTy p0))), (m2, .inl (cI, 37, .inl mTo)), (m3, .inl (cI, 37, .inl mDr)), (m4, .inl (cI, 15, .inl mSt)), (m5, .inl (cI, 120, .inl mPa)), (m6, .inl (cI, 30, .inl mIm)), (m7, .inl (cI, 5, .inl mWi)), (m8, .inl (cI, 6, .inl mSn)), (m9, .inl (cI, 15, .inl mHe)), (m10, .inl (cI, 384, .inl mFw)), (m11, .inl (cI, 5, .inl mRo)), (m12, .inl (cI, 5, .inl mBe))] := hD
      refine lv_aload_n hx hb dX9_write_46 rfl (lv_at hl 0 rfl) ?_
      refine va_get (D := D) (ci := 9) (v := .int (nI (mTy + 1))) (C := RX9) (T := TX9) (N := 20) hx hb hts hinX9 hown hK hP 0 rfl rfl 1 (by decide) hf66 (fun _ h9 => h9) rfl dX9_write_47 ?_
      have e_3 : (g_X9_write_mTy mTy p0) = (mTy + 1) := by simp only [g_X9_write_mTy, if_neg c_1, if_neg c_2]
      have e_4 : (g_X9_write_mTx mTy mTx p0) = (upd mTx mTy p0) := by simp only [g_X9_write_mTx, if_neg c_1, if_neg c_2]
      exact rw_iret hx hb hr hlocks hP hD hS (by simp only [f_X9_write, if_neg c_1, if_neg c_2]) (by rw [e_3, e_4] <;> rfl) dX9_write_50
    refine lv_bipush (v := (-3)) hx hb dX9_write_23 (by decide) ?_
    have e_5 : (g_X9_write_mTy mTy p0) = mTy := by simp only [g_X9_write_mTy, if_neg c_1, if_pos c_2]
    have e_6 : (g_X9_write_mTx mTy mTx p0) = mTx := by simp only [g_X9_write_mTx, if_neg c_1, if_pos c_2]
    exact rw_iret hx hb hr hlocks hP hD hS (by simp only [f_X9_write, if_neg c_1, if_pos c_2]) (by rw [e_5, e_6] <;> rfl) dX9_write_25
  refine lv_iconst (v := (-1)) hx hb dX9_write_11 (by decide) ?_
  have e_7 : (g_X9_write_mTy mTy p0) = mTy := by simp only [g_X9_write_mTy, if_pos c_1]
  have e_8 : (g_X9_write_mTx mTy mTx p0) = mTx := by simp only [g_X9_write_mTx, if_pos c_1]
  exact rw_iret hx hb hr hlocks hP hD hS (by simp only [f_X9_write, if_pos c_1]) (by rw [e_7, e_8] <;> rfl) dX9_write_12
def f_X9_wipe (mTy : Nat) : Int32 := (nI mTy)
def g_X9_wipe_mTy  : Nat := 0
abbrev rm_X9_wipe : Room := { frames := 0, cells := 0, slots := 0, locals := 0 }
set_option maxRecDepth 100000 in
set_option maxHeartbeats 4000000 in
theorem c_X9_wipe (l : Launch) (D : va_G) (cI cC cG : ClassId) (m0 : Nat) (m1 : Nat) (m2 : Nat) (m3 : Nat) (m4 : Nat) (m5 : Nat) (m6 : Nat) (m7 : Nat) (m8 : Nat) (m9 : Nat) (m10 : Nat) (m11 : Nat) (m12 : Nat) (mTy : Nat) (mKn : Nat) (mKe : Nat) (mCa : Nat) (mSe : Nat) (mAt : Nat) (mFi : Int32) (mSc : Int32) (mTx : Nat → Int32) (mTo : Nat → Int32) (mDr : Nat → Int32) (mSt : Nat → Int32) (mPa : Nat → Int32) (mIm : Nat → Int32) (mWi : Nat → Int32) (mSn : Nat → Int32) (mHe : Nat → Int32) (mFw : Nat → Int32) (mRo : Nat → Int32) (mBe : Nat → Int32) (sz : Nat) : RwI l yX9_wipe wsX9_wipe rm_X9_wipe D (q_t cI cC cG) (wM cI cC cG m0 m1 m2 m3 m4 m5 m6 m7 m8 m9 m10 m11 m12 mTy mKn mKe mCa mSe mAt mFi mSc mTx mTo mDr mSt mPa mIm mWi mSn mHe mFw mRo mBe) (wM cI cC cG m0 m1 m2 m3 m4 m5 m6 m7 m8 m9 m10 m11 m12 g_X9_wipe_mTy mKn mKe mCa mSe mAt mFi mSc mTx mTo mDr mSt mPa mIm mWi mSn mHe mFw mRo mBe) sz [.ref m0] (f_X9_wipe mTy) := by
  refine rw_enter (cc := cX9_wipe) (maxL := 2) (ret := (some .int)) (by decide) rfl (Nat.le_of_ble_eq_true rfl) ?_
  intro p e s m below meth c ls B hP hK hD hS hA hl
  obtain ⟨hx, hb, hr, hlocks, hml, hown, hts, hN⟩ := B
  have hown : s.vm.findClass RX9 = some m.cls := hown
  have hl : lv_has ls 2 [(0, .ref m0)] := hl
  have hf66 := hts (.fieldLink RX9 66 "OlderByABlushModel" "typed" "I") (by decide +kernel)
  have hinX9 : ∀ w ∈ u_ws RX9 TX9 20, w ∈ wsX9_wipe := by decide +kernel
  refine lv_aload_n hx hb dX9_wipe_0 rfl (lv_at hl 0 rfl) ?_
  refine va_get (D := D) (ci := 9) (v := .int (nI mTy)) (C := RX9) (T := TX9) (N := 20) hx hb hts hinX9 hown hK hP 0 rfl rfl 1 (by decide) hf66 (fun _ h9 => h9) rfl dX9_wipe_1 ?_
  refine lv_istore_n (lv' := [(1, .int (nI mTy)), (0, .ref m0)]) hx hb dX9_wipe_4 rfl hl (by decide) rfl (fun ls hl => ?_)
  refine lv_aload_n hx hb dX9_wipe_5 rfl (lv_at hl 1 rfl) ?_
  refine lv_iconst (v := 0) hx hb dX9_wipe_6 (by decide) ?_
  refine va_put (D := D) (ci := 9) (v := .int 0) (ty := .int) (C := RX9) (T := TX9) (N := 20) hx hb hts hinX9 tyX9 tyX9_ok nmX9 hown hK hP hD hS 0 rfl rfl 1 (by decide) hf66 (fun _ h9 => h9) rfl (by decide +kernel) rfl rfl (Nat.le_of_ble_eq_true rfl) dX9_wipe_7 (fun H locs hP hD hS => ?_)
  have hP : va_P D vwCl [(m0, .inr (9, [.ref m1, .int 0, .ref m2, .ref m3, .ref m4, .ref m5, .int (nI mKn), .ref m6, .int (nI mKe), .ref m7, .int (nI mCa), .ref m8, .int (nI mSe), .int (nI mAt), .int mFi, .int mSc, .ref m9, .ref m10, .ref m11, .ref m12])), (m1, .inl (cI, 200, .inl mTx)), (m2, .inl (cI, 37, .inl mTo)), (m3, .inl (cI, 37, .inl mDr)), (m4, .inl (cI, 15, .inl mSt)), (m5, .inl (cI, 120, .inl mPa)), (m6, .inl (cI, 30, .inl mIm)), (m7, .inl (cI, 5, .inl mWi)), (m8, .inl (cI, 6, .inl mSn)), (m9, .inl (cI, 15, .inl mHe)), (m10, .inl (cI, 384, .inl mFw)), (m11, .inl (cI, 5, .inl mRo)), (m12, .inl (cI, 5, .inl mBe))] H := hP
  have hD : va_D (va_A (wM cI cC cG m0 m1 m2 m3 m4 m5 m6 m7 m8 m9 m10 m11 m12 mTy mKn mKe mCa mSe mAt mFi mSc mTx mTo mDr mSt mPa mIm mWi mSn mHe mFw mRo mBe) sz) [(m0, .inr (9, [.ref m1, .int 0, .ref m2, .ref m3, .ref m4, .ref m5, .int (nI mKn), .ref m6, .int (nI mKe), .ref m7, .int (nI mCa), .ref m8, .int (nI mSe), .int (nI mAt), .int mFi, .int mSc, .ref m9, .ref m10, .ref m11, .ref m12])), (m1, .inl (cI, 200, .inl mTx)), (m2, .inl (cI, 37, .inl mTo)), (m3, .inl (cI, 37, .inl mDr)), (m4, .inl (cI, 15, .inl mSt)), (m5, .inl (cI, 120, .inl mPa)), (m6, .inl (cI, 30, .inl mIm)), (m7, .inl (cI, 5, .inl mWi)), (m8, .inl (cI, 6, .inl mSn)), (m9, .inl (cI, 15, .inl mHe)), (m10, .inl (cI, 384, .inl mFw)), (m11, .inl (cI, 5, .inl mRo)), (m12, .inl (cI, 5, .inl mBe))] := hD
  refine lv_iload_n hx hb dX9_wipe_10 rfl (lv_at hl 0 rfl) ?_
  have e_1 : g_X9_wipe_mTy = 0 := by simp only [g_X9_wipe_mTy]
  exact rw_iret hx hb hr hlocks hP hD hS (by simp only [f_X9_wipe]) (by rw [e_1] <;> rfl) dX9_wipe_11
def f_X9_isAlive (mTo : Nat → Int32) (mSt : Nat → Int32) (p0 : Int32) : Int32 := (if (mTo 2) ≤ (mSt (Int32.toNatClampNeg p0)) then 0 else 1)
abbrev rm_X9_isAlive : Room := { frames := 0, cells := 0, slots := 0, locals := 0 }
set_option maxRecDepth 100000 in
set_option maxHeartbeats 4000000 in
theorem c_X9_isAlive (l : Launch) (D : va_G) (cI cC cG : ClassId) (m0 : Nat) (m1 : Nat) (m2 : Nat) (m3 : Nat) (m4 : Nat) (m5 : Nat) (m6 : Nat) (m7 : Nat) (m8 : Nat) (m9 : Nat) (m10 : Nat) (m11 : Nat) (m12 : Nat) (mTy : Nat) (mKn : Nat) (mKe : Nat) (mCa : Nat) (mSe : Nat) (mAt : Nat) (mFi : Int32) (mSc : Int32) (mTx : Nat → Int32) (mTo : Nat → Int32) (mDr : Nat → Int32) (mSt : Nat → Int32) (mPa : Nat → Int32) (mIm : Nat → Int32) (mWi : Nat → Int32) (mSn : Nat → Int32) (mHe : Nat → Int32) (mFw : Nat → Int32) (mRo : Nat → Int32) (mBe : Nat → Int32) (p0 : Int32) (hi : vp_in p0 15) : RoI l yX9_isAlive wsX9_isAlive rm_X9_isAlive D (q_t cI cC cG) (wM cI cC cG m0 m1 m2 m3 m4 m5 m6 m7 m8 m9 m10 m11 m12 mTy mKn mKe mCa mSe mAt mFi mSc mTx mTo mDr mSt mPa mIm mWi mSn mHe mFw mRo mBe) [.ref m0, .int p0] (f_X9_isAlive mTo mSt p0) := by
  refine ro_enter (cc := cX9_isAlive) (maxL := 2) (ret := (some .boolean)) (by decide) rfl (Nat.le_of_ble_eq_true rfl) ?_
  intro p e s m below meth c ls B hP hK hl
  obtain ⟨hx, hb, hr, hlocks, hml, hown, hts, hN⟩ := B
  have hS : va_S q_no s.heap s.heap [] := va_S.rf
  have hown : s.vm.findClass RX9 = some m.cls := hown
  have hl : lv_has ls 2 [(0, .ref m0), (1, .int p0)] := hl
  have hf19 := hts (.fieldLink RX9 19 "OlderByABlushModel" "s" "[I") (by decide +kernel)
  have hinX9 : ∀ w ∈ u_ws RX9 TX9 20, w ∈ wsX9_isAlive := by decide +kernel
  have hf13 := hts (.fieldLink RX9 13 "OlderByABlushModel" "told" "[I") (by decide +kernel)
  refine lv_aload_n hx hb dX9_isAlive_0 rfl (lv_at hl 0 rfl) ?_
  refine va_get (D := D) (ci := 9) (v := .ref m4) (C := RX9) (T := TX9) (N := 20) hx hb hts hinX9 hown hK hP 0 rfl rfl 4 (by decide) hf19 (fun _ h9 => h9) rfl dX9_isAlive_1 ?_
  refine lv_iload_n hx hb dX9_isAlive_4 rfl (lv_at hl 1 rfl) ?_
  refine q_iald hx hb hK hP 4 0 rfl rfl (vp_mono hi (by decide)) (Int32.toNatClampNeg p0) rfl dX9_isAlive_5 ?_
  refine lv_aload_n hx hb dX9_isAlive_6 rfl (lv_at hl 0 rfl) ?_
  refine va_get (D := D) (ci := 9) (v := .ref m2) (C := RX9) (T := TX9) (N := 20) hx hb hts hinX9 hown hK hP 0 rfl rfl 2 (by decide) hf13 (fun _ h9 => h9) rfl dX9_isAlive_7 ?_
  refine lv_iconst (v := 2) hx hb dX9_isAlive_10 (by decide) ?_
  refine q_iald hx hb hK hP 2 0 rfl rfl (vp_in_nI (n := 2) (N := 37) (by decide) (by decide)) 2 (by decide) dX9_isAlive_11 ?_
  refine lv_icmp_ge (tgt := 19) hx hb dX9_isAlive_12 (by decide) (fun c_1 => ?_) (fun c_1 => ?_)
  · refine lv_iconst (v := 0) hx hb dX9_isAlive_19 (by decide) ?_
    exact ro_zret hx hb hr (by rfl) hlocks hS (by simp only [f_X9_isAlive, if_pos c_1]) dX9_isAlive_20
  refine lv_iconst (v := 1) hx hb dX9_isAlive_15 (by decide) ?_
  refine lv_goto (tgt := 20) hx hb dX9_isAlive_16 (by decide) ?_
  exact ro_zret hx hb hr (by rfl) hlocks hS (by simp only [f_X9_isAlive, if_neg c_1]) dX9_isAlive_20
def F_X9_alive_4 (mTo : Nat → Int32) (mSt : Nat → Int32) (i0_ : Int32) : Nat → Int32
  | 0 => i0_
  | j4_ + 1 => (if (f_X9_isAlive mTo mSt (nI j4_)) = 0 then ((F_X9_alive_4 mTo mSt i0_ j4_) ||| 0) else ((F_X9_alive_4 mTo mSt i0_ j4_) ||| ((1 : Int32) <<< ((nI j4_) &&& 31))))
def f_X9_alive (mTo : Nat → Int32) (mSt : Nat → Int32) : Int32 := (F_X9_alive_4 mTo mSt 0 (Int32.toNatClampNeg (mTo 0)))
abbrev rm_X9_alive : Room := { frames := 1, cells := 0, slots := 0, locals := 21 }
set_option maxRecDepth 100000 in
set_option maxHeartbeats 4000000 in
theorem c_X9_alive (l : Launch) (D : va_G) (cI cC cG : ClassId) (m0 : Nat) (m1 : Nat) (m2 : Nat) (m3 : Nat) (m4 : Nat) (m5 : Nat) (m6 : Nat) (m7 : Nat) (m8 : Nat) (m9 : Nat) (m10 : Nat) (m11 : Nat) (m12 : Nat) (mTy : Nat) (mKn : Nat) (mKe : Nat) (mCa : Nat) (mSe : Nat) (mAt : Nat) (mFi : Int32) (mSc : Int32) (mTx : Nat → Int32) (mTo : Nat → Int32) (mDr : Nat → Int32) (mSt : Nat → Int32) (mPa : Nat → Int32) (mIm : Nat → Int32) (mWi : Nat → Int32) (mSn : Nat → Int32) (mHe : Nat → Int32) (mFw : Nat → Int32) (mRo : Nat → Int32) (mBe : Nat → Int32) (hM : okM mTo) : RoI l yX9_alive wsX9_alive rm_X9_alive D (q_t cI cC cG) (wM cI cC cG m0 m1 m2 m3 m4 m5 m6 m7 m8 m9 m10 m11 m12 mTy mKn mKe mCa mSe mAt mFi mSc mTx mTo mDr mSt mPa mIm mWi mSn mHe mFw mRo mBe) [.ref m0] (f_X9_alive mTo mSt) := by
  refine ro_enter (cc := cX9_alive) (maxL := 3) (ret := (some .int)) (by decide) rfl (Nat.le_of_ble_eq_true rfl) ?_
  intro p e s m below meth c ls B hP hK hl
  obtain ⟨hx, hb, hr, hlocks, hml, hown, hts, hN⟩ := B
  have hS : va_S q_no s.heap s.heap [] := va_S.rf
  have hown : s.vm.findClass RX9 = some m.cls := hown
  have hl : lv_has ls 3 [(0, .ref m0)] := hl
  have hN6 := okM_p hM
  have hN8 := okM_s hM
  have hf13 := hts (.fieldLink RX9 13 "OlderByABlushModel" "told" "[I") (by decide +kernel)
  have hinX9 : ∀ w ∈ u_ws RX9 TX9 20, w ∈ wsX9_alive := by decide +kernel
  refine lv_iconst (v := 0) hx hb dX9_alive_0 (by decide) ?_
  refine lv_istore_n (lv' := [(1, .int 0), (0, .ref m0)]) hx hb dX9_alive_1 rfl hl (by decide) rfl (fun ls hl => ?_)
  refine lv_iconst (v := 0) hx hb dX9_alive_2 (by decide) ?_
  refine lv_istore_n (lv' := [(2, .int 0), (1, .int 0), (0, .ref m0)]) hx hb dX9_alive_3 rfl hl (by decide) rfl (fun ls hl => ?_)
  have K4_ : ∀ (H : Heap) (locs : List Loc), va_P D vwCl [(m0, .inr (9, [.ref m1, .int (nI mTy), .ref m2, .ref m3, .ref m4, .ref m5, .int (nI mKn), .ref m6, .int (nI mKe), .ref m7, .int (nI mCa), .ref m8, .int (nI mSe), .int (nI mAt), .int mFi, .int mSc, .ref m9, .ref m10, .ref m11, .ref m12])), (m1, .inl (cI, 200, .inl mTx)), (m2, .inl (cI, 37, .inl mTo)), (m3, .inl (cI, 37, .inl mDr)), (m4, .inl (cI, 15, .inl mSt)), (m5, .inl (cI, 120, .inl mPa)), (m6, .inl (cI, 30, .inl mIm)), (m7, .inl (cI, 5, .inl mWi)), (m8, .inl (cI, 6, .inl mSn)), (m9, .inl (cI, 15, .inl mHe)), (m10, .inl (cI, 384, .inl mFw)), (m11, .inl (cI, 5, .inl mRo)), (m12, .inl (cI, 5, .inl mBe))] H → va_S q_no s.heap H locs → ∀ ls : Array Slot, lv_has ls 3 [(1, .int (F_X9_alive_4 mTo mSt 0 (Int32.toNatClampNeg (mTo 0))))] → W p l e rm_X9_alive s m ([.ref m0] : List Value).toArray below meth c H locs 0 0 (MQ below (q_Qi (f_X9_alive mTo mSt)) ([.ref m0] : List Value).toArray s 0 0 q_no) (F0 m 38 ls []) := by
    intro H locs hP hS ls hl
    refine lv_iload_n hx hb dX9_alive_38 rfl (lv_at hl 0 rfl) ?_
    exact ro_iret hx hb hr hlocks hS (by simp only [f_X9_alive]) dX9_alive_39
  have loop4_ : ∀ (n4_ j4_ : Nat), j4_ + n4_ = (Int32.toNatClampNeg (mTo 0)) → ∀ (H : Heap) (locs : List Loc), va_P D vwCl [(m0, .inr (9, [.ref m1, .int (nI mTy), .ref m2, .ref m3, .ref m4, .ref m5, .int (nI mKn), .ref m6, .int (nI mKe), .ref m7, .int (nI mCa), .ref m8, .int (nI mSe), .int (nI mAt), .int mFi, .int mSc, .ref m9, .ref m10, .ref m11, .ref m12])), (m1, .inl (cI, 200, .inl mTx)), (m2, .inl (cI, 37, .inl mTo)), (m3, .inl (cI, 37, .inl mDr)), (m4, .inl (cI, 15, .inl mSt)), (m5, .inl (cI, 120, .inl mPa)), (m6, .inl (cI, 30, .inl mIm)), (m7, .inl (cI, 5, .inl mWi)), (m8, .inl (cI, 6, .inl mSn)), (m9, .inl (cI, 15, .inl mHe)), (m10, .inl (cI, 384, .inl mFw)), (m11, .inl (cI, 5, .inl mRo)), (m12, .inl (cI, 5, .inl mBe))] H → va_S q_no s.heap H locs → ∀ ls : Array Slot, lv_has ls 3 [(0, .ref m0), (1, .int (F_X9_alive_4 mTo mSt 0 j4_)), (2, .int (nI j4_))] → W p l e rm_X9_alive s m ([.ref m0] : List Value).toArray below meth c H locs 0 0 (MQ below (q_Qi (f_X9_alive mTo mSt)) ([.ref m0] : List Value).toArray s 0 0 q_no) (F0 m 4 ls []) := by
    intro n4_
    induction n4_ with
    | zero =>
      intro j4_ hj4_ H locs hP hS ls hl
      obtain rfl : j4_ = (Int32.toNatClampNeg (mTo 0)) := by omega
      refine lv_iload_n hx hb dX9_alive_4 rfl (lv_at hl 2 rfl) ?_
      refine lv_aload_n hx hb dX9_alive_5 rfl (lv_at hl 0 rfl) ?_
      refine va_get (D := D) (ci := 9) (v := .ref m2) (C := RX9) (T := TX9) (N := 20) hx hb hts hinX9 hown hK hP 0 rfl rfl 2 (by decide) hf13 (fun _ h9 => h9) rfl dX9_alive_6 ?_
      refine lv_iconst (v := 0) hx hb dX9_alive_9 (by decide) ?_
      refine q_iald hx hb hK hP 2 0 rfl rfl (vp_in_nI (n := 0) (N := 37) (by decide) (by decide)) 0 (by decide) dX9_alive_10 ?_
      refine lv_icmp_ge (tgt := 38) hx hb dX9_alive_11 (by decide) (fun c_1 => ?_) (fun c_1 => ?_)
      rotate_left
      · exact absurd k_ge c_1
      exact K4_ _ _ hP hS _ (lv_sub hl [1] rfl)
    | succ n4_ ih4_ =>
      intro j4_ hj4_ H locs hP hS ls hl
      refine lv_iload_n hx hb dX9_alive_4 rfl (lv_at hl 2 rfl) ?_
      refine lv_aload_n hx hb dX9_alive_5 rfl (lv_at hl 0 rfl) ?_
      refine va_get (D := D) (ci := 9) (v := .ref m2) (C := RX9) (T := TX9) (N := 20) hx hb hts hinX9 hown hK hP 0 rfl rfl 2 (by decide) hf13 (fun _ h9 => h9) rfl dX9_alive_6 ?_
      refine lv_iconst (v := 0) hx hb dX9_alive_9 (by decide) ?_
      refine q_iald hx hb hK hP 2 0 rfl rfl (vp_in_nI (n := 0) (N := 37) (by decide) (by decide)) 0 (by decide) dX9_alive_10 ?_
      refine lv_icmp_ge (tgt := 38) hx hb dX9_alive_11 (by decide) (fun c_2 => ?_) (fun c_2 => ?_)
      · exact absurd c_2 (k_le (by omega))
      refine lv_iload_n hx hb dX9_alive_14 rfl (lv_at hl 1 rfl) ?_
      refine lv_aload_n hx hb dX9_alive_15 rfl (lv_at hl 0 rfl) ?_
      refine lv_iload_n hx hb dX9_alive_16 rfl (lv_at hl 2 rfl) ?_
      refine ro_i (va_runV (As := [.int (nI j4_)]) (rest := [.int (F_X9_alive_4 mTo mSt 0 j4_)]) ⟨hx, hb, hml, hown, hts⟩ (c_X9_isAlive l D cI cC cG m0 m1 m2 m3 m4 m5 m6 m7 m8 m9 m10 m11 m12 mTy mKn mKe mCa mSe mAt mFi mSc mTx mTo mDr mSt mPa mIm mWi mSn mHe mFw mRo mBe (nI j4_) (vp_in_nI (by omega) (by decide))) (cwV 1 hts gX9_alive_X9_isAlive rfl rfl rfl (by decide +kernel) ⟨Nat.le_of_ble_eq_true rfl, Nat.le_of_ble_eq_true rfl⟩) (q_preV hK hP hN [0, 1, 2, 3, 4, 5, 6, 7, 8, 9, 10, 11, 12] rfl (ci := 9) (q0 := 0) rfl rfl) rfl rfl hl.1 rfl (lv_room (Nat.le_of_ble_eq_true rfl)) dX9_alive_17 ⟨Nat.zero_le _, Nat.zero_le _⟩) hS hP (fun H locs hP hS => ?_)
      refine lv_if_eq (tgt := 29) hx hb dX9_alive_20 (by decide) (fun c_3 => ?_) (fun c_3 => ?_)
      · refine lv_iconst (v := 0) hx hb dX9_alive_29 (by decide) ?_
        refine lv_ior hx hb dX9_alive_30 ?_
        refine lv_istore_n (lv' := [(1, .int ((F_X9_alive_4 mTo mSt 0 j4_) ||| 0)), (0, .ref m0), (2, .int (nI j4_))]) hx hb dX9_alive_31 rfl hl (by decide) rfl (fun ls hl => ?_)
        refine lv_iinc (v := (nI (j4_ + 1))) (lv' := [(2, .int (nI (j4_ + 1))), (1, .int ((F_X9_alive_4 mTo mSt 0 j4_) ||| 0)), (0, .ref m0)]) hx hb dX9_alive_32 hl (k := 2) rfl (nI_1 _) (by decide) rfl (fun ls hl => ?_)
        refine lv_goto (tgt := 4) hx hb dX9_alive_35 (by decide) ?_
        have e_4 : (F_X9_alive_4 mTo mSt 0 (j4_ + 1)) = ((F_X9_alive_4 mTo mSt 0 j4_) ||| 0) := by simp only [F_X9_alive_4, if_pos c_3]
        exact ih4_ (j4_ + 1) (by omega) _ _ hP hS _ (by rw [e_4]; exact (lv_sub hl [2, 1, 0] rfl))
      refine lv_iconst (v := 1) hx hb dX9_alive_23 (by decide) ?_
      refine lv_iload_n hx hb dX9_alive_24 rfl (lv_at hl 2 rfl) ?_
      refine lv_ishl hx hb dX9_alive_25 ?_
      refine lv_goto (tgt := 30) hx hb dX9_alive_26 (by decide) ?_
      refine lv_ior hx hb dX9_alive_30 ?_
      refine lv_istore_n (lv' := [(1, .int ((F_X9_alive_4 mTo mSt 0 j4_) ||| ((1 : Int32) <<< ((nI j4_) &&& 31)))), (0, .ref m0), (2, .int (nI j4_))]) hx hb dX9_alive_31 rfl hl (by decide) rfl (fun ls hl => ?_)
      refine lv_iinc (v := (nI (j4_ + 1))) (lv' := [(2, .int (nI (j4_ + 1))), (1, .int ((F_X9_alive_4 mTo mSt 0 j4_) ||| ((1 : Int32) <<< ((nI j4_) &&& 31)))), (0, .ref m0)]) hx hb dX9_alive_32 hl (k := 2) rfl (nI_1 _) (by decide) rfl (fun ls hl => ?_)
      refine lv_goto (tgt := 4) hx hb dX9_alive_35 (by decide) ?_
      have e_5 : (F_X9_alive_4 mTo mSt 0 (j4_ + 1)) = ((F_X9_alive_4 mTo mSt 0 j4_) ||| ((1 : Int32) <<< ((nI j4_) &&& 31))) := by simp only [F_X9_alive_4, if_neg c_3]
      exact ih4_ (j4_ + 1) (by omega) _ _ hP hS _ (by rw [e_5]; exact (lv_sub hl [2, 1, 0] rfl))
  exact loop4_ (Int32.toNatClampNeg (mTo 0)) 0 (by omega) _ _ hP hS _ (lv_sub hl [2, 1, 0] rfl)
def f_X9_met (mTo : Nat → Int32) (mSt : Nat → Int32) (p0 : Int32) : Int32 := (if (f_X9_isAlive mTo mSt p0) = 0 then 0 else ((mTo (15 + (Int32.toNatClampNeg p0))) &&& (f_X9_alive mTo mSt)))
abbrev rm_X9_met : Room := { frames := 2, cells := 0, slots := 0, locals := 43 }
set_option maxRecDepth 100000 in
set_option maxHeartbeats 4000000 in
theorem c_X9_met (l : Launch) (D : va_G) (cI cC cG : ClassId) (m0 : Nat) (m1 : Nat) (m2 : Nat) (m3 : Nat) (m4 : Nat) (m5 : Nat) (m6 : Nat) (m7 : Nat) (m8 : Nat) (m9 : Nat) (m10 : Nat) (m11 : Nat) (m12 : Nat) (mTy : Nat) (mKn : Nat) (mKe : Nat) (mCa : Nat) (mSe : Nat) (mAt : Nat) (mFi : Int32) (mSc : Int32) (mTx : Nat → Int32) (mTo : Nat → Int32) (mDr : Nat → Int32) (mSt : Nat → Int32) (mPa : Nat → Int32) (mIm : Nat → Int32) (mWi : Nat → Int32) (mSn : Nat → Int32) (mHe : Nat → Int32) (mFw : Nat → Int32) (mRo : Nat → Int32) (mBe : Nat → Int32) (p0 : Int32) (hM : okM mTo) (hi : vp_in p0 6) : RoI l yX9_met wsX9_met rm_X9_met D (q_t cI cC cG) (wM cI cC cG m0 m1 m2 m3 m4 m5 m6 m7 m8 m9 m10 m11 m12 mTy mKn mKe mCa mSe mAt mFi mSc mTx mTo mDr mSt mPa mIm mWi mSn mHe mFw mRo mBe) [.ref m0, .int p0] (f_X9_met mTo mSt p0) := by
  refine ro_enter (cc := cX9_met) (maxL := 2) (ret := (some .int)) (by decide) rfl (Nat.le_of_ble_eq_true rfl) ?_
  intro p e s m below meth c ls B hP hK hl
  obtain ⟨hx, hb, hr, hlocks, hml, hown, hts, hN⟩ := B
  have hS : va_S q_no s.heap s.heap [] := va_S.rf
  have hown : s.vm.findClass RX9 = some m.cls := hown
  have hl : lv_has ls 2 [(0, .ref m0), (1, .int p0)] := hl
  have hN6 := okM_p hM
  have hN8 := okM_s hM
  have hf13 := hts (.fieldLink RX9 13 "OlderByABlushModel" "told" "[I") (by decide +kernel)
  have hinX9 : ∀ w ∈ u_ws RX9 TX9 20, w ∈ wsX9_met := by decide +kernel
  refine lv_aload_n hx hb dX9_met_0 rfl (lv_at hl 0 rfl) ?_
  refine lv_iload_n hx hb dX9_met_1 rfl (lv_at hl 1 rfl) ?_
  refine ro_i (va_runV (As := [.int p0]) (rest := []) ⟨hx, hb, hml, hown, hts⟩ (c_X9_isAlive l D cI cC cG m0 m1 m2 m3 m4 m5 m6 m7 m8 m9 m10 m11 m12 mTy mKn mKe mCa mSe mAt mFi mSc mTx mTo mDr mSt mPa mIm mWi mSn mHe mFw mRo mBe p0 (vp_mono hi (by decide))) (cwV 1 hts gX9_met_X9_isAlive rfl rfl rfl (by decide +kernel) ⟨Nat.le_of_ble_eq_true rfl, Nat.le_of_ble_eq_true rfl⟩) (q_preV hK hP hN [0, 1, 2, 3, 4, 5, 6, 7, 8, 9, 10, 11, 12] rfl (ci := 9) (q0 := 0) rfl rfl) rfl rfl hl.1 rfl (lv_room (Nat.le_of_ble_eq_true rfl)) dX9_met_2 ⟨Nat.zero_le _, Nat.zero_le _⟩) hS hP (fun H locs hP hS => ?_)
  refine lv_if_eq (tgt := 25) hx hb dX9_met_5 (by decide) (fun c_1 => ?_) (fun c_1 => ?_)
  · refine lv_iconst (v := 0) hx hb dX9_met_25 (by decide) ?_
    exact ro_iret hx hb hr hlocks hS (by simp only [f_X9_met, if_pos c_1]) dX9_met_26
  refine lv_aload_n hx hb dX9_met_8 rfl (lv_at hl 0 rfl) ?_
  refine va_get (D := D) (ci := 9) (v := .ref m2) (C := RX9) (T := TX9) (N := 20) hx hb hts hinX9 hown hK hP 0 rfl rfl 2 (by decide) hf13 (fun _ h9 => h9) rfl dX9_met_9 ?_
  refine lv_bipush (v := 15) hx hb dX9_met_12 (by decide) ?_
  refine lv_iload_n hx hb dX9_met_14 rfl (lv_at hl 1 rfl) ?_
  refine lv_iadd hx hb dX9_met_15 ?_
  refine q_iald hx hb hK hP 2 0 rfl rfl (in_add 15 (n := 6) hi (by decide) (by decide)) (15 + (Int32.toNatClampNeg p0)) (in_addc 15 (n := 6) (N := 1000) hi (by decide) (by decide)) dX9_met_16 ?_
  refine lv_aload_n hx hb dX9_met_17 rfl (lv_at hl 0 rfl) ?_
  refine ro_i (va_runV (As := []) (rest := [.int (mTo (15 + (Int32.toNatClampNeg p0)))]) ⟨hx, hb, hml, hown, hts⟩ (c_X9_alive l D cI cC cG m0 m1 m2 m3 m4 m5 m6 m7 m8 m9 m10 m11 m12 mTy mKn mKe mCa mSe mAt mFi mSc mTx mTo mDr mSt mPa mIm mWi mSn mHe mFw mRo mBe hM) (cwV 0 hts gX9_met_X9_alive rfl rfl rfl (by decide +kernel) ⟨Nat.le_of_ble_eq_true rfl, Nat.le_of_ble_eq_true rfl⟩) (q_preV hK hP hN [0, 1, 2, 3, 4, 5, 6, 7, 8, 9, 10, 11, 12] rfl (ci := 9) (q0 := 0) rfl rfl) rfl rfl hl.1 rfl (lv_room (Nat.le_of_ble_eq_true rfl)) dX9_met_18 ⟨Nat.zero_le _, Nat.zero_le _⟩) hS hP (fun H locs hP hS => ?_)
  refine lv_iand hx hb dX9_met_21 ?_
  refine lv_goto (tgt := 26) hx hb dX9_met_22 (by decide) ?_
  exact ro_iret hx hb hr hlocks hS (by simp only [f_X9_met, if_neg c_1]) dX9_met_26
def f_X9_knows (mSt : Nat → Int32) (p0 : Int32) (p1 : Int32) : Int32 := (if (((mSt (6 + (Int32.toNatClampNeg p1))) >>> (p0 &&& 31)) &&& 1) = 1 then 1 else 0)
abbrev rm_X9_knows : Room := { frames := 0, cells := 0, slots := 0, locals := 0 }
set_option maxRecDepth 100000 in
set_option maxHeartbeats 4000000 in
theorem c_X9_knows (l : Launch) (D : va_G) (cI cC cG : ClassId) (m0 : Nat) (m1 : Nat) (m2 : Nat) (m3 : Nat) (m4 : Nat) (m5 : Nat) (m6 : Nat) (m7 : Nat) (m8 : Nat) (m9 : Nat) (m10 : Nat) (m11 : Nat) (m12 : Nat) (mTy : Nat) (mKn : Nat) (mKe : Nat) (mCa : Nat) (mSe : Nat) (mAt : Nat) (mFi : Int32) (mSc : Int32) (mTx : Nat → Int32) (mTo : Nat → Int32) (mDr : Nat → Int32) (mSt : Nat → Int32) (mPa : Nat → Int32) (mIm : Nat → Int32) (mWi : Nat → Int32) (mSn : Nat → Int32) (mHe : Nat → Int32) (mFw : Nat → Int32) (mRo : Nat → Int32) (mBe : Nat → Int32) (p0 : Int32) (p1 : Int32) (hk : vp_in p1 8) : RoI l yX9_knows wsX9_knows rm_X9_knows D (q_t cI cC cG) (wM cI cC cG m0 m1 m2 m3 m4 m5 m6 m7 m8 m9 m10 m11 m12 mTy mKn mKe mCa mSe mAt mFi mSc mTx mTo mDr mSt mPa mIm mWi mSn mHe mFw mRo mBe) [.ref m0, .int p0, .int p1] (f_X9_knows mSt p0 p1) := by
  refine ro_enter (cc := cX9_knows) (maxL := 3) (ret := (some .boolean)) (by decide) rfl (Nat.le_of_ble_eq_true rfl) ?_
  intro p e s m below meth c ls B hP hK hl
  obtain ⟨hx, hb, hr, hlocks, hml, hown, hts, hN⟩ := B
  have hS : va_S q_no s.heap s.heap [] := va_S.rf
  have hown : s.vm.findClass RX9 = some m.cls := hown
  have hl : lv_has ls 3 [(0, .ref m0), (1, .int p0), (2, .int p1)] := hl
  have hf19 := hts (.fieldLink RX9 19 "OlderByABlushModel" "s" "[I") (by decide +kernel)
  have hinX9 : ∀ w ∈ u_ws RX9 TX9 20, w ∈ wsX9_knows := by decide +kernel
  refine lv_aload_n hx hb dX9_knows_0 rfl (lv_at hl 0 rfl) ?_
  refine va_get (D := D) (ci := 9) (v := .ref m4) (C := RX9) (T := TX9) (N := 20) hx hb hts hinX9 hown hK hP 0 rfl rfl 4 (by decide) hf19 (fun _ h9 => h9) rfl dX9_knows_1 ?_
  refine lv_bipush (v := 6) hx hb dX9_knows_4 (by decide) ?_
  refine lv_iload_n hx hb dX9_knows_6 rfl (lv_at hl 2 rfl) ?_
  refine lv_iadd hx hb dX9_knows_7 ?_
  refine q_iald hx hb hK hP 4 0 rfl rfl (in_add 6 (n := 8) hk (by decide) (by decide)) (6 + (Int32.toNatClampNeg p1)) (in_addc 6 (n := 8) (N := 1000) hk (by decide) (by decide)) dX9_knows_8 ?_
  refine lv_iload_n hx hb dX9_knows_9 rfl (lv_at hl 1 rfl) ?_
  refine lv_ishr hx hb dX9_knows_10 ?_
  refine lv_iconst (v := 1) hx hb dX9_knows_11 (by decide) ?_
  refine lv_iand hx hb dX9_knows_12 ?_
  refine lv_iconst (v := 1) hx hb dX9_knows_13 (by decide) ?_
  refine lv_icmp_ne (tgt := 21) hx hb dX9_knows_14 (by decide) (fun c_1 => ?_) (fun c_1 => ?_)
  · refine lv_iconst (v := 0) hx hb dX9_knows_21 (by decide) ?_
    exact ro_zret hx hb hr (by rfl) hlocks hS (by simp only [f_X9_knows, if_neg c_1]) dX9_knows_22
  refine lv_iconst (v := 1) hx hb dX9_knows_17 (by decide) ?_
  refine lv_goto (tgt := 22) hx hb dX9_knows_18 (by decide) ?_
  exact ro_zret hx hb hr (by rfl) hlocks hS (by simp only [f_X9_knows, if_pos c_1]) dX9_knows_22
def F_X9_knownBy_4 (x1 : Int32) (mSt : Nat → Int32) (i0_ : Int32) : Nat → Int32
  | 0 => i0_
  | j4_ + 1 => (if (f_X9_knows mSt x1 (nI j4_)) = 0 then ((F_X9_knownBy_4 x1 mSt i0_ j4_) ||| 0) else ((F_X9_knownBy_4 x1 mSt i0_ j4_) ||| ((1 : Int32) <<< ((nI j4_) &&& 31))))
def f_X9_knownBy (mTo : Nat → Int32) (mSt : Nat → Int32) (p0 : Int32) : Int32 := (F_X9_knownBy_4 p0 mSt 0 (Int32.toNatClampNeg (mTo 1)))
abbrev rm_X9_knownBy : Room := { frames := 1, cells := 0, slots := 0, locals := 22 }
set_option maxRecDepth 100000 in
set_option maxHeartbeats 4000000 in
theorem c_X9_knownBy (l : Launch) (D : va_G) (cI cC cG : ClassId) (m0 : Nat) (m1 : Nat) (m2 : Nat) (m3 : Nat) (m4 : Nat) (m5 : Nat) (m6 : Nat) (m7 : Nat) (m8 : Nat) (m9 : Nat) (m10 : Nat) (m11 : Nat) (m12 : Nat) (mTy : Nat) (mKn : Nat) (mKe : Nat) (mCa : Nat) (mSe : Nat) (mAt : Nat) (mFi : Int32) (mSc : Int32) (mTx : Nat → Int32) (mTo : Nat → Int32) (mDr : Nat → Int32) (mSt : Nat → Int32) (mPa : Nat → Int32) (mIm : Nat → Int32) (mWi : Nat → Int32) (mSn : Nat → Int32) (mHe : Nat → Int32) (mFw : Nat → Int32) (mRo : Nat → Int32) (mBe : Nat → Int32) (p0 : Int32) (hM : okM mTo) : RoI l yX9_knownBy wsX9_knownBy rm_X9_knownBy D (q_t cI cC cG) (wM cI cC cG m0 m1 m2 m3 m4 m5 m6 m7 m8 m9 m10 m11 m12 mTy mKn mKe mCa mSe mAt mFi mSc mTx mTo mDr mSt mPa mIm mWi mSn mHe mFw mRo mBe) [.ref m0, .int p0] (f_X9_knownBy mTo mSt p0) := by
  refine ro_enter (cc := cX9_knownBy) (maxL := 4) (ret := (some .int)) (by decide) rfl (Nat.le_of_ble_eq_true rfl) ?_
  intro p e s m below meth c ls B hP hK hl
  obtain ⟨hx, hb, hr, hlocks, hml, hown, hts, hN⟩ := B
  have hS : va_S q_no s.heap s.heap [] := va_S.rf
  have hown : s.vm.findClass RX9 = some m.cls := hown
  have hl : lv_has ls 4 [(0, .ref m0), (1, .int p0)] := hl
  have hN6 := okM_p hM
  have hN8 := okM_s hM
  have hf13 := hts (.fieldLink RX9 13 "OlderByABlushModel" "told" "[I") (by decide +kernel)
  have hinX9 : ∀ w ∈ u_ws RX9 TX9 20, w ∈ wsX9_knownBy := by decide +kernel
  refine lv_iconst (v := 0) hx hb dX9_knownBy_0 (by decide) ?_
  refine lv_istore_n (lv' := [(2, .int 0), (0, .ref m0), (1, .int p0)]) hx hb dX9_knownBy_1 rfl hl (by decide) rfl (fun ls hl => ?_)
  refine lv_iconst (v := 0) hx hb dX9_knownBy_2 (by decide) ?_
  refine lv_istore_n (lv' := [(3, .int 0), (2, .int 0), (0, .ref m0), (1, .int p0)]) hx hb dX9_knownBy_3 rfl hl (by decide) rfl (fun ls hl => ?_)
  have K4_ : ∀ (H : Heap) (locs : List Loc), va_P D vwCl [(m0, .inr (9, [.ref m1, .int (nI mTy), .ref m2, .ref m3, .ref m4, .ref m5, .int (nI mKn), .ref m6, .int (nI mKe), .ref m7, .int (nI mCa), .ref m8, .int (nI mSe), .int (nI mAt), .int mFi, .int mSc, .ref m9, .ref m10, .ref m11, .ref m12])), (m1, .inl (cI, 200, .inl mTx)), (m2, .inl (cI, 37, .inl mTo)), (m3, .inl (cI, 37, .inl mDr)), (m4, .inl (cI, 15, .inl mSt)), (m5, .inl (cI, 120, .inl mPa)), (m6, .inl (cI, 30, .inl mIm)), (m7, .inl (cI, 5, .inl mWi)), (m8, .inl (cI, 6, .inl mSn)), (m9, .inl (cI, 15, .inl mHe)), (m10, .inl (cI, 384, .inl mFw)), (m11, .inl (cI, 5, .inl mRo)), (m12, .inl (cI, 5, .inl mBe))] H → va_S q_no s.heap H locs → ∀ ls : Array Slot, lv_has ls 4 [(2, .int (F_X9_knownBy_4 p0 mSt 0 (Int32.toNatClampNeg (mTo 1))))] → W p l e rm_X9_knownBy s m ([.ref m0, .int p0] : List Value).toArray below meth c H locs 0 0 (MQ below (q_Qi (f_X9_knownBy mTo mSt p0)) ([.ref m0, .int p0] : List Value).toArray s 0 0 q_no) (F0 m 39 ls []) := by
    intro H locs hP hS ls hl
    refine lv_iload_n hx hb dX9_knownBy_39 rfl (lv_at hl 0 rfl) ?_
    exact ro_iret hx hb hr hlocks hS (by simp only [f_X9_knownBy]) dX9_knownBy_40
  have loop4_ : ∀ (n4_ j4_ : Nat), j4_ + n4_ = (Int32.toNatClampNeg (mTo 1)) → ∀ (H : Heap) (locs : List Loc), va_P D vwCl [(m0, .inr (9, [.ref m1, .int (nI mTy), .ref m2, .ref m3, .ref m4, .ref m5, .int (nI mKn), .ref m6, .int (nI mKe), .ref m7, .int (nI mCa), .ref m8, .int (nI mSe), .int (nI mAt), .int mFi, .int mSc, .ref m9, .ref m10, .ref m11, .ref m12])), (m1, .inl (cI, 200, .inl mTx)), (m2, .inl (cI, 37, .inl mTo)), (m3, .inl (cI, 37, .inl mDr)), (m4, .inl (cI, 15, .inl mSt)), (m5, .inl (cI, 120, .inl mPa)), (m6, .inl (cI, 30, .inl mIm)), (m7, .inl (cI, 5, .inl mWi)), (m8, .inl (cI, 6, .inl mSn)), (m9, .inl (cI, 15, .inl mHe)), (m10, .inl (cI, 384, .inl mFw)), (m11, .inl (cI, 5, .inl mRo)), (m12, .inl (cI, 5, .inl mBe))] H → va_S q_no s.heap H locs → ∀ ls : Array Slot, lv_has ls 4 [(0, .ref m0), (1, .int p0), (2, .int (F_X9_knownBy_4 p0 mSt 0 j4_)), (3, .int (nI j4_))] → W p l e rm_X9_knownBy s m ([.ref m0, .int p0] : List Value).toArray below meth c H locs 0 0 (MQ below (q_Qi (f_X9_knownBy mTo mSt p0)) ([.ref m0, .int p0] : List Value).toArray s 0 0 q_no) (F0 m 4 ls []) := by
    intro n4_
    induction n4_ with
    | zero =>
      intro j4_ hj4_ H locs hP hS ls hl
      obtain rfl : j4_ = (Int32.toNatClampNeg (mTo 1)) := by omega
      refine lv_iload_n hx hb dX9_knownBy_4 rfl (lv_at hl 3 rfl) ?_
      refine lv_aload_n hx hb dX9_knownBy_5 rfl (lv_at hl 0 rfl) ?_
      refine va_get (D := D) (ci := 9) (v := .ref m2) (C := RX9) (T := TX9) (N := 20) hx hb hts hinX9 hown hK hP 0 rfl rfl 2 (by decide) hf13 (fun _ h9 => h9) rfl dX9_knownBy_6 ?_
      refine lv_iconst (v := 1) hx hb dX9_knownBy_9 (by decide) ?_
      refine q_iald hx hb hK hP 2 0 rfl rfl (vp_in_nI (n := 1) (N := 37) (by decide) (by decide)) 1 (by decide) dX9_knownBy_10 ?_
      refine lv_icmp_ge (tgt := 39) hx hb dX9_knownBy_11 (by decide) (fun c_1 => ?_) (fun c_1 => ?_)
      rotate_left
      · exact absurd k_ge c_1
      exact K4_ _ _ hP hS _ (lv_sub hl [2] rfl)
    | succ n4_ ih4_ =>
      intro j4_ hj4_ H locs hP hS ls hl
      refine lv_iload_n hx hb dX9_knownBy_4 rfl (lv_at hl 3 rfl) ?_
      refine lv_aload_n hx hb dX9_knownBy_5 rfl (lv_at hl 0 rfl) ?_
      refine va_get (D := D) (ci := 9) (v := .ref m2) (C := RX9) (T := TX9) (N := 20) hx hb hts hinX9 hown hK hP 0 rfl rfl 2 (by decide) hf13 (fun _ h9 => h9) rfl dX9_knownBy_6 ?_
      refine lv_iconst (v := 1) hx hb dX9_knownBy_9 (by decide) ?_
      refine q_iald hx hb hK hP 2 0 rfl rfl (vp_in_nI (n := 1) (N := 37) (by decide) (by decide)) 1 (by decide) dX9_knownBy_10 ?_
      refine lv_icmp_ge (tgt := 39) hx hb dX9_knownBy_11 (by decide) (fun c_2 => ?_) (fun c_2 => ?_)
      · exact absurd c_2 (k_le (by omega))
      refine lv_iload_n hx hb dX9_knownBy_14 rfl (lv_at hl 2 rfl) ?_
      refine lv_aload_n hx hb dX9_knownBy_15 rfl (lv_at hl 0 rfl) ?_
      refine lv_iload_n hx hb dX9_knownBy_16 rfl (lv_at hl 1 rfl) ?_
      refine lv_iload_n hx hb dX9_knownBy_17 rfl (lv_at hl 3 rfl) ?_
      refine ro_i (va_runV (As := [.int p0, .int (nI j4_)]) (rest := [.int (F_X9_knownBy_4 p0 mSt 0 j4_)]) ⟨hx, hb, hml, hown, hts⟩ (c_X9_knows l D cI cC cG m0 m1 m2 m3 m4 m5 m6 m7 m8 m9 m10 m11 m12 mTy mKn mKe mCa mSe mAt mFi mSc mTx mTo mDr mSt mPa mIm mWi mSn mHe mFw mRo mBe p0 (nI j4_) (vp_in_nI (by omega) (by decide))) (cwV 2 hts gX9_knownBy_X9_knows rfl rfl rfl (by decide +kernel) ⟨Nat.le_of_ble_eq_true rfl, Nat.le_of_ble_eq_true rfl⟩) (q_preV hK hP hN [0, 1, 2, 3, 4, 5, 6, 7, 8, 9, 10, 11, 12] rfl (ci := 9) (q0 := 0) rfl rfl) rfl rfl hl.1 rfl (lv_room (Nat.le_of_ble_eq_true rfl)) dX9_knownBy_18 ⟨Nat.zero_le _, Nat.zero_le _⟩) hS hP (fun H locs hP hS => ?_)
      refine lv_if_eq (tgt := 30) hx hb dX9_knownBy_21 (by decide) (fun c_3 => ?_) (fun c_3 => ?_)
      · refine lv_iconst (v := 0) hx hb dX9_knownBy_30 (by decide) ?_
        refine lv_ior hx hb dX9_knownBy_31 ?_
        refine lv_istore_n (lv' := [(2, .int ((F_X9_knownBy_4 p0 mSt 0 j4_) ||| 0)), (0, .ref m0), (1, .int p0), (3, .int (nI j4_))]) hx hb dX9_knownBy_32 rfl hl (by decide) rfl (fun ls hl => ?_)
        refine lv_iinc (v := (nI (j4_ + 1))) (lv' := [(3, .int (nI (j4_ + 1))), (2, .int ((F_X9_knownBy_4 p0 mSt 0 j4_) ||| 0)), (0, .ref m0), (1, .int p0)]) hx hb dX9_knownBy_33 hl (k := 3) rfl (nI_1 _) (by decide) rfl (fun ls hl => ?_)
        refine lv_goto (tgt := 4) hx hb dX9_knownBy_36 (by decide) ?_
        have e_4 : (F_X9_knownBy_4 p0 mSt 0 (j4_ + 1)) = ((F_X9_knownBy_4 p0 mSt 0 j4_) ||| 0) := by simp only [F_X9_knownBy_4, if_pos c_3]
        exact ih4_ (j4_ + 1) (by omega) _ _ hP hS _ (by rw [e_4]; exact (lv_sub hl [2, 3, 1, 0] rfl))
      refine lv_iconst (v := 1) hx hb dX9_knownBy_24 (by decide) ?_
      refine lv_iload_n hx hb dX9_knownBy_25 rfl (lv_at hl 3 rfl) ?_
      refine lv_ishl hx hb dX9_knownBy_26 ?_
      refine lv_goto (tgt := 31) hx hb dX9_knownBy_27 (by decide) ?_
      refine lv_ior hx hb dX9_knownBy_31 ?_
      refine lv_istore_n (lv' := [(2, .int ((F_X9_knownBy_4 p0 mSt 0 j4_) ||| ((1 : Int32) <<< ((nI j4_) &&& 31)))), (0, .ref m0), (1, .int p0), (3, .int (nI j4_))]) hx hb dX9_knownBy_32 rfl hl (by decide) rfl (fun ls hl => ?_)
      refine lv_iinc (v := (nI (j4_ + 1))) (lv' := [(3, .int (nI (j4_ + 1))), (2, .int ((F_X9_knownBy_4 p0 mSt 0 j4_) ||| ((1 : Int32) <<< ((nI j4_) &&& 31)))), (0, .ref m0), (1, .int p0)]) hx hb dX9_knownBy_33 hl (k := 3) rfl (nI_1 _) (by decide) rfl (fun ls hl => ?_)
      refine lv_goto (tgt := 4) hx hb dX9_knownBy_36 (by decide) ?_
      have e_5 : (F_X9_knownBy_4 p0 mSt 0 (j4_ + 1)) = ((F_X9_knownBy_4 p0 mSt 0 j4_) ||| ((1 : Int32) <<< ((nI j4_) &&& 31))) := by simp only [F_X9_knownBy_4, if_neg c_3]
      exact ih4_ (j4_ + 1) (by omega) _ _ hP hS _ (by rw [e_5]; exact (lv_sub hl [2, 3, 1, 0] rfl))
  exact loop4_ (Int32.toNatClampNeg (mTo 1)) 0 (by omega) _ _ hP hS _ (lv_sub hl [2, 3, 1, 0] rfl)
def F_X9_ownOf_4 (x1 : Int32) (mTo : Nat → Int32) (i0_ : Int32) : Nat → Int32
  | 0 => i0_
  | j4_ + 1 => (if (mTo (21 + j4_)) = x1 then ((F_X9_ownOf_4 x1 mTo i0_ j4_) ||| ((1 : Int32) <<< ((nI j4_) &&& 31))) else ((F_X9_ownOf_4 x1 mTo i0_ j4_) ||| 0))
def f_X9_ownOf (mTo : Nat → Int32) (p0 : Int32) : Int32 := (F_X9_ownOf_4 p0 mTo 0 (Int32.toNatClampNeg (mTo 1)))
abbrev rm_X9_ownOf : Room := { frames := 0, cells := 0, slots := 0, locals := 0 }
set_option maxRecDepth 100000 in
set_option maxHeartbeats 4000000 in
theorem c_X9_ownOf (l : Launch) (D : va_G) (cI cC cG : ClassId) (m0 : Nat) (m1 : Nat) (m2 : Nat) (m3 : Nat) (m4 : Nat) (m5 : Nat) (m6 : Nat) (m7 : Nat) (m8 : Nat) (m9 : Nat) (m10 : Nat) (m11 : Nat) (m12 : Nat) (mTy : Nat) (mKn : Nat) (mKe : Nat) (mCa : Nat) (mSe : Nat) (mAt : Nat) (mFi : Int32) (mSc : Int32) (mTx : Nat → Int32) (mTo : Nat → Int32) (mDr : Nat → Int32) (mSt : Nat → Int32) (mPa : Nat → Int32) (mIm : Nat → Int32) (mWi : Nat → Int32) (mSn : Nat → Int32) (mHe : Nat → Int32) (mFw : Nat → Int32) (mRo : Nat → Int32) (mBe : Nat → Int32) (p0 : Int32) (hM : okM mTo) : RoI l yX9_ownOf wsX9_ownOf rm_X9_ownOf D (q_t cI cC cG) (wM cI cC cG m0 m1 m2 m3 m4 m5 m6 m7 m8 m9 m10 m11 m12 mTy mKn mKe mCa mSe mAt mFi mSc mTx mTo mDr mSt mPa mIm mWi mSn mHe mFw mRo mBe) [.ref m0, .int p0] (f_X9_ownOf mTo p0) := by
  refine ro_enter (cc := cX9_ownOf) (maxL := 4) (ret := (some .int)) (by decide) rfl (Nat.le_of_ble_eq_true rfl) ?_
  intro p e s m below meth c ls B hP hK hl
  obtain ⟨hx, hb, hr, hlocks, hml, hown, hts, hN⟩ := B
  have hS : va_S q_no s.heap s.heap [] := va_S.rf
  have hown : s.vm.findClass RX9 = some m.cls := hown
  have hl : lv_has ls 4 [(0, .ref m0), (1, .int p0)] := hl
  have hN6 := okM_p hM
  have hN8 := okM_s hM
  have hf13 := hts (.fieldLink RX9 13 "OlderByABlushModel" "told" "[I") (by decide +kernel)
  have hinX9 : ∀ w ∈ u_ws RX9 TX9 20, w ∈ wsX9_ownOf := by decide +kernel
  refine lv_iconst (v := 0) hx hb dX9_ownOf_0 (by decide) ?_
  refine lv_istore_n (lv' := [(2, .int 0), (0, .ref m0), (1, .int p0)]) hx hb dX9_ownOf_1 rfl hl (by decide) rfl (fun ls hl => ?_)
  refine lv_iconst (v := 0) hx hb dX9_ownOf_2 (by decide) ?_
  refine lv_istore_n (lv' := [(3, .int 0), (2, .int 0), (0, .ref m0), (1, .int p0)]) hx hb dX9_ownOf_3 rfl hl (by decide) rfl (fun ls hl => ?_)
  have K4_ : ∀ (H : Heap) (locs : List Loc), va_P D vwCl [(m0, .inr (9, [.ref m1, .int (nI mTy), .ref m2, .ref m3, .ref m4, .ref m5, .int (nI mKn), .ref m6, .int (nI mKe), .ref m7, .int (nI mCa), .ref m8, .int (nI mSe), .int (nI mAt), .int mFi, .int mSc, .ref m9, .ref m10, .ref m11, .ref m12])), (m1, .inl (cI, 200, .inl mTx)), (m2, .inl (cI, 37, .inl mTo)), (m3, .inl (cI, 37, .inl mDr)), (m4, .inl (cI, 15, .inl mSt)), (m5, .inl (cI, 120, .inl mPa)), (m6, .inl (cI, 30, .inl mIm)), (m7, .inl (cI, 5, .inl mWi)), (m8, .inl (cI, 6, .inl mSn)), (m9, .inl (cI, 15, .inl mHe)), (m10, .inl (cI, 384, .inl mFw)), (m11, .inl (cI, 5, .inl mRo)), (m12, .inl (cI, 5, .inl mBe))] H → va_S q_no s.heap H locs → ∀ ls : Array Slot, lv_has ls 4 [(2, .int (F_X9_ownOf_4 p0 mTo 0 (Int32.toNatClampNeg (mTo 1))))] → W p l e rm_X9_ownOf s m ([.ref m0, .int p0] : List Value).toArray below meth c H locs 0 0 (MQ below (q_Qi (f_X9_ownOf mTo p0)) ([.ref m0, .int p0] : List Value).toArray s 0 0 q_no) (F0 m 43 ls []) := by
    intro H locs hP hS ls hl
    refine lv_iload_n hx hb dX9_ownOf_43 rfl (lv_at hl 0 rfl) ?_
    exact ro_iret hx hb hr hlocks hS (by simp only [f_X9_ownOf]) dX9_ownOf_44
  have loop4_ : ∀ (n4_ j4_ : Nat), j4_ + n4_ = (Int32.toNatClampNeg (mTo 1)) → ∀ (H : Heap) (locs : List Loc), va_P D vwCl [(m0, .inr (9, [.ref m1, .int (nI mTy), .ref m2, .ref m3, .ref m4, .ref m5, .int (nI mKn), .ref m6, .int (nI mKe), .ref m7, .int (nI mCa), .ref m8, .int (nI mSe), .int (nI mAt), .int mFi, .int mSc, .ref m9, .ref m10, .ref m11, .ref m12])), (m1, .inl (cI, 200, .inl mTx)), (m2, .inl (cI, 37, .inl mTo)), (m3, .inl (cI, 37, .inl mDr)), (m4, .inl (cI, 15, .inl mSt)), (m5, .inl (cI, 120, .inl mPa)), (m6, .inl (cI, 30, .inl mIm)), (m7, .inl (cI, 5, .inl mWi)), (m8, .inl (cI, 6, .inl mSn)), (m9, .inl (cI, 15, .inl mHe)), (m10, .inl (cI, 384, .inl mFw)), (m11, .inl (cI, 5, .inl mRo)), (m12, .inl (cI, 5, .inl mBe))] H → va_S q_no s.heap H locs → ∀ ls : Array Slot, lv_has ls 4 [(0, .ref m0), (1, .int p0), (2, .int (F_X9_ownOf_4 p0 mTo 0 j4_)), (3, .int (nI j4_))] → W p l e rm_X9_ownOf s m ([.ref m0, .int p0] : List Value).toArray below meth c H locs 0 0 (MQ below (q_Qi (f_X9_ownOf mTo p0)) ([.ref m0, .int p0] : List Value).toArray s 0 0 q_no) (F0 m 4 ls []) := by
    intro n4_
    induction n4_ with
    | zero =>
      intro j4_ hj4_ H locs hP hS ls hl
      obtain rfl : j4_ = (Int32.toNatClampNeg (mTo 1)) := by omega
      refine lv_iload_n hx hb dX9_ownOf_4 rfl (lv_at hl 3 rfl) ?_
      refine lv_aload_n hx hb dX9_ownOf_5 rfl (lv_at hl 0 rfl) ?_
      refine va_get (D := D) (ci := 9) (v := .ref m2) (C := RX9) (T := TX9) (N := 20) hx hb hts hinX9 hown hK hP 0 rfl rfl 2 (by decide) hf13 (fun _ h9 => h9) rfl dX9_ownOf_6 ?_
      refine lv_iconst (v := 1) hx hb dX9_ownOf_9 (by decide) ?_
      refine q_iald hx hb hK hP 2 0 rfl rfl (vp_in_nI (n := 1) (N := 37) (by decide) (by decide)) 1 (by decide) dX9_ownOf_10 ?_
      refine lv_icmp_ge (tgt := 43) hx hb dX9_ownOf_11 (by decide) (fun c_1 => ?_) (fun c_1 => ?_)
      rotate_left
      · exact absurd k_ge c_1
      exact K4_ _ _ hP hS _ (lv_sub hl [2] rfl)
    | succ n4_ ih4_ =>
      intro j4_ hj4_ H locs hP hS ls hl
      refine lv_iload_n hx hb dX9_ownOf_4 rfl (lv_at hl 3 rfl) ?_
      refine lv_aload_n hx hb dX9_ownOf_5 rfl (lv_at hl 0 rfl) ?_
      refine va_get (D := D) (ci := 9) (v := .ref m2) (C := RX9) (T := TX9) (N := 20) hx hb hts hinX9 hown hK hP 0 rfl rfl 2 (by decide) hf13 (fun _ h9 => h9) rfl dX9_ownOf_6 ?_
      refine lv_iconst (v := 1) hx hb dX9_ownOf_9 (by decide) ?_
      refine q_iald hx hb hK hP 2 0 rfl rfl (vp_in_nI (n := 1) (N := 37) (by decide) (by decide)) 1 (by decide) dX9_ownOf_10 ?_
      refine lv_icmp_ge (tgt := 43) hx hb dX9_ownOf_11 (by decide) (fun c_2 => ?_) (fun c_2 => ?_)
      · exact absurd c_2 (k_le (by omega))
      refine lv_iload_n hx hb dX9_ownOf_14 rfl (lv_at hl 2 rfl) ?_
      refine lv_aload_n hx hb dX9_ownOf_15 rfl (lv_at hl 0 rfl) ?_
      refine va_get (D := D) (ci := 9) (v := .ref m2) (C := RX9) (T := TX9) (N := 20) hx hb hts hinX9 hown hK hP 0 rfl rfl 2 (by decide) hf13 (fun _ h9 => h9) rfl dX9_ownOf_16 ?_
      refine lv_bipush (v := 21) hx hb dX9_ownOf_19 (by decide) ?_
      refine lv_iload_n hx hb dX9_ownOf_21 rfl (lv_at hl 3 rfl) ?_
      refine q_iaddN (a := 21) (b := j4_) hx hb dX9_ownOf_22 ?_
      refine q_iald hx hb hK hP 2 0 rfl rfl (vp_in_nI (by omega) (by decide)) (21 + j4_) (nI_clamp (by omega)) dX9_ownOf_23 ?_
      refine lv_iload_n hx hb dX9_ownOf_24 rfl (lv_at hl 1 rfl) ?_
      refine lv_icmp_ne (tgt := 34) hx hb dX9_ownOf_25 (by decide) (fun c_3 => ?_) (fun c_3 => ?_)
      · refine lv_iconst (v := 0) hx hb dX9_ownOf_34 (by decide) ?_
        refine lv_ior hx hb dX9_ownOf_35 ?_
        refine lv_istore_n (lv' := [(2, .int ((F_X9_ownOf_4 p0 mTo 0 j4_) ||| 0)), (0, .ref m0), (1, .int p0), (3, .int (nI j4_))]) hx hb dX9_ownOf_36 rfl hl (by decide) rfl (fun ls hl => ?_)
        refine lv_iinc (v := (nI (j4_ + 1))) (lv' := [(3, .int (nI (j4_ + 1))), (2, .int ((F_X9_ownOf_4 p0 mTo 0 j4_) ||| 0)), (0, .ref m0), (1, .int p0)]) hx hb dX9_ownOf_37 hl (k := 3) rfl (nI_1 _) (by decide) rfl (fun ls hl => ?_)
        refine lv_goto (tgt := 4) hx hb dX9_ownOf_40 (by decide) ?_
        have e_4 : (F_X9_ownOf_4 p0 mTo 0 (j4_ + 1)) = ((F_X9_ownOf_4 p0 mTo 0 j4_) ||| 0) := by simp only [F_X9_ownOf_4, if_neg c_3]
        exact ih4_ (j4_ + 1) (by omega) _ _ hP hS _ (by rw [e_4]; exact (lv_sub hl [2, 3, 1, 0] rfl))
      refine lv_iconst (v := 1) hx hb dX9_ownOf_28 (by decide) ?_
      refine lv_iload_n hx hb dX9_ownOf_29 rfl (lv_at hl 3 rfl) ?_
      refine lv_ishl hx hb dX9_ownOf_30 ?_
      refine lv_goto (tgt := 35) hx hb dX9_ownOf_31 (by decide) ?_
      refine lv_ior hx hb dX9_ownOf_35 ?_
      refine lv_istore_n (lv' := [(2, .int ((F_X9_ownOf_4 p0 mTo 0 j4_) ||| ((1 : Int32) <<< ((nI j4_) &&& 31)))), (0, .ref m0), (1, .int p0), (3, .int (nI j4_))]) hx hb dX9_ownOf_36 rfl hl (by decide) rfl (fun ls hl => ?_)
      refine lv_iinc (v := (nI (j4_ + 1))) (lv' := [(3, .int (nI (j4_ + 1))), (2, .int ((F_X9_ownOf_4 p0 mTo 0 j4_) ||| ((1 : Int32) <<< ((nI j4_) &&& 31)))), (0, .ref m0), (1, .int p0)]) hx hb dX9_ownOf_37 hl (k := 3) rfl (nI_1 _) (by decide) rfl (fun ls hl => ?_)
      refine lv_goto (tgt := 4) hx hb dX9_ownOf_40 (by decide) ?_
      have e_5 : (F_X9_ownOf_4 p0 mTo 0 (j4_ + 1)) = ((F_X9_ownOf_4 p0 mTo 0 j4_) ||| ((1 : Int32) <<< ((nI j4_) &&& 31))) := by simp only [F_X9_ownOf_4, if_pos c_3]
      exact ih4_ (j4_ + 1) (by omega) _ _ hP hS _ (by rw [e_5]; exact (lv_sub hl [2, 3, 1, 0] rfl))
  exact loop4_ (Int32.toNatClampNeg (mTo 1)) 0 (by omega) _ _ hP hS _ (lv_sub hl [2, 3, 1, 0] rfl)
def f_X9_person (mTo : Nat → Int32) (mSt : Nat → Int32) (p0 : Int32) (p1 : Int32) : Int32 := (if (f_X9_isPerson mTo p0) = 0 then (-1) else (if p1 = 0 then (mSt (Int32.toNatClampNeg p0)) else (if p1 = 1 then (mTo (9 + (Int32.toNatClampNeg p0))) else (if p1 = 2 then (f_X9_met mTo mSt p0) else (if p1 = 3 then (f_X9_knownBy mTo mSt p0) else (if p1 = 4 then (f_X9_ownOf mTo p0) else (if p1 = 5 then (if (f_X9_isAlive mTo mSt p0) = 0 then 0 else 1) else (-1))))))))
abbrev rm_X9_person : Room := { frames := 3, cells := 0, slots := 0, locals := 64 }
set_option maxRecDepth 100000 in
set_option maxHeartbeats 4000000 in
theorem c_X9_person (l : Launch) (D : va_G) (cI cC cG : ClassId) (m0 : Nat) (m1 : Nat) (m2 : Nat) (m3 : Nat) (m4 : Nat) (m5 : Nat) (m6 : Nat) (m7 : Nat) (m8 : Nat) (m9 : Nat) (m10 : Nat) (m11 : Nat) (m12 : Nat) (mTy : Nat) (mKn : Nat) (mKe : Nat) (mCa : Nat) (mSe : Nat) (mAt : Nat) (mFi : Int32) (mSc : Int32) (mTx : Nat → Int32) (mTo : Nat → Int32) (mDr : Nat → Int32) (mSt : Nat → Int32) (mPa : Nat → Int32) (mIm : Nat → Int32) (mWi : Nat → Int32) (mSn : Nat → Int32) (mHe : Nat → Int32) (mFw : Nat → Int32) (mRo : Nat → Int32) (mBe : Nat → Int32) (p0 : Int32) (p1 : Int32) (hM : okM mTo) : RoI l yX9_person wsX9_person rm_X9_person D (q_t cI cC cG) (wM cI cC cG m0 m1 m2 m3 m4 m5 m6 m7 m8 m9 m10 m11 m12 mTy mKn mKe mCa mSe mAt mFi mSc mTx mTo mDr mSt mPa mIm mWi mSn mHe mFw mRo mBe) [.ref m0, .int p0, .int p1] (f_X9_person mTo mSt p0 p1) := by
  refine ro_enter (cc := cX9_person) (maxL := 3) (ret := (some .int)) (by decide) rfl (Nat.le_of_ble_eq_true rfl) ?_
  intro p e s m below meth c ls B hP hK hl
  obtain ⟨hx, hb, hr, hlocks, hml, hown, hts, hN⟩ := B
  have hS : va_S q_no s.heap s.heap [] := va_S.rf
  have hown : s.vm.findClass RX9 = some m.cls := hown
  have hl : lv_has ls 3 [(0, .ref m0), (1, .int p0), (2, .int p1)] := hl
  have hN6 := okM_p hM
  have hN8 := okM_s hM
  have hf19 := hts (.fieldLink RX9 19 "OlderByABlushModel" "s" "[I") (by decide +kernel)
  have hinX9 : ∀ w ∈ u_ws RX9 TX9 20, w ∈ wsX9_person := by decide +kernel
  have hf13 := hts (.fieldLink RX9 13 "OlderByABlushModel" "told" "[I") (by decide +kernel)
  refine lv_aload_n hx hb dX9_person_0 rfl (lv_at hl 0 rfl) ?_
  refine lv_iload_n hx hb dX9_person_1 rfl (lv_at hl 1 rfl) ?_
  refine ro_i (va_runV (As := [.int p0]) (rest := []) ⟨hx, hb, hml, hown, hts⟩ (c_X9_isPerson l D cI cC cG m0 m1 m2 m3 m4 m5 m6 m7 m8 m9 m10 m11 m12 mTy mKn mKe mCa mSe mAt mFi mSc mTx mTo mDr mSt mPa mIm mWi mSn mHe mFw mRo mBe p0) (cwV 1 hts gX9_person_X9_isPerson rfl rfl rfl (by decide +kernel) ⟨Nat.le_of_ble_eq_true rfl, Nat.le_of_ble_eq_true rfl⟩) (q_preV hK hP hN [0, 1, 2, 3, 4, 5, 6, 7, 8, 9, 10, 11, 12] rfl (ci := 9) (q0 := 0) rfl rfl) rfl rfl hl.1 rfl (lv_room (Nat.le_of_ble_eq_true rfl)) dX9_person_2 ⟨Nat.zero_le _, Nat.zero_le _⟩) hS hP (fun H locs hP hS => ?_)
  refine lv_if_ne (tgt := 10) hx hb dX9_person_5 (by decide) (fun c_1 => ?_) (fun c_1 => ?_)
  · refine lv_iload_n hx hb dX9_person_10 rfl (lv_at hl 2 rfl) ?_
    by_cases c_2 : p1 = 0
    · refine lv_tableIn (off := 37) (tgt := 48) hx hb dX9_person_11 (by rw [c_2]; decide) (by rw [c_2]; decide) (by rw [c_2]; decide) (by decide) ?_
      refine lv_aload_n hx hb dX9_person_48 rfl (lv_at hl 0 rfl) ?_
      refine va_get (D := D) (ci := 9) (v := .ref m4) (C := RX9) (T := TX9) (N := 20) hx hb hts hinX9 hown hK hP 0 rfl rfl 4 (by decide) hf19 (fun _ h9 => h9) rfl dX9_person_49 ?_
      refine lv_iload_n hx hb dX9_person_52 rfl (lv_at hl 1 rfl) ?_
      refine q_iald hx hb hK hP 4 0 rfl rfl (vp_mono (pers_in hM c_1) (by decide)) (Int32.toNatClampNeg p0) rfl dX9_person_53 ?_
      exact ro_iret hx hb hr hlocks hS (by simp only [f_X9_person, if_neg c_1, if_pos c_2]) dX9_person_54
    by_cases c_3 : p1 = 1
    · refine lv_tableIn (off := 44) (tgt := 55) hx hb dX9_person_11 (by rw [c_3]; decide) (by rw [c_3]; decide) (by rw [c_3]; decide) (by decide) ?_
      refine lv_aload_n hx hb dX9_person_55 rfl (lv_at hl 0 rfl) ?_
      refine va_get (D := D) (ci := 9) (v := .ref m2) (C := RX9) (T := TX9) (N := 20) hx hb hts hinX9 hown hK hP 0 rfl rfl 2 (by decide) hf13 (fun _ h9 => h9) rfl dX9_person_56 ?_
      refine lv_bipush (v := 9) hx hb dX9_person_59 (by decide) ?_
      refine lv_iload_n hx hb dX9_person_61 rfl (lv_at hl 1 rfl) ?_
      refine lv_iadd hx hb dX9_person_62 ?_
      refine q_iald hx hb hK hP 2 0 rfl rfl (in_add 9 (n := 6) (pers_in hM c_1) (by decide) (by decide)) (9 + (Int32.toNatClampNeg p0)) (in_addc 9 (n := 6) (N := 1000) (pers_in hM c_1) (by decide) (by decide)) dX9_person_63 ?_
      exact ro_iret hx hb hr hlocks hS (by simp only [f_X9_person, if_neg c_1, if_neg c_2, if_pos c_3]) dX9_person_64
    by_cases c_4 : p1 = 2
    · refine lv_tableIn (off := 54) (tgt := 65) hx hb dX9_person_11 (by rw [c_4]; decide) (by rw [c_4]; decide) (by rw [c_4]; decide) (by decide) ?_
      refine lv_aload_n hx hb dX9_person_65 rfl (lv_at hl 0 rfl) ?_
      refine lv_iload_n hx hb dX9_person_66 rfl (lv_at hl 1 rfl) ?_
      refine ro_i (va_runV (As := [.int p0]) (rest := []) ⟨hx, hb, hml, hown, hts⟩ (c_X9_met l D cI cC cG m0 m1 m2 m3 m4 m5 m6 m7 m8 m9 m10 m11 m12 mTy mKn mKe mCa mSe mAt mFi mSc mTx mTo mDr mSt mPa mIm mWi mSn mHe mFw mRo mBe p0 hM (vp_mono (pers_in hM c_1) (by decide))) (cwV 1 hts gX9_person_X9_met rfl rfl rfl (by decide +kernel) ⟨Nat.le_of_ble_eq_true rfl, Nat.le_of_ble_eq_true rfl⟩) (q_preV hK hP hN [0, 1, 2, 3, 4, 5, 6, 7, 8, 9, 10, 11, 12] rfl (ci := 9) (q0 := 0) rfl rfl) rfl rfl hl.1 rfl (lv_room (Nat.le_of_ble_eq_true rfl)) dX9_person_67 ⟨Nat.zero_le _, Nat.zero_le _⟩) hS hP (fun H locs hP hS => ?_)
      exact ro_iret hx hb hr hlocks hS (by simp only [f_X9_person, if_neg c_1, if_neg c_2, if_neg c_3, if_pos c_4]) dX9_person_70
    by_cases c_5 : p1 = 3
    · refine lv_tableIn (off := 60) (tgt := 71) hx hb dX9_person_11 (by rw [c_5]; decide) (by rw [c_5]; decide) (by rw [c_5]; decide) (by decide) ?_
      refine lv_aload_n hx hb dX9_person_71 rfl (lv_at hl 0 rfl) ?_
      refine lv_iload_n hx hb dX9_person_72 rfl (lv_at hl 1 rfl) ?_
      refine ro_i (va_runV (As := [.int p0]) (rest := []) ⟨hx, hb, hml, hown, hts⟩ (c_X9_knownBy l D cI cC cG m0 m1 m2 m3 m4 m5 m6 m7 m8 m9 m10 m11 m12 mTy mKn mKe mCa mSe mAt mFi mSc mTx mTo mDr mSt mPa mIm mWi mSn mHe mFw mRo mBe p0 hM) (cwV 1 hts gX9_person_X9_knownBy rfl rfl rfl (by decide +kernel) ⟨Nat.le_of_ble_eq_true rfl, Nat.le_of_ble_eq_true rfl⟩) (q_preV hK hP hN [0, 1, 2, 3, 4, 5, 6, 7, 8, 9, 10, 11, 12] rfl (ci := 9) (q0 := 0) rfl rfl) rfl rfl hl.1 rfl (lv_room (Nat.le_of_ble_eq_true rfl)) dX9_person_73 ⟨Nat.zero_le _, Nat.zero_le _⟩) hS hP (fun H locs hP hS => ?_)
      exact ro_iret hx hb hr hlocks hS (by simp only [f_X9_person, if_neg c_1, if_neg c_2, if_neg c_3, if_neg c_4, if_pos c_5]) dX9_person_76
    by_cases c_6 : p1 = 4
    · refine lv_tableIn (off := 66) (tgt := 77) hx hb dX9_person_11 (by rw [c_6]; decide) (by rw [c_6]; decide) (by rw [c_6]; decide) (by decide) ?_
      refine lv_aload_n hx hb dX9_person_77 rfl (lv_at hl 0 rfl) ?_
      refine lv_iload_n hx hb dX9_person_78 rfl (lv_at hl 1 rfl) ?_
      refine ro_i (va_runV (As := [.int p0]) (rest := []) ⟨hx, hb, hml, hown, hts⟩ (c_X9_ownOf l D cI cC cG m0 m1 m2 m3 m4 m5 m6 m7 m8 m9 m10 m11 m12 mTy mKn mKe mCa mSe mAt mFi mSc mTx mTo mDr mSt mPa mIm mWi mSn mHe mFw mRo mBe p0 hM) (cwV 1 hts gX9_person_X9_ownOf rfl rfl rfl (by decide +kernel) ⟨Nat.le_of_ble_eq_true rfl, Nat.le_of_ble_eq_true rfl⟩) (q_preV hK hP hN [0, 1, 2, 3, 4, 5, 6, 7, 8, 9, 10, 11, 12] rfl (ci := 9) (q0 := 0) rfl rfl) rfl rfl hl.1 rfl (lv_room (Nat.le_of_ble_eq_true rfl)) dX9_person_79 ⟨Nat.zero_le _, Nat.zero_le _⟩) hS hP (fun H locs hP hS => ?_)
      exact ro_iret hx hb hr hlocks hS (by simp only [f_X9_person, if_neg c_1, if_neg c_2, if_neg c_3, if_neg c_4, if_neg c_5, if_pos c_6]) dX9_person_82
    by_cases c_7 : p1 = 5
    · refine lv_tableIn (off := 72) (tgt := 83) hx hb dX9_person_11 (by rw [c_7]; decide) (by rw [c_7]; decide) (by rw [c_7]; decide) (by decide) ?_
      refine lv_aload_n hx hb dX9_person_83 rfl (lv_at hl 0 rfl) ?_
      refine lv_iload_n hx hb dX9_person_84 rfl (lv_at hl 1 rfl) ?_
      refine ro_i (va_runV (As := [.int p0]) (rest := []) ⟨hx, hb, hml, hown, hts⟩ (c_X9_isAlive l D cI cC cG m0 m1 m2 m3 m4 m5 m6 m7 m8 m9 m10 m11 m12 mTy mKn mKe mCa mSe mAt mFi mSc mTx mTo mDr mSt mPa mIm mWi mSn mHe mFw mRo mBe p0 (vp_mono (pers_in hM c_1) (by decide))) (cwV 1 hts gX9_person_X9_isAlive rfl rfl rfl (by decide +kernel) ⟨Nat.le_of_ble_eq_true rfl, Nat.le_of_ble_eq_true rfl⟩) (q_preV hK hP hN [0, 1, 2, 3, 4, 5, 6, 7, 8, 9, 10, 11, 12] rfl (ci := 9) (q0 := 0) rfl rfl) rfl rfl hl.1 rfl (lv_room (Nat.le_of_ble_eq_true rfl)) dX9_person_85 ⟨Nat.zero_le _, Nat.zero_le _⟩) hS hP (fun H locs hP hS => ?_)
      refine lv_if_eq (tgt := 95) hx hb dX9_person_88 (by decide) (fun c_8 => ?_) (fun c_8 => ?_)
      · refine lv_iconst (v := 0) hx hb dX9_person_95 (by decide) ?_
        exact ro_iret hx hb hr hlocks hS (by simp only [f_X9_person, if_neg c_1, if_neg c_2, if_neg c_3, if_neg c_4, if_neg c_5, if_neg c_6, if_pos c_7, if_pos c_8]) dX9_person_96
      refine lv_iconst (v := 1) hx hb dX9_person_91 (by decide) ?_
      refine lv_goto (tgt := 96) hx hb dX9_person_92 (by decide) ?_
      exact ro_iret hx hb hr hlocks hS (by simp only [f_X9_person, if_neg c_1, if_neg c_2, if_neg c_3, if_neg c_4, if_neg c_5, if_neg c_6, if_pos c_7, if_neg c_8]) dX9_person_96
    refine lv_tableOut (tgt := 97) hx hb dX9_person_11 (by have t0 := lv_neT (a := 0) c_2 rfl; have t1 := lv_neT (a := 1) c_3 rfl; have t2 := lv_neT (a := 2) c_4 rfl; have t3 := lv_neT (a := 3) c_5 rfl; have t4 := lv_neT (a := 4) c_6 rfl; have t5 := lv_neT (a := 5) c_7 rfl; omega) (by decide) ?_
    refine lv_iconst (v := (-1)) hx hb dX9_person_97 (by decide) ?_
    exact ro_iret hx hb hr hlocks hS (by simp only [f_X9_person, if_neg c_1, if_neg c_2, if_neg c_3, if_neg c_4, if_neg c_5, if_neg c_6, if_neg c_7]) dX9_person_98
  refine lv_iconst (v := (-1)) hx hb dX9_person_8 (by decide) ?_
  exact ro_iret hx hb hr hlocks hS (by simp only [f_X9_person, if_pos c_1]) dX9_person_9
def f_X9_secret (mTo : Nat → Int32) (mSt : Nat → Int32) (p0 : Int32) (p1 : Int32) : Int32 := (if (f_X9_isSecret mTo p0) = 0 then (-1) else (if (f_X9_in p1 0 1) = 0 then (-1) else (if p1 = 0 then (mTo (21 + (Int32.toNatClampNeg p0))) else (mSt (6 + (Int32.toNatClampNeg p0))))))
abbrev rm_X9_secret : Room := { frames := 2, cells := 0, slots := 0, locals := 43 }
set_option maxRecDepth 100000 in
set_option maxHeartbeats 4000000 in
theorem c_X9_secret (l : Launch) (D : va_G) (cI cC cG : ClassId) (m0 : Nat) (m1 : Nat) (m2 : Nat) (m3 : Nat) (m4 : Nat) (m5 : Nat) (m6 : Nat) (m7 : Nat) (m8 : Nat) (m9 : Nat) (m10 : Nat) (m11 : Nat) (m12 : Nat) (mTy : Nat) (mKn : Nat) (mKe : Nat) (mCa : Nat) (mSe : Nat) (mAt : Nat) (mFi : Int32) (mSc : Int32) (mTx : Nat → Int32) (mTo : Nat → Int32) (mDr : Nat → Int32) (mSt : Nat → Int32) (mPa : Nat → Int32) (mIm : Nat → Int32) (mWi : Nat → Int32) (mSn : Nat → Int32) (mHe : Nat → Int32) (mFw : Nat → Int32) (mRo : Nat → Int32) (mBe : Nat → Int32) (p0 : Int32) (p1 : Int32) (hM : okM mTo) : RoI l yX9_secret wsX9_secret rm_X9_secret D (q_t cI cC cG) (wM cI cC cG m0 m1 m2 m3 m4 m5 m6 m7 m8 m9 m10 m11 m12 mTy mKn mKe mCa mSe mAt mFi mSc mTx mTo mDr mSt mPa mIm mWi mSn mHe mFw mRo mBe) [.ref m0, .int p0, .int p1] (f_X9_secret mTo mSt p0 p1) := by
  refine ro_enter (cc := cX9_secret) (maxL := 3) (ret := (some .int)) (by decide) rfl (Nat.le_of_ble_eq_true rfl) ?_
  intro p e s m below meth c ls B hP hK hl
  obtain ⟨hx, hb, hr, hlocks, hml, hown, hts, hN⟩ := B
  have hS : va_S q_no s.heap s.heap [] := va_S.rf
  have hown : s.vm.findClass RX9 = some m.cls := hown
  have hl : lv_has ls 3 [(0, .ref m0), (1, .int p0), (2, .int p1)] := hl
  have hN6 := okM_p hM
  have hN8 := okM_s hM
  have hf19 := hts (.fieldLink RX9 19 "OlderByABlushModel" "s" "[I") (by decide +kernel)
  have hinX9 : ∀ w ∈ u_ws RX9 TX9 20, w ∈ wsX9_secret := by decide +kernel
  have hf13 := hts (.fieldLink RX9 13 "OlderByABlushModel" "told" "[I") (by decide +kernel)
  refine lv_aload_n hx hb dX9_secret_0 rfl (lv_at hl 0 rfl) ?_
  refine lv_iload_n hx hb dX9_secret_1 rfl (lv_at hl 1 rfl) ?_
  refine ro_i (va_runV (As := [.int p0]) (rest := []) ⟨hx, hb, hml, hown, hts⟩ (c_X9_isSecret l D cI cC cG m0 m1 m2 m3 m4 m5 m6 m7 m8 m9 m10 m11 m12 mTy mKn mKe mCa mSe mAt mFi mSc mTx mTo mDr mSt mPa mIm mWi mSn mHe mFw mRo mBe p0) (cwV 1 hts gX9_secret_X9_isSecret rfl rfl rfl (by decide +kernel) ⟨Nat.le_of_ble_eq_true rfl, Nat.le_of_ble_eq_true rfl⟩) (q_preV hK hP hN [0, 1, 2, 3, 4, 5, 6, 7, 8, 9, 10, 11, 12] rfl (ci := 9) (q0 := 0) rfl rfl) rfl rfl hl.1 rfl (lv_room (Nat.le_of_ble_eq_true rfl)) dX9_secret_2 ⟨Nat.zero_le _, Nat.zero_le _⟩) hS hP (fun H locs hP hS => ?_)
  refine lv_if_eq (tgt := 45) hx hb dX9_secret_5 (by decide) (fun c_1 => ?_) (fun c_1 => ?_)
  · refine lv_iconst (v := (-1)) hx hb dX9_secret_45 (by decide) ?_
    exact ro_iret hx hb hr hlocks hS (by simp only [f_X9_secret, if_pos c_1]) dX9_secret_46
  refine lv_iload_n hx hb dX9_secret_8 rfl (lv_at hl 2 rfl) ?_
  refine lv_iconst (v := 0) hx hb dX9_secret_9 (by decide) ?_
  refine lv_iconst (v := 1) hx hb dX9_secret_10 (by decide) ?_
  refine ro_i (va_runS (As := [.int p1, .int 0, .int 1]) (rest := []) ⟨hx, hb, hml, hown, hts⟩ (c_X9_in l D cI cC cG p1 0 1) (cwS 3 hts gX9_secret_X9_in rfl rfl rfl (by decide +kernel) ⟨Nat.le_of_ble_eq_true rfl, Nat.le_of_ble_eq_true rfl⟩) (q_preS hK hP hN [] rfl) rfl rfl hl.1 rfl (lv_room (Nat.le_of_ble_eq_true rfl)) dX9_secret_11 ⟨Nat.zero_le _, Nat.zero_le _⟩) hS hP (fun H locs hP hS => ?_)
  refine lv_if_eq (tgt := 45) hx hb dX9_secret_14 (by decide) (fun c_2 => ?_) (fun c_2 => ?_)
  · refine lv_iconst (v := (-1)) hx hb dX9_secret_45 (by decide) ?_
    exact ro_iret hx hb hr hlocks hS (by simp only [f_X9_secret, if_neg c_1, if_pos c_2]) dX9_secret_46
  refine lv_iload_n hx hb dX9_secret_17 rfl (lv_at hl 2 rfl) ?_
  refine lv_if_ne (tgt := 33) hx hb dX9_secret_18 (by decide) (fun c_3 => ?_) (fun c_3 => ?_)
  · refine lv_aload_n hx hb dX9_secret_33 rfl (lv_at hl 0 rfl) ?_
    refine va_get (D := D) (ci := 9) (v := .ref m4) (C := RX9) (T := TX9) (N := 20) hx hb hts hinX9 hown hK hP 0 rfl rfl 4 (by decide) hf19 (fun _ h9 => h9) rfl dX9_secret_34 ?_
    refine lv_bipush (v := 6) hx hb dX9_secret_37 (by decide) ?_
    refine lv_iload_n hx hb dX9_secret_39 rfl (lv_at hl 1 rfl) ?_
    refine lv_iadd hx hb dX9_secret_40 ?_
    refine q_iald hx hb hK hP 4 0 rfl rfl (in_add 6 (n := 8) (secr_in hM c_1) (by decide) (by decide)) (6 + (Int32.toNatClampNeg p0)) (in_addc 6 (n := 8) (N := 1000) (secr_in hM c_1) (by decide) (by decide)) dX9_secret_41 ?_
    refine lv_goto (tgt := 46) hx hb dX9_secret_42 (by decide) ?_
    exact ro_iret hx hb hr hlocks hS (by simp only [f_X9_secret, if_neg c_1, if_neg c_2, if_neg c_3]) dX9_secret_46
  refine lv_aload_n hx hb dX9_secret_21 rfl (lv_at hl 0 rfl) ?_
  refine va_get (D := D) (ci := 9) (v := .ref m2) (C := RX9) (T := TX9) (N := 20) hx hb hts hinX9 hown hK hP 0 rfl rfl 2 (by decide) hf13 (fun _ h9 => h9) rfl dX9_secret_22 ?_
  refine lv_bipush (v := 21) hx hb dX9_secret_25 (by decide) ?_
  refine lv_iload_n hx hb dX9_secret_27 rfl (lv_at hl 1 rfl) ?_
  refine lv_iadd hx hb dX9_secret_28 ?_
  refine q_iald hx hb hK hP 2 0 rfl rfl (in_add 21 (n := 8) (secr_in hM c_1) (by decide) (by decide)) (21 + (Int32.toNatClampNeg p0)) (in_addc 21 (n := 8) (N := 1000) (secr_in hM c_1) (by decide) (by decide)) dX9_secret_29 ?_
  refine lv_goto (tgt := 46) hx hb dX9_secret_30 (by decide) ?_
  exact ro_iret hx hb hr hlocks hS (by simp only [f_X9_secret, if_neg c_1, if_neg c_2, if_pos c_3]) dX9_secret_46
def f_X9_others (mTo : Nat → Int32) (mSt : Nat → Int32) (p0 : Int32) : Int32 := (f_X9_ones ((mSt (6 + (Int32.toNatClampNeg p0))) &&& (((1 : Int32) <<< ((mTo (21 + (Int32.toNatClampNeg p0))) &&& 31)) ^^^ (-1))))
abbrev rm_X9_others : Room := { frames := 1, cells := 0, slots := 0, locals := 22 }
set_option maxRecDepth 100000 in
set_option maxHeartbeats 4000000 in
theorem c_X9_others (l : Launch) (D : va_G) (cI cC cG : ClassId) (m0 : Nat) (m1 : Nat) (m2 : Nat) (m3 : Nat) (m4 : Nat) (m5 : Nat) (m6 : Nat) (m7 : Nat) (m8 : Nat) (m9 : Nat) (m10 : Nat) (m11 : Nat) (m12 : Nat) (mTy : Nat) (mKn : Nat) (mKe : Nat) (mCa : Nat) (mSe : Nat) (mAt : Nat) (mFi : Int32) (mSc : Int32) (mTx : Nat → Int32) (mTo : Nat → Int32) (mDr : Nat → Int32) (mSt : Nat → Int32) (mPa : Nat → Int32) (mIm : Nat → Int32) (mWi : Nat → Int32) (mSn : Nat → Int32) (mHe : Nat → Int32) (mFw : Nat → Int32) (mRo : Nat → Int32) (mBe : Nat → Int32) (p0 : Int32) (hM : okM mTo) (hk : vp_in p0 8) : RoI l yX9_others wsX9_others rm_X9_others D (q_t cI cC cG) (wM cI cC cG m0 m1 m2 m3 m4 m5 m6 m7 m8 m9 m10 m11 m12 mTy mKn mKe mCa mSe mAt mFi mSc mTx mTo mDr mSt mPa mIm mWi mSn mHe mFw mRo mBe) [.ref m0, .int p0] (f_X9_others mTo mSt p0) := by
  refine ro_enter (cc := cX9_others) (maxL := 2) (ret := (some .int)) (by decide) rfl (Nat.le_of_ble_eq_true rfl) ?_
  intro p e s m below meth c ls B hP hK hl
  obtain ⟨hx, hb, hr, hlocks, hml, hown, hts, hN⟩ := B
  have hS : va_S q_no s.heap s.heap [] := va_S.rf
  have hown : s.vm.findClass RX9 = some m.cls := hown
  have hl : lv_has ls 2 [(0, .ref m0), (1, .int p0)] := hl
  have hN6 := okM_p hM
  have hN8 := okM_s hM
  have hf19 := hts (.fieldLink RX9 19 "OlderByABlushModel" "s" "[I") (by decide +kernel)
  have hinX9 : ∀ w ∈ u_ws RX9 TX9 20, w ∈ wsX9_others := by decide +kernel
  have hf13 := hts (.fieldLink RX9 13 "OlderByABlushModel" "told" "[I") (by decide +kernel)
  refine lv_aload_n hx hb dX9_others_0 rfl (lv_at hl 0 rfl) ?_
  refine va_get (D := D) (ci := 9) (v := .ref m4) (C := RX9) (T := TX9) (N := 20) hx hb hts hinX9 hown hK hP 0 rfl rfl 4 (by decide) hf19 (fun _ h9 => h9) rfl dX9_others_1 ?_
  refine lv_bipush (v := 6) hx hb dX9_others_4 (by decide) ?_
  refine lv_iload_n hx hb dX9_others_6 rfl (lv_at hl 1 rfl) ?_
  refine lv_iadd hx hb dX9_others_7 ?_
  refine q_iald hx hb hK hP 4 0 rfl rfl (in_add 6 (n := 8) hk (by decide) (by decide)) (6 + (Int32.toNatClampNeg p0)) (in_addc 6 (n := 8) (N := 1000) hk (by decide) (by decide)) dX9_others_8 ?_
  refine lv_iconst (v := 1) hx hb dX9_others_9 (by decide) ?_
  refine lv_aload_n hx hb dX9_others_10 rfl (lv_at hl 0 rfl) ?_
  refine va_get (D := D) (ci := 9) (v := .ref m2) (C := RX9) (T := TX9) (N := 20) hx hb hts hinX9 hown hK hP 0 rfl rfl 2 (by decide) hf13 (fun _ h9 => h9) rfl dX9_others_11 ?_
  refine lv_bipush (v := 21) hx hb dX9_others_14 (by decide) ?_
  refine lv_iload_n hx hb dX9_others_16 rfl (lv_at hl 1 rfl) ?_
  refine lv_iadd hx hb dX9_others_17 ?_
  refine q_iald hx hb hK hP 2 0 rfl rfl (in_add 21 (n := 8) hk (by decide) (by decide)) (21 + (Int32.toNatClampNeg p0)) (in_addc 21 (n := 8) (N := 1000) hk (by decide) (by decide)) dX9_others_18 ?_
  refine lv_ishl hx hb dX9_others_19 ?_
  refine lv_iconst (v := (-1)) hx hb dX9_others_20 (by decide) ?_
  refine lv_ixor hx hb dX9_others_21 ?_
  refine lv_iand hx hb dX9_others_22 ?_
  refine ro_i (va_runS (As := [.int ((mSt (6 + (Int32.toNatClampNeg p0))) &&& (((1 : Int32) <<< ((mTo (21 + (Int32.toNatClampNeg p0))) &&& 31)) ^^^ (-1)))]) (rest := []) ⟨hx, hb, hml, hown, hts⟩ (c_X9_ones l D cI cC cG ((mSt (6 + (Int32.toNatClampNeg p0))) &&& (((1 : Int32) <<< ((mTo (21 + (Int32.toNatClampNeg p0))) &&& 31)) ^^^ (-1)))) (cwS 1 hts gX9_others_X9_ones rfl rfl rfl (by decide +kernel) ⟨Nat.le_of_ble_eq_true rfl, Nat.le_of_ble_eq_true rfl⟩) (q_preS hK hP hN [] rfl) rfl rfl hl.1 rfl (lv_room (Nat.le_of_ble_eq_true rfl)) dX9_others_23 ⟨Nat.zero_le _, Nat.zero_le _⟩) hS hP (fun H locs hP hS => ?_)
  exact ro_iret hx hb hr hlocks hS (by simp only [f_X9_others]) dX9_others_26
def F_X9_shades_12 (x1 : Int32) (x2 : Int32) (mTo : Nat → Int32) (mSt : Nat → Int32) (i0_ : Int32) (i1_ : Int32) : Nat → Int32 × Int32
  | 0 => (i0_, i1_)
  | j12_ + 1 => (if ((x2 >>> ((nI j12_) &&& 31)) &&& 1) = 1 then (if (f_X9_knows mSt (nI j12_) x1) = 0 then (((F_X9_shades_12 x1 x2 mTo mSt i0_ i1_ j12_).1 + (f_X9_care (mTo (9 + (Int32.toNatClampNeg (mTo (21 + (Int32.toNatClampNeg x1)))))) (F_X9_shades_12 x1 x2 mTo mSt i0_ i1_ j12_).2)), ((F_X9_shades_12 x1 x2 mTo mSt i0_ i1_ j12_).2 + 1)) else ((F_X9_shades_12 x1 x2 mTo mSt i0_ i1_ j12_).1, (F_X9_shades_12 x1 x2 mTo mSt i0_ i1_ j12_).2)) else ((F_X9_shades_12 x1 x2 mTo mSt i0_ i1_ j12_).1, (F_X9_shades_12 x1 x2 mTo mSt i0_ i1_ j12_).2))
def f_X9_shades (mTo : Nat → Int32) (mSt : Nat → Int32) (p0 : Int32) (p1 : Int32) : Int32 := (if (f_X9_isAlive mTo mSt (mTo (21 + (Int32.toNatClampNeg p0)))) = 0 then 0 else (F_X9_shades_12 p0 p1 mTo mSt 0 (f_X9_others mTo mSt p0) (Int32.toNatClampNeg (mTo 0))).1)
abbrev rm_X9_shades : Room := { frames := 2, cells := 0, slots := 0, locals := 43 }
set_option maxRecDepth 100000 in
set_option maxHeartbeats 4000000 in
theorem c_X9_shades (l : Launch) (D : va_G) (cI cC cG : ClassId) (m0 : Nat) (m1 : Nat) (m2 : Nat) (m3 : Nat) (m4 : Nat) (m5 : Nat) (m6 : Nat) (m7 : Nat) (m8 : Nat) (m9 : Nat) (m10 : Nat) (m11 : Nat) (m12 : Nat) (mTy : Nat) (mKn : Nat) (mKe : Nat) (mCa : Nat) (mSe : Nat) (mAt : Nat) (mFi : Int32) (mSc : Int32) (mTx : Nat → Int32) (mTo : Nat → Int32) (mDr : Nat → Int32) (mSt : Nat → Int32) (mPa : Nat → Int32) (mIm : Nat → Int32) (mWi : Nat → Int32) (mSn : Nat → Int32) (mHe : Nat → Int32) (mFw : Nat → Int32) (mRo : Nat → Int32) (mBe : Nat → Int32) (p0 : Int32) (p1 : Int32) (hM : okM mTo) (hk : vp_in p0 8) : RoI l yX9_shades wsX9_shades rm_X9_shades D (q_t cI cC cG) (wM cI cC cG m0 m1 m2 m3 m4 m5 m6 m7 m8 m9 m10 m11 m12 mTy mKn mKe mCa mSe mAt mFi mSc mTx mTo mDr mSt mPa mIm mWi mSn mHe mFw mRo mBe) [.ref m0, .int p0, .int p1] (f_X9_shades mTo mSt p0 p1) := by
  refine ro_enter (cc := cX9_shades) (maxL := 6) (ret := (some .int)) (by decide) rfl (Nat.le_of_ble_eq_true rfl) ?_
  intro p e s m below meth c ls B hP hK hl
  obtain ⟨hx, hb, hr, hlocks, hml, hown, hts, hN⟩ := B
  have hS : va_S q_no s.heap s.heap [] := va_S.rf
  have hown : s.vm.findClass RX9 = some m.cls := hown
  have hl : lv_has ls 6 [(0, .ref m0), (1, .int p0), (2, .int p1)] := hl
  have hN6 := okM_p hM
  have hN8 := okM_s hM
  have hf13 := hts (.fieldLink RX9 13 "OlderByABlushModel" "told" "[I") (by decide +kernel)
  have hinX9 : ∀ w ∈ u_ws RX9 TX9 20, w ∈ wsX9_shades := by decide +kernel
  refine lv_iconst (v := 0) hx hb dX9_shades_0 (by decide) ?_
  refine lv_istore_n (lv' := [(3, .int 0), (0, .ref m0), (1, .int p0), (2, .int p1)]) hx hb dX9_shades_1 rfl hl (by decide) rfl (fun ls hl => ?_)
  refine lv_aload_n hx hb dX9_shades_2 rfl (lv_at hl 1 rfl) ?_
  refine lv_iload_n hx hb dX9_shades_3 rfl (lv_at hl 2 rfl) ?_
  refine ro_i (va_runV (As := [.int p0]) (rest := []) ⟨hx, hb, hml, hown, hts⟩ (c_X9_others l D cI cC cG m0 m1 m2 m3 m4 m5 m6 m7 m8 m9 m10 m11 m12 mTy mKn mKe mCa mSe mAt mFi mSc mTx mTo mDr mSt mPa mIm mWi mSn mHe mFw mRo mBe p0 hM (vp_mono hk (by decide))) (cwV 1 hts gX9_shades_X9_others rfl rfl rfl (by decide +kernel) ⟨Nat.le_of_ble_eq_true rfl, Nat.le_of_ble_eq_true rfl⟩) (q_preV hK hP hN [0, 1, 2, 3, 4, 5, 6, 7, 8, 9, 10, 11, 12] rfl (ci := 9) (q0 := 0) rfl rfl) rfl rfl hl.1 rfl (lv_room (Nat.le_of_ble_eq_true rfl)) dX9_shades_4 ⟨Nat.zero_le _, Nat.zero_le _⟩) hS hP (fun H locs hP hS => ?_)
  refine lv_istore (lv' := [(4, .int (f_X9_others mTo mSt p0)), (3, .int 0), (0, .ref m0), (1, .int p0), (2, .int p1)]) hx hb dX9_shades_7 hl (by decide) rfl (fun ls hl => ?_)
  refine lv_iconst (v := 0) hx hb dX9_shades_9 (by decide) ?_
  refine lv_istore (lv' := [(5, .int 0), (4, .int (f_X9_others mTo mSt p0)), (3, .int 0), (0, .ref m0), (1, .int p0), (2, .int p1)]) hx hb dX9_shades_10 hl (by decide) rfl (fun ls hl => ?_)
  have K12_ : ∀ (H : Heap) (locs : List Loc), va_P D vwCl [(m0, .inr (9, [.ref m1, .int (nI mTy), .ref m2, .ref m3, .ref m4, .ref m5, .int (nI mKn), .ref m6, .int (nI mKe), .ref m7, .int (nI mCa), .ref m8, .int (nI mSe), .int (nI mAt), .int mFi, .int mSc, .ref m9, .ref m10, .ref m11, .ref m12])), (m1, .inl (cI, 200, .inl mTx)), (m2, .inl (cI, 37, .inl mTo)), (m3, .inl (cI, 37, .inl mDr)), (m4, .inl (cI, 15, .inl mSt)), (m5, .inl (cI, 120, .inl mPa)), (m6, .inl (cI, 30, .inl mIm)), (m7, .inl (cI, 5, .inl mWi)), (m8, .inl (cI, 6, .inl mSn)), (m9, .inl (cI, 15, .inl mHe)), (m10, .inl (cI, 384, .inl mFw)), (m11, .inl (cI, 5, .inl mRo)), (m12, .inl (cI, 5, .inl mBe))] H → va_S q_no s.heap H locs → ∀ ls : Array Slot, lv_has ls 6 [(0, .ref m0), (1, .int p0), (3, .int ((F_X9_shades_12 p0 p1 mTo mSt 0 (f_X9_others mTo mSt p0) (Int32.toNatClampNeg (mTo 0))).1))] → W p l e rm_X9_shades s m ([.ref m0, .int p0, .int p1] : List Value).toArray below meth c H locs 0 0 (MQ below (q_Qi (f_X9_shades mTo mSt p0 p1)) ([.ref m0, .int p0, .int p1] : List Value).toArray s 0 0 q_no) (F0 m 77 ls []) := by
    intro H locs hP hS ls hl
    refine lv_aload_n hx hb dX9_shades_77 rfl (lv_at hl 0 rfl) ?_
    refine lv_aload_n hx hb dX9_shades_78 rfl (lv_at hl 0 rfl) ?_
    refine va_get (D := D) (ci := 9) (v := .ref m2) (C := RX9) (T := TX9) (N := 20) hx hb hts hinX9 hown hK hP 0 rfl rfl 2 (by decide) hf13 (fun _ h9 => h9) rfl dX9_shades_79 ?_
    refine lv_bipush (v := 21) hx hb dX9_shades_82 (by decide) ?_
    refine lv_iload_n hx hb dX9_shades_84 rfl (lv_at hl 1 rfl) ?_
    refine lv_iadd hx hb dX9_shades_85 ?_
    refine q_iald hx hb hK hP 2 0 rfl rfl (in_add 21 (n := 8) hk (by decide) (by decide)) (21 + (Int32.toNatClampNeg p0)) (in_addc 21 (n := 8) (N := 1000) hk (by decide) (by decide)) dX9_shades_86 ?_
    refine ro_i (va_runV (As := [.int (mTo (21 + (Int32.toNatClampNeg p0)))]) (rest := []) ⟨hx, hb, hml, hown, hts⟩ (c_X9_isAlive l D cI cC cG m0 m1 m2 m3 m4 m5 m6 m7 m8 m9 m10 m11 m12 mTy mKn mKe mCa mSe mAt mFi mSc mTx mTo mDr mSt mPa mIm mWi mSn mHe mFw mRo mBe (mTo (21 + (Int32.toNatClampNeg p0))) (vp_mono (own_in hM (cl_lt hk)) (by decide))) (cwV 1 hts gX9_shades_X9_isAlive rfl rfl rfl (by decide +kernel) ⟨Nat.le_of_ble_eq_true rfl, Nat.le_of_ble_eq_true rfl⟩) (q_preV hK hP hN [0, 1, 2, 3, 4, 5, 6, 7, 8, 9, 10, 11, 12] rfl (ci := 9) (q0 := 0) rfl rfl) rfl rfl hl.1 rfl (lv_room (Nat.le_of_ble_eq_true rfl)) dX9_shades_87 ⟨Nat.zero_le _, Nat.zero_le _⟩) hS hP (fun H locs hP hS => ?_)
    refine lv_if_eq (tgt := 97) hx hb dX9_shades_90 (by decide) (fun c_1 => ?_) (fun c_1 => ?_)
    · refine lv_iconst (v := 0) hx hb dX9_shades_97 (by decide) ?_
      exact ro_iret hx hb hr hlocks hS (by simp only [f_X9_shades, if_pos c_1]) dX9_shades_98
    refine lv_iload_n hx hb dX9_shades_93 rfl (lv_at hl 2 rfl) ?_
    refine lv_goto (tgt := 98) hx hb dX9_shades_94 (by decide) ?_
    exact ro_iret hx hb hr hlocks hS (by simp only [f_X9_shades, if_neg c_1]) dX9_shades_98
  have loop12_ : ∀ (n12_ j12_ : Nat), j12_ + n12_ = (Int32.toNatClampNeg (mTo 0)) → ∀ (H : Heap) (locs : List Loc), va_P D vwCl [(m0, .inr (9, [.ref m1, .int (nI mTy), .ref m2, .ref m3, .ref m4, .ref m5, .int (nI mKn), .ref m6, .int (nI mKe), .ref m7, .int (nI mCa), .ref m8, .int (nI mSe), .int (nI mAt), .int mFi, .int mSc, .ref m9, .ref m10, .ref m11, .ref m12])), (m1, .inl (cI, 200, .inl mTx)), (m2, .inl (cI, 37, .inl mTo)), (m3, .inl (cI, 37, .inl mDr)), (m4, .inl (cI, 15, .inl mSt)), (m5, .inl (cI, 120, .inl mPa)), (m6, .inl (cI, 30, .inl mIm)), (m7, .inl (cI, 5, .inl mWi)), (m8, .inl (cI, 6, .inl mSn)), (m9, .inl (cI, 15, .inl mHe)), (m10, .inl (cI, 384, .inl mFw)), (m11, .inl (cI, 5, .inl mRo)), (m12, .inl (cI, 5, .inl mBe))] H → va_S q_no s.heap H locs → ∀ ls : Array Slot, lv_has ls 6 [(0, .ref m0), (1, .int p0), (2, .int p1), (3, .int ((F_X9_shades_12 p0 p1 mTo mSt 0 (f_X9_others mTo mSt p0) j12_).1)), (4, .int ((F_X9_shades_12 p0 p1 mTo mSt 0 (f_X9_others mTo mSt p0) j12_).2)), (5, .int (nI j12_))] → W p l e rm_X9_shades s m ([.ref m0, .int p0, .int p1] : List Value).toArray below meth c H locs 0 0 (MQ below (q_Qi (f_X9_shades mTo mSt p0 p1)) ([.ref m0, .int p0, .int p1] : List Value).toArray s 0 0 q_no) (F0 m 12 ls []) := by
    intro n12_
    induction n12_ with
    | zero =>
      intro j12_ hj12_ H locs hP hS ls hl
      obtain rfl : j12_ = (Int32.toNatClampNeg (mTo 0)) := by omega
      refine lv_iload hx hb dX9_shades_12 (lv_at hl 5 rfl) ?_
      refine lv_aload_n hx hb dX9_shades_14 rfl (lv_at hl 0 rfl) ?_
      refine va_get (D := D) (ci := 9) (v := .ref m2) (C := RX9) (T := TX9) (N := 20) hx hb hts hinX9 hown hK hP 0 rfl rfl 2 (by decide) hf13 (fun _ h9 => h9) rfl dX9_shades_15 ?_
      refine lv_iconst (v := 0) hx hb dX9_shades_18 (by decide) ?_
      refine q_iald hx hb hK hP 2 0 rfl rfl (vp_in_nI (n := 0) (N := 37) (by decide) (by decide)) 0 (by decide) dX9_shades_19 ?_
      refine lv_icmp_ge (tgt := 77) hx hb dX9_shades_20 (by decide) (fun c_2 => ?_) (fun c_2 => ?_)
      rotate_left
      · exact absurd k_ge c_2
      exact K12_ _ _ hP hS _ (lv_sub hl [0, 1, 3] rfl)
    | succ n12_ ih12_ =>
      intro j12_ hj12_ H locs hP hS ls hl
      refine lv_iload hx hb dX9_shades_12 (lv_at hl 5 rfl) ?_
      refine lv_aload_n hx hb dX9_shades_14 rfl (lv_at hl 0 rfl) ?_
      refine va_get (D := D) (ci := 9) (v := .ref m2) (C := RX9) (T := TX9) (N := 20) hx hb hts hinX9 hown hK hP 0 rfl rfl 2 (by decide) hf13 (fun _ h9 => h9) rfl dX9_shades_15 ?_
      refine lv_iconst (v := 0) hx hb dX9_shades_18 (by decide) ?_
      refine q_iald hx hb hK hP 2 0 rfl rfl (vp_in_nI (n := 0) (N := 37) (by decide) (by decide)) 0 (by decide) dX9_shades_19 ?_
      refine lv_icmp_ge (tgt := 77) hx hb dX9_shades_20 (by decide) (fun c_3 => ?_) (fun c_3 => ?_)
      · exact absurd c_3 (k_le (by omega))
      refine lv_iload_n hx hb dX9_shades_23 rfl (lv_at hl 2 rfl) ?_
      refine lv_iload hx hb dX9_shades_24 (lv_at hl 5 rfl) ?_
      refine lv_ishr hx hb dX9_shades_26 ?_
      refine lv_iconst (v := 1) hx hb dX9_shades_27 (by decide) ?_
      refine lv_iand hx hb dX9_shades_28 ?_
      refine lv_iconst (v := 1) hx hb dX9_shades_29 (by decide) ?_
      refine lv_icmp_ne (tgt := 71) hx hb dX9_shades_30 (by decide) (fun c_4 => ?_) (fun c_4 => ?_)
      · refine lv_iinc (v := (nI (j12_ + 1))) (lv' := [(5, .int (nI (j12_ + 1))), (0, .ref m0), (1, .int p0), (2, .int p1), (3, .int ((F_X9_shades_12 p0 p1 mTo mSt 0 (f_X9_others mTo mSt p0) j12_).1)), (4, .int ((F_X9_shades_12 p0 p1 mTo mSt 0 (f_X9_others mTo mSt p0) j12_).2))]) hx hb dX9_shades_71 hl (k := 5) rfl (nI_1 _) (by decide) rfl (fun ls hl => ?_)
        refine lv_goto (tgt := 12) hx hb dX9_shades_74 (by decide) ?_
        have e_5 : (F_X9_shades_12 p0 p1 mTo mSt 0 (f_X9_others mTo mSt p0) (j12_ + 1)) = ((F_X9_shades_12 p0 p1 mTo mSt 0 (f_X9_others mTo mSt p0) j12_).1, (F_X9_shades_12 p0 p1 mTo mSt 0 (f_X9_others mTo mSt p0) j12_).2) := by simp only [F_X9_shades_12, if_neg c_4]
        exact ih12_ (j12_ + 1) (by omega) _ _ hP hS _ (by rw [e_5]; exact (lv_sub hl [1, 2, 3, 4, 5, 0] rfl))
      refine lv_aload_n hx hb dX9_shades_33 rfl (lv_at hl 0 rfl) ?_
      refine lv_iload hx hb dX9_shades_34 (lv_at hl 5 rfl) ?_
      refine lv_iload_n hx hb dX9_shades_36 rfl (lv_at hl 1 rfl) ?_
      refine ro_i (va_runV (As := [.int (nI j12_), .int p0]) (rest := []) ⟨hx, hb, hml, hown, hts⟩ (c_X9_knows l D cI cC cG m0 m1 m2 m3 m4 m5 m6 m7 m8 m9 m10 m11 m12 mTy mKn mKe mCa mSe mAt mFi mSc mTx mTo mDr mSt mPa mIm mWi mSn mHe mFw mRo mBe (nI j12_) p0 (vp_mono hk (by decide))) (cwV 2 hts gX9_shades_X9_knows rfl rfl rfl (by decide +kernel) ⟨Nat.le_of_ble_eq_true rfl, Nat.le_of_ble_eq_true rfl⟩) (q_preV hK hP hN [0, 1, 2, 3, 4, 5, 6, 7, 8, 9, 10, 11, 12] rfl (ci := 9) (q0 := 0) rfl rfl) rfl rfl hl.1 rfl (lv_room (Nat.le_of_ble_eq_true rfl)) dX9_shades_37 ⟨Nat.zero_le _, Nat.zero_le _⟩) hS hP (fun H locs hP hS => ?_)
      refine lv_if_ne (tgt := 71) hx hb dX9_shades_40 (by decide) (fun c_6 => ?_) (fun c_6 => ?_)
      · refine lv_iinc (v := (nI (j12_ + 1))) (lv' := [(5, .int (nI (j12_ + 1))), (0, .ref m0), (1, .int p0), (2, .int p1), (3, .int ((F_X9_shades_12 p0 p1 mTo mSt 0 (f_X9_others mTo mSt p0) j12_).1)), (4, .int ((F_X9_shades_12 p0 p1 mTo mSt 0 (f_X9_others mTo mSt p0) j12_).2))]) hx hb dX9_shades_71 hl (k := 5) rfl (nI_1 _) (by decide) rfl (fun ls hl => ?_)
        refine lv_goto (tgt := 12) hx hb dX9_shades_74 (by decide) ?_
        have e_7 : (F_X9_shades_12 p0 p1 mTo mSt 0 (f_X9_others mTo mSt p0) (j12_ + 1)) = ((F_X9_shades_12 p0 p1 mTo mSt 0 (f_X9_others mTo mSt p0) j12_).1, (F_X9_shades_12 p0 p1 mTo mSt 0 (f_X9_others mTo mSt p0) j12_).2) := by simp only [F_X9_shades_12, if_pos c_4, if_neg c_6]
        exact ih12_ (j12_ + 1) (by omega) _ _ hP hS _ (by rw [e_7]; exact (lv_sub hl [1, 2, 3, 4, 5, 0] rfl))
      refine lv_iload_n hx hb dX9_shades_43 rfl (lv_at hl 3 rfl) ?_
      refine lv_aload_n hx hb dX9_shades_44 rfl (lv_at hl 0 rfl) ?_
      refine va_get (D := D) (ci := 9) (v := .ref m2) (C := RX9) (T := TX9) (N := 20) hx hb hts hinX9 hown hK hP 0 rfl rfl 2 (by decide) hf13 (fun _ h9 => h9) rfl dX9_shades_45 ?_
      refine lv_bipush (v := 9) hx hb dX9_shades_48 (by decide) ?_
      refine lv_aload_n hx hb dX9_shades_50 rfl (lv_at hl 0 rfl) ?_
      refine va_get (D := D) (ci := 9) (v := .ref m2) (C := RX9) (T := TX9) (N := 20) hx hb hts hinX9 hown hK hP 0 rfl rfl 2 (by decide) hf13 (fun _ h9 => h9) rfl dX9_shades_51 ?_
      refine lv_bipush (v := 21) hx hb dX9_shades_54 (by decide) ?_
      refine lv_iload_n hx hb dX9_shades_56 rfl (lv_at hl 1 rfl) ?_
      refine lv_iadd hx hb dX9_shades_57 ?_
      refine q_iald hx hb hK hP 2 0 rfl rfl (in_add 21 (n := 8) hk (by decide) (by decide)) (21 + (Int32.toNatClampNeg p0)) (in_addc 21 (n := 8) (N := 1000) hk (by decide) (by decide)) dX9_shades_58 ?_
      refine lv_iadd hx hb dX9_shades_59 ?_
      refine q_iald hx hb hK hP 2 0 rfl rfl (in_add 9 (n := 6) (own_in hM (cl_lt hk)) (by decide) (by decide)) (9 + (Int32.toNatClampNeg (mTo (21 + (Int32.toNatClampNeg p0))))) (in_addc 9 (n := 6) (N := 1000) (own_in hM (cl_lt hk)) (by decide) (by decide)) dX9_shades_60 ?_
      refine lv_iload hx hb dX9_shades_61 (lv_at hl 4 rfl) ?_
      refine ro_i (va_runS (As := [.int (mTo (9 + (Int32.toNatClampNeg (mTo (21 + (Int32.toNatClampNeg p0)))))), .int ((F_X9_shades_12 p0 p1 mTo mSt 0 (f_X9_others mTo mSt p0) j12_).2)]) (rest := [.int ((F_X9_shades_12 p0 p1 mTo mSt 0 (f_X9_others mTo mSt p0) j12_).1)]) ⟨hx, hb, hml, hown, hts⟩ (c_X9_care l D cI cC cG (mTo (9 + (Int32.toNatClampNeg (mTo (21 + (Int32.toNatClampNeg p0)))))) ((F_X9_shades_12 p0 p1 mTo mSt 0 (f_X9_others mTo mSt p0) j12_).2)) (cwS 2 hts gX9_shades_X9_care rfl rfl rfl (by decide +kernel) ⟨Nat.le_of_ble_eq_true rfl, Nat.le_of_ble_eq_true rfl⟩) (q_preS hK hP hN [] rfl) rfl rfl hl.1 rfl (lv_room (Nat.le_of_ble_eq_true rfl)) dX9_shades_63 ⟨Nat.zero_le _, Nat.zero_le _⟩) hS hP (fun H locs hP hS => ?_)
      refine lv_iadd hx hb dX9_shades_66 ?_
      refine lv_istore_n (lv' := [(3, .int ((F_X9_shades_12 p0 p1 mTo mSt 0 (f_X9_others mTo mSt p0) j12_).1 + (f_X9_care (mTo (9 + (Int32.toNatClampNeg (mTo (21 + (Int32.toNatClampNeg p0)))))) ((F_X9_shades_12 p0 p1 mTo mSt 0 (f_X9_others mTo mSt p0) j12_).2)))), (0, .ref m0), (1, .int p0), (2, .int p1), (4, .int ((F_X9_shades_12 p0 p1 mTo mSt 0 (f_X9_others mTo mSt p0) j12_).2)), (5, .int (nI j12_))]) hx hb dX9_shades_67 rfl hl (by decide) rfl (fun ls hl => ?_)
      refine lv_iinc (v := ((F_X9_shades_12 p0 p1 mTo mSt 0 (f_X9_others mTo mSt p0) j12_).2 + 1)) (lv' := [(4, .int ((F_X9_shades_12 p0 p1 mTo mSt 0 (f_X9_others mTo mSt p0) j12_).2 + 1)), (3, .int ((F_X9_shades_12 p0 p1 mTo mSt 0 (f_X9_others mTo mSt p0) j12_).1 + (f_X9_care (mTo (9 + (Int32.toNatClampNeg (mTo (21 + (Int32.toNatClampNeg p0)))))) ((F_X9_shades_12 p0 p1 mTo mSt 0 (f_X9_others mTo mSt p0) j12_).2)))), (0, .ref m0), (1, .int p0), (2, .int p1), (5, .int (nI j12_))]) hx hb dX9_shades_68 hl (k := 4) rfl rfl (by decide) rfl (fun ls hl => ?_)
      refine lv_iinc (v := (nI (j12_ + 1))) (lv' := [(5, .int (nI (j12_ + 1))), (4, .int ((F_X9_shades_12 p0 p1 mTo mSt 0 (f_X9_others mTo mSt p0) j12_).2 + 1)), (3, .int ((F_X9_shades_12 p0 p1 mTo mSt 0 (f_X9_others mTo mSt p0) j12_).1 + (f_X9_care (mTo (9 + (Int32.toNatClampNeg (mTo (21 + (Int32.toNatClampNeg p0)))))) ((F_X9_shades_12 p0 p1 mTo mSt 0 (f_X9_others mTo mSt p0) j12_).2)))), (0, .ref m0), (1, .int p0), (2, .int p1)]) hx hb dX9_shades_71 hl (k := 5) rfl (nI_1 _) (by decide) rfl (fun ls hl => ?_)
      refine lv_goto (tgt := 12) hx hb dX9_shades_74 (by decide) ?_
      have e_8 : (F_X9_shades_12 p0 p1 mTo mSt 0 (f_X9_others mTo mSt p0) (j12_ + 1)) = (((F_X9_shades_12 p0 p1 mTo mSt 0 (f_X9_others mTo mSt p0) j12_).1 + (f_X9_care (mTo (9 + (Int32.toNatClampNeg (mTo (21 + (Int32.toNatClampNeg p0)))))) ((F_X9_shades_12 p0 p1 mTo mSt 0 (f_X9_others mTo mSt p0) j12_).2))), ((F_X9_shades_12 p0 p1 mTo mSt 0 (f_X9_others mTo mSt p0) j12_).2 + 1)) := by simp only [F_X9_shades_12, if_pos c_4, if_pos c_6]
      exact ih12_ (j12_ + 1) (by omega) _ _ hP hS _ (by rw [e_8]; exact (lv_sub hl [3, 4, 5, 2, 1, 0] rfl))
  exact loop12_ (Int32.toNatClampNeg (mTo 0)) 0 (by omega) _ _ hP hS _ (lv_sub hl [3, 4, 5, 2, 1, 0] rfl)
