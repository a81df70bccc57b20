def sAB (n : Nat) (a b : Int32) : Prop := 0 ≤ a.toInt ∧ a.toInt + n ≤ 20 ∧ (n : Int) - 20 ≤ b.toInt ∧ b.toInt ≤ 20 ∧ b.toInt - a.toInt ≤ n
theorem i32_add {x y : Int32} (h1 : -1000000 ≤ x.toInt) (h2 : x.toInt ≤ 1000000) (h3 : -1000000 ≤ y.toInt) (h4 : y.toInt ≤ 1000000) : (x + y).toInt = x.toInt + y.toInt := by
  rw [Int32.toInt_add]
  simp only [Int.bmod_def]
  split <;> omega
theorem i32_sub {x y : Int32} (h1 : -1000000 ≤ x.toInt) (h2 : x.toInt ≤ 1000000) (h3 : -1000000 ≤ y.toInt) (h4 : y.toInt ≤ 1000000) : (x - y).toInt = x.toInt - y.toInt := by
  rw [Int32.toInt_sub]
  simp only [Int.bmod_def]
  split <;> omega
theorem sAB_s {n : Nat} {a b : Int32} (h : sAB (n + 1) a b) : sAB n (a + 1) (b + (-1)) := by
  obtain ⟨h1, h2, h3, h4, h5⟩ := h
  have e1 : (1 : Int32).toInt = 1 := by decide
  have e2 : (-1 : Int32).toInt = -1 := by decide
  unfold sAB
  rw [i32_add (x := a) (y := 1) (by omega) (by omega) (by rw [e1]; decide) (by rw [e1]; decide), i32_add (x := b) (y := -1) (by omega) (by omega) (by rw [e2]; decide) (by rw [e2]; decide), e1, e2]
  omega
theorem sAB_0 {a b : Int32} (h : sAB 0 a b) (q : ¬ b ≤ a) : False := by
  obtain ⟨h1, h2, h3, h4, h5⟩ := h
  rw [Int32.le_iff_toInt_le] at q
  omega
theorem sAB_i {a z : Int32} (ha : vp_in a 5) (hz : ∃ k, k ≤ 5 ∧ z = nI k) : sAB 5 (a + 1) (z - 1) := by
  obtain ⟨k, hk, rfl⟩ := hz
  obtain ⟨j, hj, rfl⟩ := vp_in_of ha (by decide)
  have e1 : (1 : Int32).toInt = 1 := by decide
  unfold sAB
  rw [nI_1, i32_sub (x := nI k) (y := 1) (by rw [nI_toInt (by omega)]; omega) (by rw [nI_toInt (by omega)]; omega) (by rw [e1]; decide) (by rw [e1]; decide), e1, nI_toInt (by omega), nI_toInt (by omega)]
  omega
def F_X1_nextTurn_4 (cZ : Int32) (cTu : Nat → Int32) (i0_ : Int32) : Nat → Int32
  | 0 => i0_
  | j4_ + 1 => (if cZ ≤ ((nI j4_) + 1) then (F_X1_nextTurn_4 cZ cTu i0_ j4_) else (if (cTu (j4_ + 1)) ≤ (cTu j4_) then (F_X1_nextTurn_4 cZ cTu i0_ j4_) else (nI j4_)))
def F_X1_nextTurn_56 (x1 : Int32) (cZ : Int32) (cTu : Nat → Int32) (i0_ : Int32) : Nat → Int32
  | 0 => i0_
  | j56_ + 1 => (if (nI j56_) ≤ x1 then (F_X1_nextTurn_56 x1 cZ cTu i0_ j56_) else (if cZ ≤ (nI j56_) then (F_X1_nextTurn_56 x1 cZ cTu i0_ j56_) else (if (cTu j56_) ≤ (cTu (Int32.toNatClampNeg x1)) then (F_X1_nextTurn_56 x1 cZ cTu i0_ j56_) else (nI j56_))))
def L_X1_nextTurn_115  : Nat → Int32 → Int32 → (Nat → Int32) → Int32 × Int32 × (Nat → Int32)
  | 0, a0_, a1_, a2_ => (a0_, a1_, a2_)
  | n115_ + 1, a0_, a1_, a2_ => (if a1_ ≤ a0_ then (a0_, a1_, a2_) else L_X1_nextTurn_115 n115_ (a0_ + 1) (a1_ + (-1)) (g_X1_swap_cTu a2_ a0_ a1_))
def f_X1_nextTurn (cZ : Int32) (cTu : Nat → Int32) : Int32 := (if 0 ≤ (F_X1_nextTurn_4 cZ cTu (-1) 4) then 1 else 0)
def g_X1_nextTurn_cTu (cZ : Int32) (cTu : Nat → Int32) : Nat → Int32 := (if 0 ≤ (F_X1_nextTurn_4 cZ cTu (-1) 4) then (L_X1_nextTurn_115 5 ((F_X1_nextTurn_4 cZ cTu (-1) 4) + 1) (cZ - 1) (g_X1_swap_cTu cTu (F_X1_nextTurn_4 cZ cTu (-1) 4) (F_X1_nextTurn_56 (F_X1_nextTurn_4 cZ cTu (-1) 4) cZ cTu (F_X1_nextTurn_4 cZ cTu (-1) 4) 5))).2.2 else cTu)
theorem in_low {z : Int32} {t : Nat → Int32} : ∀ n : Nat, n ≤ 4 → 0 ≤ F_X1_nextTurn_4 z t (-1) n → vp_in (F_X1_nextTurn_4 z t (-1) n) 5
  | 0, _, h => absurd (show (0 : Int32) ≤ -1 from h) (by decide)
  | n + 1, hn, h => by
    have ih := in_low (z := z) (t := t) n (by omega)
    revert h
    simp only [F_X1_nextTurn_4]
    repeat' split
    all_goals first | exact ih | (intro _; exact vp_in_nI (by omega) (by decide))
abbrev rm_X1_nextTurn : Room := { frames := 1, cells := 0, slots := 0, locals := 23 }
set_option maxRecDepth 100000 in
set_option maxHeartbeats 4000000 in
theorem c_X1_nextTurn (l : Launch) (D : va_G) (cI cC cG : ClassId) (c0 : Nat) (c1 : Nat) (c2 : Nat) (c3 : Nat) (c4 : Nat) (cZ : Int32) (cPe : Nat → Int32) (cTa : Nat → Int32) (cTu : Nat → Int32) (cBe : Nat → Int32) (sz : Nat) (hcZ : ∃ k, k ≤ 5 ∧ cZ = nI k) : RwI l yX1_nextTurn wsX1_nextTurn rm_X1_nextTurn D (q_t cI cC cG) (wC cI cC cG c0 c1 c2 c3 c4 cZ cPe cTa cTu cBe) (wC cI cC cG c0 c1 c2 c3 c4 cZ cPe cTa (g_X1_nextTurn_cTu cZ cTu) cBe) sz [.ref c0] (f_X1_nextTurn cZ cTu) := by
  refine rw_enter (cc := cX1_nextTurn) (maxL := 5) (ret := (some .boolean)) (by decide) rfl (Nat.le_of_ble_eq_true rfl) ?_
  intro p e s m below meth c ls B hP hK hD hS hA hl
  obtain ⟨hx, hb, hr, hlocks, hml, hown, hts, hN⟩ := B
  have hown : s.vm.findClass RX1 = some m.cls := hown
  have hl : lv_has ls 5 [(0, .ref c0)] := hl
  have hf24 := hts (.fieldLink RX1 24 "OlderByABlush$Court" "size" "I") (by decide +kernel)
  have hinX1 : ∀ w ∈ u_ws RX1 TX1 5, w ∈ wsX1_nextTurn := by decide +kernel
  have hf18 := hts (.fieldLink RX1 18 "OlderByABlush$Court" "turn" "[I") (by decide +kernel)
  refine lv_iconst (v := (-1)) hx hb dX1_nextTurn_0 (by decide) ?_
  refine lv_istore_n (lv' := [(1, .int (-1)), (0, .ref c0)]) hx hb dX1_nextTurn_1 rfl hl (by decide) rfl (fun ls hl => ?_)
  refine lv_iconst (v := 0) hx hb dX1_nextTurn_2 (by decide) ?_
  refine lv_istore_n (lv' := [(2, .int 0), (1, .int (-1)), (0, .ref c0)]) hx hb dX1_nextTurn_3 rfl hl (by decide) rfl (fun ls hl => ?_)
  have K4_ : ∀ (H : Heap) (locs : List Loc), va_P D vwCl [(c0, .inr (1, [.ref c1, .ref c2, .ref c3, .ref c4, .int cZ])), (c1, .inl (cI, 5, .inl cPe)), (c2, .inl (cI, 5, .inl cTa)), (c3, .inl (cI, 5, .inl cTu)), (c4, .inl (cI, 5, .inl cBe))] H → va_D (va_A (wC cI cC cG c0 c1 c2 c3 c4 cZ cPe cTa cTu cBe) sz) [(c0, .inr (1, [.ref c1, .ref c2, .ref c3, .ref c4, .int cZ])), (c1, .inl (cI, 5, .inl cPe)), (c2, .inl (cI, 5, .inl cTa)), (c3, .inl (cI, 5, .inl cTu)), (c4, .inl (cI, 5, .inl cBe))] → va_S (va_A (wC cI cC cG c0 c1 c2 c3 c4 cZ cPe cTa cTu cBe) sz) s.heap H locs → ∀ ls : Array Slot, lv_has ls 5 [(0, .ref c0), (1, .int (F_X1_nextTurn_4 cZ cTu (-1) 4))] → W p l e rm_X1_nextTurn s m ([.ref c0] : List Value).toArray below meth c H locs 0 0 (MQ below (q_QWi D (wC cI cC cG c0 c1 c2 c3 c4 cZ cPe cTa cTu cBe) (wC cI cC cG c0 c1 c2 c3 c4 cZ cPe cTa (g_X1_nextTurn_cTu cZ cTu) cBe) sz (f_X1_nextTurn cZ cTu)) ([.ref c0] : List Value).toArray s 0 0 (va_A (wC cI cC cG c0 c1 c2 c3 c4 cZ cPe cTa cTu cBe) sz)) (F0 m 46 ls []) := by
    intro H locs hP hD hS ls hl
    refine lv_iload_n hx hb dX1_nextTurn_46 rfl (lv_at hl 1 rfl) ?_
    refine lv_if_ge (tgt := 52) hx hb dX1_nextTurn_47 (by decide) (fun c_1 => ?_) (fun c_1 => ?_)
    · refine lv_iload_n hx hb dX1_nextTurn_52 rfl (lv_at hl 1 rfl) ?_
      refine lv_istore_n (lv' := [(2, .int (F_X1_nextTurn_4 cZ cTu (-1) 4)), (0, .ref c0), (1, .int (F_X1_nextTurn_4 cZ cTu (-1) 4))]) hx hb dX1_nextTurn_53 rfl hl (by decide) rfl (fun ls hl => ?_)
      refine lv_iconst (v := 0) hx hb dX1_nextTurn_54 (by decide) ?_
      refine lv_istore_n (lv' := [(3, .int 0), (2, .int (F_X1_nextTurn_4 cZ cTu (-1) 4)), (0, .ref c0), (1, .int (F_X1_nextTurn_4 cZ cTu (-1) 4))]) hx hb dX1_nextTurn_55 rfl hl (by decide) rfl (fun ls hl => ?_)
      have K56_ : ∀ (H : Heap) (locs : List Loc), va_P D vwCl [(c0, .inr (1, [.ref c1, .ref c2, .ref c3, .ref c4, .int cZ])), (c1, .inl (cI, 5, .inl cPe)), (c2, .inl (cI, 5, .inl cTa)), (c3, .inl (cI, 5, .inl cTu)), (c4, .inl (cI, 5, .inl cBe))] H → va_D (va_A (wC cI cC cG c0 c1 c2 c3 c4 cZ cPe cTa cTu cBe) sz) [(c0, .inr (1, [.ref c1, .ref c2, .ref c3, .ref c4, .int cZ])), (c1, .inl (cI, 5, .inl cPe)), (c2, .inl (cI, 5, .inl cTa)), (c3, .inl (cI, 5, .inl cTu)), (c4, .inl (cI, 5, .inl cBe))] → va_S (va_A (wC cI cC cG c0 c1 c2 c3 c4 cZ cPe cTa cTu cBe) sz) s.heap H locs → ∀ ls : Array Slot, lv_has ls 5 [(0, .ref c0), (1, .int (F_X1_nextTurn_4 cZ cTu (-1) 4)), (2, .int (F_X1_nextTurn_56 (F_X1_nextTurn_4 cZ cTu (-1) 4) cZ cTu (F_X1_nextTurn_4 cZ cTu (-1) 4) 5))] → W p l e rm_X1_nextTurn s m ([.ref c0] : List Value).toArray below meth c H locs 0 0 (MQ below (q_QWi D (wC cI cC cG c0 c1 c2 c3 c4 cZ cPe cTa cTu cBe) (wC cI cC cG c0 c1 c2 c3 c4 cZ cPe cTa (g_X1_nextTurn_cTu cZ cTu) cBe) sz (f_X1_nextTurn cZ cTu)) ([.ref c0] : List Value).toArray s 0 0 (va_A (wC cI cC cG c0 c1 c2 c3 c4 cZ cPe cTa cTu cBe) sz)) (F0 m 97 ls []) := by
        intro H locs hP hD hS ls hl
        refine lv_aload_n hx hb dX1_nextTurn_97 rfl (lv_at hl 0 rfl) ?_
        refine lv_iload_n hx hb dX1_nextTurn_98 rfl (lv_at hl 1 rfl) ?_
        refine lv_iload_n hx hb dX1_nextTurn_99 rfl (lv_at hl 2 rfl) ?_
        refine rw_v0 (va_runV (As := [.int (F_X1_nextTurn_4 cZ cTu (-1) 4), .int (F_X1_nextTurn_56 (F_X1_nextTurn_4 cZ cTu (-1) 4) cZ cTu (F_X1_nextTurn_4 cZ cTu (-1) 4) 5)]) (rest := []) ⟨hx, hb, hml, hown, hts⟩ (c_X1_swap l D cI cC cG c0 c1 c2 c3 c4 cZ cPe cTa cTu cBe (F_X1_nextTurn_4 cZ cTu (-1) 4) (F_X1_nextTurn_56 (F_X1_nextTurn_4 cZ cTu (-1) 4) cZ cTu (F_X1_nextTurn_4 cZ cTu (-1) 4) 5) H.size) (cwV 2 hts gX1_nextTurn_X1_swap rfl rfl rfl (by decide +kernel) ⟨Nat.le_of_ble_eq_true rfl, Nat.le_of_ble_eq_true rfl⟩) (q_preWV hK hP hD hN [0, 1, 2, 3, 4] (by decide) rfl rfl (ci := 1) (q0 := 0) rfl rfl) rfl rfl hl.1 rfl (lv_room (Nat.le_of_ble_eq_true rfl)) dX1_nextTurn_100 ⟨Nat.zero_le _, Nat.zero_le _⟩) hS hA hD (fun H locs hP hD hS => ?_)
        have hP : va_P D vwCl [(c0, .inr (1, [.ref c1, .ref c2, .ref c3, .ref c4, .int cZ])), (c1, .inl (cI, 5, .inl cPe)), (c2, .inl (cI, 5, .inl cTa)), (c3, .inl (cI, 5, .inl (g_X1_swap_cTu cTu (F_X1_nextTurn_4 cZ cTu (-1) 4) (F_X1_nextTurn_56 (F_X1_nextTurn_4 cZ cTu (-1) 4) cZ cTu (F_X1_nextTurn_4 cZ cTu (-1) 4) 5)))), (c4, .inl (cI, 5, .inl cBe))] H := hP
        have hD : va_D (va_A (wC cI cC cG c0 c1 c2 c3 c4 cZ cPe cTa cTu cBe) sz) [(c0, .inr (1, [.ref c1, .ref c2, .ref c3, .ref c4, .int cZ])), (c1, .inl (cI, 5, .inl cPe)), (c2, .inl (cI, 5, .inl cTa)), (c3, .inl (cI, 5, .inl (g_X1_swap_cTu cTu (F_X1_nextTurn_4 cZ cTu (-1) 4) (F_X1_nextTurn_56 (F_X1_nextTurn_4 cZ cTu (-1) 4) cZ cTu (F_X1_nextTurn_4 cZ cTu (-1) 4) 5)))), (c4, .inl (cI, 5, .inl cBe))] := hD
        refine lv_iload_n hx hb dX1_nextTurn_103 rfl (lv_at hl 1 rfl) ?_
        refine lv_iconst (v := 1) hx hb dX1_nextTurn_104 (by decide) ?_
        refine lv_iadd hx hb dX1_nextTurn_105 ?_
        refine lv_istore_n (lv' := [(3, .int ((F_X1_nextTurn_4 cZ cTu (-1) 4) + 1)), (0, .ref c0), (1, .int (F_X1_nextTurn_4 cZ cTu (-1) 4)), (2, .int (F_X1_nextTurn_56 (F_X1_nextTurn_4 cZ cTu (-1) 4) cZ cTu (F_X1_nextTurn_4 cZ cTu (-1) 4) 5))]) hx hb dX1_nextTurn_106 rfl hl (by decide) rfl (fun ls hl => ?_)
        refine lv_aload_n hx hb dX1_nextTurn_107 rfl (lv_at hl 1 rfl) ?_
        refine va_get (D := D) (ci := 1) (v := .int cZ) (C := RX1) (T := TX1) (N := 5) hx hb hts hinX1 hown hK hP 0 rfl rfl 4 (by decide) hf24 (fun _ h9 => h9) rfl dX1_nextTurn_108 ?_
        refine lv_iconst (v := 1) hx hb dX1_nextTurn_111 (by decide) ?_
        refine lv_isub hx hb dX1_nextTurn_112 ?_
        refine lv_istore (lv' := [(4, .int (cZ - 1)), (3, .int ((F_X1_nextTurn_4 cZ cTu (-1) 4) + 1)), (0, .ref c0), (1, .int (F_X1_nextTurn_4 cZ cTu (-1) 4)), (2, .int (F_X1_nextTurn_56 (F_X1_nextTurn_4 cZ cTu (-1) 4) cZ cTu (F_X1_nextTurn_4 cZ cTu (-1) 4) 5))]) hx hb dX1_nextTurn_113 hl (by decide) rfl (fun ls hl => ?_)
        have K115_ : ∀ (H : Heap) (locs : List Loc), va_P D vwCl [(c0, .inr (1, [.ref c1, .ref c2, .ref c3, .ref c4, .int cZ])), (c1, .inl (cI, 5, .inl cPe)), (c2, .inl (cI, 5, .inl cTa)), (c3, .inl (cI, 5, .inl ((L_X1_nextTurn_115 5 ((F_X1_nextTurn_4 cZ cTu (-1) 4) + 1) (cZ - 1) (g_X1_swap_cTu cTu (F_X1_nextTurn_4 cZ cTu (-1) 4) (F_X1_nextTurn_56 (F_X1_nextTurn_4 cZ cTu (-1) 4) cZ cTu (F_X1_nextTurn_4 cZ cTu (-1) 4) 5))).2.2))), (c4, .inl (cI, 5, .inl cBe))] H → va_D (va_A (wC cI cC cG c0 c1 c2 c3 c4 cZ cPe cTa cTu cBe) sz) [(c0, .inr (1, [.ref c1, .ref c2, .ref c3, .ref c4, .int cZ])), (c1, .inl (cI, 5, .inl cPe)), (c2, .inl (cI, 5, .inl cTa)), (c3, .inl (cI, 5, .inl ((L_X1_nextTurn_115 5 ((F_X1_nextTurn_4 cZ cTu (-1) 4) + 1) (cZ - 1) (g_X1_swap_cTu cTu (F_X1_nextTurn_4 cZ cTu (-1) 4) (F_X1_nextTurn_56 (F_X1_nextTurn_4 cZ cTu (-1) 4) cZ cTu (F_X1_nextTurn_4 cZ cTu (-1) 4) 5))).2.2))), (c4, .inl (cI, 5, .inl cBe))] → va_S (va_A (wC cI cC cG c0 c1 c2 c3 c4 cZ cPe cTa cTu cBe) sz) s.heap H locs → ∀ ls : Array Slot, lv_has ls 5 [] → W p l e rm_X1_nextTurn s m ([.ref c0] : List Value).toArray below meth c H locs 0 0 (MQ below (q_QWi D (wC cI cC cG c0 c1 c2 c3 c4 cZ cPe cTa cTu cBe) (wC cI cC cG c0 c1 c2 c3 c4 cZ cPe cTa (g_X1_nextTurn_cTu cZ cTu) cBe) sz (f_X1_nextTurn cZ cTu)) ([.ref c0] : List Value).toArray s 0 0 (va_A (wC cI cC cG c0 c1 c2 c3 c4 cZ cPe cTa cTu cBe) sz)) (F0 m 137 ls []) := by
          intro H locs hP hD hS ls hl
          refine lv_iconst (v := 1) hx hb dX1_nextTurn_137 (by decide) ?_
          have e_2 : (g_X1_nextTurn_cTu cZ cTu) = (L_X1_nextTurn_115 5 ((F_X1_nextTurn_4 cZ cTu (-1) 4) + 1) (cZ - 1) (g_X1_swap_cTu cTu (F_X1_nextTurn_4 cZ cTu (-1) 4) (F_X1_nextTurn_56 (F_X1_nextTurn_4 cZ cTu (-1) 4) cZ cTu (F_X1_nextTurn_4 cZ cTu (-1) 4) 5))).2.2 := by simp only [g_X1_nextTurn_cTu, if_pos c_1]
          exact rw_zret hx hb hr (by rfl) hlocks hP hD hS (by simp only [f_X1_nextTurn, if_pos c_1]) (by rw [e_2]) dX1_nextTurn_138
        have loop115_ : ∀ (n115_ : Nat) (a115_0 : Int32) (a115_1 : Int32) (a115_2 : Nat → Int32), sAB n115_ a115_0 a115_1 → (L_X1_nextTurn_115 n115_ a115_0 a115_1 a115_2) = (L_X1_nextTurn_115 5 ((F_X1_nextTurn_4 cZ cTu (-1) 4) + 1) (cZ - 1) (g_X1_swap_cTu cTu (F_X1_nextTurn_4 cZ cTu (-1) 4) (F_X1_nextTurn_56 (F_X1_nextTurn_4 cZ cTu (-1) 4) cZ cTu (F_X1_nextTurn_4 cZ cTu (-1) 4) 5))) → ∀ (H : Heap) (locs : List Loc), va_P D vwCl [(c0, .inr (1, [.ref c1, .ref c2, .ref c3, .ref c4, .int cZ])), (c1, .inl (cI, 5, .inl cPe)), (c2, .inl (cI, 5, .inl cTa)), (c3, .inl (cI, 5, .inl a115_2)), (c4, .inl (cI, 5, .inl cBe))] H → va_D (va_A (wC cI cC cG c0 c1 c2 c3 c4 cZ cPe cTa cTu cBe) sz) [(c0, .inr (1, [.ref c1, .ref c2, .ref c3, .ref c4, .int cZ])), (c1, .inl (cI, 5, .inl cPe)), (c2, .inl (cI, 5, .inl cTa)), (c3, .inl (cI, 5, .inl a115_2)), (c4, .inl (cI, 5, .inl cBe))] → va_S (va_A (wC cI cC cG c0 c1 c2 c3 c4 cZ cPe cTa cTu cBe) sz) s.heap H locs → ∀ ls : Array Slot, lv_has ls 5 [(0, .ref c0), (3, .int a115_0), (4, .int a115_1)] → W p l e rm_X1_nextTurn s m ([.ref c0] : List Value).toArray below meth c H locs 0 0 (MQ below (q_QWi D (wC cI cC cG c0 c1 c2 c3 c4 cZ cPe cTa cTu cBe) (wC cI cC cG c0 c1 c2 c3 c4 cZ cPe cTa (g_X1_nextTurn_cTu cZ cTu) cBe) sz (f_X1_nextTurn cZ cTu)) ([.ref c0] : List Value).toArray s 0 0 (va_A (wC cI cC cG c0 c1 c2 c3 c4 cZ cPe cTa cTu cBe) sz)) (F0 m 115 ls []) := by
          intro n115_
          induction n115_ with
          | zero =>
            intro a115_0 a115_1 a115_2 hj115_ hv115_ H locs hP hD hS ls hl
            refine lv_iload_n hx hb dX1_nextTurn_115 rfl (lv_at hl 1 rfl) ?_
            refine lv_iload hx hb dX1_nextTurn_116 (lv_at hl 2 rfl) ?_
            refine lv_icmp_ge (tgt := 137) hx hb dX1_nextTurn_118 (by decide) (fun c_3 => ?_) (fun c_3 => ?_)
            rotate_left
            · exact (sAB_0 hj115_ c_3).elim
            have e_4 : (a115_0, a115_1, a115_2) = (L_X1_nextTurn_115 5 ((F_X1_nextTurn_4 cZ cTu (-1) 4) + 1) (cZ - 1) (g_X1_swap_cTu cTu (F_X1_nextTurn_4 cZ cTu (-1) 4) (F_X1_nextTurn_56 (F_X1_nextTurn_4 cZ cTu (-1) 4) cZ cTu (F_X1_nextTurn_4 cZ cTu (-1) 4) 5))) := by rw [← hv115_]; simp only [L_X1_nextTurn_115]
            have e_5 : a115_0 = (L_X1_nextTurn_115 5 ((F_X1_nextTurn_4 cZ cTu (-1) 4) + 1) (cZ - 1) (g_X1_swap_cTu cTu (F_X1_nextTurn_4 cZ cTu (-1) 4) (F_X1_nextTurn_56 (F_X1_nextTurn_4 cZ cTu (-1) 4) cZ cTu (F_X1_nextTurn_4 cZ cTu (-1) 4) 5))).1 := congrArg (fun z => z.1) e_4
            have e_6 : a115_1 = (L_X1_nextTurn_115 5 ((F_X1_nextTurn_4 cZ cTu (-1) 4) + 1) (cZ - 1) (g_X1_swap_cTu cTu (F_X1_nextTurn_4 cZ cTu (-1) 4) (F_X1_nextTurn_56 (F_X1_nextTurn_4 cZ cTu (-1) 4) cZ cTu (F_X1_nextTurn_4 cZ cTu (-1) 4) 5))).2.1 := congrArg (fun z => z.2.1) e_4
            have e_7 : a115_2 = (L_X1_nextTurn_115 5 ((F_X1_nextTurn_4 cZ cTu (-1) 4) + 1) (cZ - 1) (g_X1_swap_cTu cTu (F_X1_nextTurn_4 cZ cTu (-1) 4) (F_X1_nextTurn_56 (F_X1_nextTurn_4 cZ cTu (-1) 4) cZ cTu (F_X1_nextTurn_4 cZ cTu (-1) 4) 5))).2.2 := congrArg (fun z => z.2.2) e_4
            exact K115_ _ _ (by rw [← e_7]; exact hP) (by rw [← e_7]; exact hD) hS _ ((lv_sub hl [] rfl))
          | succ n115_ ih115_ =>
            intro a115_0 a115_1 a115_2 hj115_ hv115_ H locs hP hD hS ls hl
            refine lv_iload_n hx hb dX1_nextTurn_115 rfl (lv_at hl 1 rfl) ?_
            refine lv_iload hx hb dX1_nextTurn_116 (lv_at hl 2 rfl) ?_
            refine lv_icmp_ge (tgt := 137) hx hb dX1_nextTurn_118 (by decide) (fun c_8 => ?_) (fun c_8 => ?_)
            · have e_9 : (a115_0, a115_1, a115_2) = (L_X1_nextTurn_115 5 ((F_X1_nextTurn_4 cZ cTu (-1) 4) + 1) (cZ - 1) (g_X1_swap_cTu cTu (F_X1_nextTurn_4 cZ cTu (-1) 4) (F_X1_nextTurn_56 (F_X1_nextTurn_4 cZ cTu (-1) 4) cZ cTu (F_X1_nextTurn_4 cZ cTu (-1) 4) 5))) := by rw [← hv115_]; simp only [L_X1_nextTurn_115, if_pos c_8]
              have e_10 : a115_0 = (L_X1_nextTurn_115 5 ((F_X1_nextTurn_4 cZ cTu (-1) 4) + 1) (cZ - 1) (g_X1_swap_cTu cTu (F_X1_nextTurn_4 cZ cTu (-1) 4) (F_X1_nextTurn_56 (F_X1_nextTurn_4 cZ cTu (-1) 4) cZ cTu (F_X1_nextTurn_4 cZ cTu (-1) 4) 5))).1 := congrArg (fun z => z.1) e_9
              have e_11 : a115_1 = (L_X1_nextTurn_115 5 ((F_X1_nextTurn_4 cZ cTu (-1) 4) + 1) (cZ - 1) (g_X1_swap_cTu cTu (F_X1_nextTurn_4 cZ cTu (-1) 4) (F_X1_nextTurn_56 (F_X1_nextTurn_4 cZ cTu (-1) 4) cZ cTu (F_X1_nextTurn_4 cZ cTu (-1) 4) 5))).2.1 := congrArg (fun z => z.2.1) e_9
              have e_12 : a115_2 = (L_X1_nextTurn_115 5 ((F_X1_nextTurn_4 cZ cTu (-1) 4) + 1) (cZ - 1) (g_X1_swap_cTu cTu (F_X1_nextTurn_4 cZ cTu (-1) 4) (F_X1_nextTurn_56 (F_X1_nextTurn_4 cZ cTu (-1) 4) cZ cTu (F_X1_nextTurn_4 cZ cTu (-1) 4) 5))).2.2 := congrArg (fun z => z.2.2) e_9
              exact K115_ _ _ (by rw [← e_12]; exact hP) (by rw [← e_12]; exact hD) hS _ ((lv_sub hl [] rfl))
            refine lv_aload_n hx hb dX1_nextTurn_121 rfl (lv_at hl 0 rfl) ?_
            refine lv_iload_n hx hb dX1_nextTurn_122 rfl (lv_at hl 1 rfl) ?_
            refine lv_iload hx hb dX1_nextTurn_123 (lv_at hl 2 rfl) ?_
            refine rw_v0 (va_runV (As := [.int a115_0, .int a115_1]) (rest := []) ⟨hx, hb, hml, hown, hts⟩ (c_X1_swap l D cI cC cG c0 c1 c2 c3 c4 cZ cPe cTa a115_2 cBe a115_0 a115_1 H.size) (cwV 2 hts gX1_nextTurn_X1_swap rfl rfl rfl (by decide +kernel) ⟨Nat.le_of_ble_eq_true rfl, Nat.le_of_ble_eq_true rfl⟩) (q_preWV hK hP hD hN [0, 1, 2, 3, 4] (by decide) rfl rfl (ci := 1) (q0 := 0) rfl rfl) rfl rfl hl.1 rfl (lv_room (Nat.le_of_ble_eq_true rfl)) dX1_nextTurn_125 ⟨Nat.zero_le _, Nat.zero_le _⟩) hS hA hD (fun H locs hP hD hS => ?_)
            have hP : va_P D vwCl [(c0, .inr (1, [.ref c1, .ref c2, .ref c3, .ref c4, .int cZ])), (c1, .inl (cI, 5, .inl cPe)), (c2, .inl (cI, 5, .inl cTa)), (c3, .inl (cI, 5, .inl (g_X1_swap_cTu a115_2 a115_0 a115_1))), (c4, .inl (cI, 5, .inl cBe))] H := hP
            have hD : va_D (va_A (wC cI cC cG c0 c1 c2 c3 c4 cZ cPe cTa cTu cBe) sz) [(c0, .inr (1, [.ref c1, .ref c2, .ref c3, .ref c4, .int cZ])), (c1, .inl (cI, 5, .inl cPe)), (c2, .inl (cI, 5, .inl cTa)), (c3, .inl (cI, 5, .inl (g_X1_swap_cTu a115_2 a115_0 a115_1))), (c4, .inl (cI, 5, .inl cBe))] := hD
            refine lv_iinc (v := (a115_0 + 1)) (lv' := [(3, .int (a115_0 + 1)), (0, .ref c0), (4, .int a115_1)]) hx hb dX1_nextTurn_128 hl (k := 1) rfl rfl (by decide) rfl (fun ls hl => ?_)
            refine lv_iinc (v := (a115_1 + (-1))) (lv' := [(4, .int (a115_1 + (-1))), (3, .int (a115_0 + 1)), (0, .ref c0)]) hx hb dX1_nextTurn_131 hl (k := 2) rfl rfl (by decide) rfl (fun ls hl => ?_)
            refine lv_goto (tgt := 115) hx hb dX1_nextTurn_134 (by decide) ?_
            exact ih115_ (a115_0 + 1) (a115_1 + (-1)) (g_X1_swap_cTu a115_2 a115_0 a115_1) (sAB_s hj115_) (by rw [← hv115_]; simp only [L_X1_nextTurn_115, if_neg c_8]) _ _ hP hD hS _ (lv_sub hl [2, 1, 0] rfl)
        exact loop115_ 5 ((F_X1_nextTurn_4 cZ cTu (-1) 4) + 1) (cZ - 1) (g_X1_swap_cTu cTu (F_X1_nextTurn_4 cZ cTu (-1) 4) (F_X1_nextTurn_56 (F_X1_nextTurn_4 cZ cTu (-1) 4) cZ cTu (F_X1_nextTurn_4 cZ cTu (-1) 4) 5)) (sAB_i (in_low 4 (by decide) (by assumption)) hcZ) rfl _ _ hP hD hS _ (lv_sub hl [2, 1, 0] rfl)
      have loop56_ : ∀ (n56_ j56_ : Nat), j56_ + n56_ = 5 → ∀ (H : Heap) (locs : List Loc), va_P D vwCl [(c0, .inr (1, [.ref c1, .ref c2, .ref c3, .ref c4, .int cZ])), (c1, .inl (cI, 5, .inl cPe)), (c2, .inl (cI, 5, .inl cTa)), (c3, .inl (cI, 5, .inl cTu)), (c4, .inl (cI, 5, .inl cBe))] H → va_D (va_A (wC cI cC cG c0 c1 c2 c3 c4 cZ cPe cTa cTu cBe) sz) [(c0, .inr (1, [.ref c1, .ref c2, .ref c3, .ref c4, .int cZ])), (c1, .inl (cI, 5, .inl cPe)), (c2, .inl (cI, 5, .inl cTa)), (c3, .inl (cI, 5, .inl cTu)), (c4, .inl (cI, 5, .inl cBe))] → va_S (va_A (wC cI cC cG c0 c1 c2 c3 c4 cZ cPe cTa cTu cBe) sz) s.heap H locs → ∀ ls : Array Slot, lv_has ls 5 [(0, .ref c0), (1, .int (F_X1_nextTurn_4 cZ cTu (-1) 4)), (2, .int (F_X1_nextTurn_56 (F_X1_nextTurn_4 cZ cTu (-1) 4) cZ cTu (F_X1_nextTurn_4 cZ cTu (-1) 4) j56_)), (3, .int (nI j56_))] → W p l e rm_X1_nextTurn s m ([.ref c0] : List Value).toArray below meth c H locs 0 0 (MQ below (q_QWi D (wC cI cC cG c0 c1 c2 c3 c4 cZ cPe cTa cTu cBe) (wC cI cC cG c0 c1 c2 c3 c4 cZ cPe cTa (g_X1_nextTurn_cTu cZ cTu) cBe) sz (f_X1_nextTurn cZ cTu)) ([.ref c0] : List Value).toArray s 0 0 (va_A (wC cI cC cG c0 c1 c2 c3 c4 cZ cPe cTa cTu cBe) sz)) (F0 m 56 ls []) := by
        intro n56_
        induction n56_ with
        | zero =>
          intro j56_ hj56_ H locs hP hD hS ls hl
          obtain rfl : j56_ = 5 := by omega
          refine lv_iload_n hx hb dX1_nextTurn_56 rfl (lv_at hl 3 rfl) ?_
          refine lv_iconst (v := 5) hx hb dX1_nextTurn_57 (by decide) ?_
          refine lv_icmp_ge (tgt := 97) hx hb dX1_nextTurn_58 (by decide) (fun c_13 => ?_) (fun c_13 => ?_)
          rotate_left
          · exact absurd (nI_le (Nat.le_refl 5) (by decide)) c_13
          exact K56_ _ _ hP hD hS _ (lv_sub hl [0, 1, 2] rfl)
        | succ n56_ ih56_ =>
          intro j56_ hj56_ H locs hP hD hS ls hl
          refine lv_iload_n hx hb dX1_nextTurn_56 rfl (lv_at hl 3 rfl) ?_
          refine lv_iconst (v := 5) hx hb dX1_nextTurn_57 (by decide) ?_
          refine lv_icmp_ge (tgt := 97) hx hb dX1_nextTurn_58 (by decide) (fun c_14 => ?_) (fun c_14 => ?_)
          · exact absurd c_14 (nI_ge (b := 5) (by omega) (by decide))
          refine lv_iload_n hx hb dX1_nextTurn_61 rfl (lv_at hl 3 rfl) ?_
          refine lv_iload_n hx hb dX1_nextTurn_62 rfl (lv_at hl 1 rfl) ?_
          refine lv_icmp_le (tgt := 91) hx hb dX1_nextTurn_63 (by decide) (fun c_15 => ?_) (fun c_15 => ?_)
          · refine lv_iinc (v := (nI (j56_ + 1))) (lv' := [(3, .int (nI (j56_ + 1))), (0, .ref c0), (1, .int (F_X1_nextTurn_4 cZ cTu (-1) 4)), (2, .int (F_X1_nextTurn_56 (F_X1_nextTurn_4 cZ cTu (-1) 4) cZ cTu (F_X1_nextTurn_4 cZ cTu (-1) 4) j56_))]) hx hb dX1_nextTurn_91 hl (k := 3) rfl (nI_1 _) (by decide) rfl (fun ls hl => ?_)
            refine lv_goto (tgt := 56) hx hb dX1_nextTurn_94 (by decide) ?_
            have e_16 : (F_X1_nextTurn_56 (F_X1_nextTurn_4 cZ cTu (-1) 4) cZ cTu (F_X1_nextTurn_4 cZ cTu (-1) 4) (j56_ + 1)) = (F_X1_nextTurn_56 (F_X1_nextTurn_4 cZ cTu (-1) 4) cZ cTu (F_X1_nextTurn_4 cZ cTu (-1) 4) j56_) := by simp only [F_X1_nextTurn_56, if_pos c_15]
            exact ih56_ (j56_ + 1) (by omega) _ _ hP hD hS _ (by rw [e_16]; exact (lv_sub hl [1, 2, 3, 0] rfl))
          refine lv_iload_n hx hb dX1_nextTurn_66 rfl (lv_at hl 3 rfl) ?_
          refine lv_aload_n hx hb dX1_nextTurn_67 rfl (lv_at hl 0 rfl) ?_
          refine va_get (D := D) (ci := 1) (v := .int cZ) (C := RX1) (T := TX1) (N := 5) hx hb hts hinX1 hown hK hP 0 rfl rfl 4 (by decide) hf24 (fun _ h9 => h9) rfl dX1_nextTurn_68 ?_
          refine lv_icmp_ge (tgt := 91) hx hb dX1_nextTurn_71 (by decide) (fun c_17 => ?_) (fun c_17 => ?_)
          · refine lv_iinc (v := (nI (j56_ + 1))) (lv' := [(3, .int (nI (j56_ + 1))), (0, .ref c0), (1, .int (F_X1_nextTurn_4 cZ cTu (-1) 4)), (2, .int (F_X1_nextTurn_56 (F_X1_nextTurn_4 cZ cTu (-1) 4) cZ cTu (F_X1_nextTurn_4 cZ cTu (-1) 4) j56_))]) hx hb dX1_nextTurn_91 hl (k := 3) rfl (nI_1 _) (by decide) rfl (fun ls hl => ?_)
            refine lv_goto (tgt := 56) hx hb dX1_nextTurn_94 (by decide) ?_
            have e_18 : (F_X1_nextTurn_56 (F_X1_nextTurn_4 cZ cTu (-1) 4) cZ cTu (F_X1_nextTurn_4 cZ cTu (-1) 4) (j56_ + 1)) = (F_X1_nextTurn_56 (F_X1_nextTurn_4 cZ cTu (-1) 4) cZ cTu (F_X1_nextTurn_4 cZ cTu (-1) 4) j56_) := by simp only [F_X1_nextTurn_56, if_neg c_15, if_pos c_17]
            exact ih56_ (j56_ + 1) (by omega) _ _ hP hD hS _ (by rw [e_18]; exact (lv_sub hl [1, 2, 3, 0] rfl))
          refine lv_aload_n hx hb dX1_nextTurn_74 rfl (lv_at hl 0 rfl) ?_
          refine va_get (D := D) (ci := 1) (v := .ref c3) (C := RX1) (T := TX1) (N := 5) hx hb hts hinX1 hown hK hP 0 rfl rfl 2 (by decide) hf18 (fun _ h9 => h9) rfl dX1_nextTurn_75 ?_
          refine lv_iload_n hx hb dX1_nextTurn_78 rfl (lv_at hl 3 rfl) ?_
          refine q_iald hx hb hK hP 3 0 rfl rfl (vp_in_nI (by omega) (by decide)) j56_ (nI_clamp (by omega)) dX1_nextTurn_79 ?_
          refine lv_aload_n hx hb dX1_nextTurn_80 rfl (lv_at hl 0 rfl) ?_
          refine va_get (D := D) (ci := 1) (v := .ref c3) (C := RX1) (T := TX1) (N := 5) hx hb hts hinX1 hown hK hP 0 rfl rfl 2 (by decide) hf18 (fun _ h9 => h9) rfl dX1_nextTurn_81 ?_
          refine lv_iload_n hx hb dX1_nextTurn_84 rfl (lv_at hl 1 rfl) ?_
          refine q_iald hx hb hK hP 3 0 rfl rfl (in_low 4 (by decide) (by assumption)) (Int32.toNatClampNeg (F_X1_nextTurn_4 cZ cTu (-1) 4)) rfl dX1_nextTurn_85 ?_
          refine lv_icmp_le (tgt := 91) hx hb dX1_nextTurn_86 (by decide) (fun c_19 => ?_) (fun c_19 => ?_)
          · refine lv_iinc (v := (nI (j56_ + 1))) (lv' := [(3, .int (nI (j56_ + 1))), (0, .ref c0), (1, .int (F_X1_nextTurn_4 cZ cTu (-1) 4)), (2, .int (F_X1_nextTurn_56 (F_X1_nextTurn_4 cZ cTu (-1) 4) cZ cTu (F_X1_nextTurn_4 cZ cTu (-1) 4) j56_))]) hx hb dX1_nextTurn_91 hl (k := 3) rfl (nI_1 _) (by decide) rfl (fun ls hl => ?_)
            refine lv_goto (tgt := 56) hx hb dX1_nextTurn_94 (by decide) ?_
            have e_20 : (F_X1_nextTurn_56 (F_X1_nextTurn_4 cZ cTu (-1) 4) cZ cTu (F_X1_nextTurn_4 cZ cTu (-1) 4) (j56_ + 1)) = (F_X1_nextTurn_56 (F_X1_nextTurn_4 cZ cTu (-1) 4) cZ cTu (F_X1_nextTurn_4 cZ cTu (-1) 4) j56_) := by simp only [F_X1_nextTurn_56, if_neg c_15, if_neg c_17, if_pos c_19]
            exact ih56_ (j56_ + 1) (by omega) _ _ hP hD hS _ (by rw [e_20]; exact (lv_sub hl [1, 2, 3, 0] rfl))
          refine lv_iload_n hx hb dX1_nextTurn_89 rfl (lv_at hl 3 rfl) ?_
          refine lv_istore_n (lv' := [(2, .int (nI j56_)), (0, .ref c0), (1, .int (F_X1_nextTurn_4 cZ cTu (-1) 4)), (3, .int (nI j56_))]) hx hb dX1_nextTurn_90 rfl hl (by decide) rfl (fun ls hl => ?_)
          refine lv_iinc (v := (nI (j56_ + 1))) (lv' := [(3, .int (nI (j56_ + 1))), (2, .int (nI j56_)), (0, .ref c0), (1, .int (F_X1_nextTurn_4 cZ cTu (-1) 4))]) hx hb dX1_nextTurn_91 hl (k := 3) rfl (nI_1 _) (by decide) rfl (fun ls hl => ?_)
          refine lv_goto (tgt := 56) hx hb dX1_nextTurn_94 (by decide) ?_
          have e_21 : (F_X1_nextTurn_56 (F_X1_nextTurn_4 cZ cTu (-1) 4) cZ cTu (F_X1_nextTurn_4 cZ cTu (-1) 4) (j56_ + 1)) = (nI j56_) := by simp only [F_X1_nextTurn_56, if_neg c_15, if_neg c_17, if_neg c_19]
          exact ih56_ (j56_ + 1) (by omega) _ _ hP hD hS _ (by rw [e_21]; exact (lv_sub hl [2, 3, 1, 0] rfl))
      exact loop56_ 5 0 (by omega) _ _ hP hD hS _ (lv_sub hl [2, 3, 1, 0] rfl)
    refine lv_iconst (v := 0) hx hb dX1_nextTurn_50 (by decide) ?_
    have e_22 : (g_X1_nextTurn_cTu cZ cTu) = cTu := by simp only [g_X1_nextTurn_cTu, if_neg c_1]
    exact rw_zret hx hb hr (by rfl) hlocks hP hD hS (by simp only [f_X1_nextTurn, if_neg c_1]) (by rw [e_22]) dX1_nextTurn_51
  have loop4_ : ∀ (n4_ j4_ : Nat), j4_ + n4_ = 4 → ∀ (H : Heap) (locs : List Loc), va_P D vwCl [(c0, .inr (1, [.ref c1, .ref c2, .ref c3, .ref c4, .int cZ])), (c1, .inl (cI, 5, .inl cPe)), (c2, .inl (cI, 5, .inl cTa)), (c3, .inl (cI, 5, .inl cTu)), (c4, .inl (cI, 5, .inl cBe))] H → va_D (va_A (wC cI cC cG c0 c1 c2 c3 c4 cZ cPe cTa cTu cBe) sz) [(c0, .inr (1, [.ref c1, .ref c2, .ref c3, .ref c4, .int cZ])), (c1, .inl (cI, 5, .inl cPe)), (c2, .inl (cI, 5, .inl cTa)), (c3, .inl (cI, 5, .inl cTu)), (c4, .inl (cI, 5, .inl cBe))] → va_S (va_A (wC cI cC cG c0 c1 c2 c3 c4 cZ cPe cTa cTu cBe) sz) s.heap H locs → ∀ ls : Array Slot, lv_has ls 5 [(0, .ref c0), (1, .int (F_X1_nextTurn_4 cZ cTu (-1) j4_)), (2, .int (nI j4_))] → W p l e rm_X1_nextTurn s m ([.ref c0] : List Value).toArray below meth c H locs 0 0 (MQ below (q_QWi D (wC cI cC cG c0 c1 c2 c3 c4 cZ cPe cTa cTu cBe) (wC cI cC cG c0 c1 c2 c3 c4 cZ cPe cTa (g_X1_nextTurn_cTu cZ cTu) cBe) sz (f_X1_nextTurn cZ cTu)) ([.ref c0] : List Value).toArray s 0 0 (va_A (wC cI cC cG c0 c1 c2 c3 c4 cZ cPe cTa cTu cBe) sz)) (F0 m 4 ls []) := by
    intro n4_
    induction n4_ with
    | zero =>
      intro j4_ hj4_ H locs hP hD hS ls hl
      obtain rfl : j4_ = 4 := by omega
      refine lv_iload_n hx hb dX1_nextTurn_4 rfl (lv_at hl 2 rfl) ?_
      refine lv_iconst (v := 1) hx hb dX1_nextTurn_5 (by decide) ?_
      refine lv_iadd hx hb dX1_nextTurn_6 ?_
      refine lv_iconst (v := 5) hx hb dX1_nextTurn_7 (by decide) ?_
      refine lv_icmp_ge (tgt := 46) hx hb dX1_nextTurn_8 (by decide) (fun c_23 => ?_) (fun c_23 => ?_)
      rotate_left
      · exact absurd (by decide) c_23
      exact K4_ _ _ hP hD hS _ (lv_sub hl [0, 1] rfl)
    | succ n4_ ih4_ =>
      intro j4_ hj4_ H locs hP hD hS ls hl
      refine lv_iload_n hx hb dX1_nextTurn_4 rfl (lv_at hl 2 rfl) ?_
      refine lv_iconst (v := 1) hx hb dX1_nextTurn_5 (by decide) ?_
      refine lv_iadd hx hb dX1_nextTurn_6 ?_
      refine lv_iconst (v := 5) hx hb dX1_nextTurn_7 (by decide) ?_
      refine lv_icmp_ge (tgt := 46) hx hb dX1_nextTurn_8 (by decide) (fun c_24 => ?_) (fun c_24 => ?_)
      · exact absurd c_24 (by rw [nI_1]; exact nI_ge (b := 5) (by omega) (by decide))
      refine lv_iload_n hx hb dX1_nextTurn_11 rfl (lv_at hl 2 rfl) ?_
      refine lv_iconst (v := 1) hx hb dX1_nextTurn_12 (by decide) ?_
      refine lv_iadd hx hb dX1_nextTurn_13 ?_
      refine lv_aload_n hx hb dX1_nextTurn_14 rfl (lv_at hl 0 rfl) ?_
      refine va_get (D := D) (ci := 1) (v := .int cZ) (C := RX1) (T := TX1) (N := 5) hx hb hts hinX1 hown hK hP 0 rfl rfl 4 (by decide) hf24 (fun _ h9 => h9) rfl dX1_nextTurn_15 ?_
      refine lv_icmp_ge (tgt := 40) hx hb dX1_nextTurn_18 (by decide) (fun c_25 => ?_) (fun c_25 => ?_)
      · refine lv_iinc (v := (nI (j4_ + 1))) (lv' := [(2, .int (nI (j4_ + 1))), (0, .ref c0), (1, .int (F_X1_nextTurn_4 cZ cTu (-1) j4_))]) hx hb dX1_nextTurn_40 hl (k := 2) rfl (nI_1 _) (by decide) rfl (fun ls hl => ?_)
        refine lv_goto (tgt := 4) hx hb dX1_nextTurn_43 (by decide) ?_
        have e_26 : (F_X1_nextTurn_4 cZ cTu (-1) (j4_ + 1)) = (F_X1_nextTurn_4 cZ cTu (-1) j4_) := by simp only [F_X1_nextTurn_4, if_pos c_25]
        exact ih4_ (j4_ + 1) (by omega) _ _ hP hD hS _ (by rw [e_26]; exact (lv_sub hl [1, 2, 0] rfl))
      refine lv_aload_n hx hb dX1_nextTurn_21 rfl (lv_at hl 0 rfl) ?_
      refine va_get (D := D) (ci := 1) (v := .ref c3) (C := RX1) (T := TX1) (N := 5) hx hb hts hinX1 hown hK hP 0 rfl rfl 2 (by decide) hf18 (fun _ h9 => h9) rfl dX1_nextTurn_22 ?_
      refine lv_iload_n hx hb dX1_nextTurn_25 rfl (lv_at hl 2 rfl) ?_
      refine q_iald hx hb hK hP 3 0 rfl rfl (vp_in_nI (by omega) (by decide)) j4_ (nI_clamp (by omega)) dX1_nextTurn_26 ?_
      refine lv_aload_n hx hb dX1_nextTurn_27 rfl (lv_at hl 0 rfl) ?_
      refine va_get (D := D) (ci := 1) (v := .ref c3) (C := RX1) (T := TX1) (N := 5) hx hb hts hinX1 hown hK hP 0 rfl rfl 2 (by decide) hf18 (fun _ h9 => h9) rfl dX1_nextTurn_28 ?_
      refine lv_iload_n hx hb dX1_nextTurn_31 rfl (lv_at hl 2 rfl) ?_
      refine lv_iconst (v := 1) hx hb dX1_nextTurn_32 (by decide) ?_
      refine lv_iadd hx hb dX1_nextTurn_33 ?_
      refine q_iald hx hb hK hP 3 0 rfl rfl (k_addr 1 (by omega) (by decide)) (j4_ + 1) (k_addd 1 (by omega)) dX1_nextTurn_34 ?_
      refine lv_icmp_ge (tgt := 40) hx hb dX1_nextTurn_35 (by decide) (fun c_27 => ?_) (fun c_27 => ?_)
      · refine lv_iinc (v := (nI (j4_ + 1))) (lv' := [(2, .int (nI (j4_ + 1))), (0, .ref c0), (1, .int (F_X1_nextTurn_4 cZ cTu (-1) j4_))]) hx hb dX1_nextTurn_40 hl (k := 2) rfl (nI_1 _) (by decide) rfl (fun ls hl => ?_)
        refine lv_goto (tgt := 4) hx hb dX1_nextTurn_43 (by decide) ?_
        have e_28 : (F_X1_nextTurn_4 cZ cTu (-1) (j4_ + 1)) = (F_X1_nextTurn_4 cZ cTu (-1) j4_) := by simp only [F_X1_nextTurn_4, if_neg c_25, if_pos c_27]
        exact ih4_ (j4_ + 1) (by omega) _ _ hP hD hS _ (by rw [e_28]; exact (lv_sub hl [1, 2, 0] rfl))
      refine lv_iload_n hx hb dX1_nextTurn_38 rfl (lv_at hl 2 rfl) ?_
      refine lv_istore_n (lv' := [(1, .int (nI j4_)), (0, .ref c0), (2, .int (nI j4_))]) hx hb dX1_nextTurn_39 rfl hl (by decide) rfl (fun ls hl => ?_)
      refine lv_iinc (v := (nI (j4_ + 1))) (lv' := [(2, .int (nI (j4_ + 1))), (1, .int (nI j4_)), (0, .ref c0)]) hx hb dX1_nextTurn_40 hl (k := 2) rfl (nI_1 _) (by decide) rfl (fun ls hl => ?_)
      refine lv_goto (tgt := 4) hx hb dX1_nextTurn_43 (by decide) ?_
      have e_29 : (F_X1_nextTurn_4 cZ cTu (-1) (j4_ + 1)) = (nI j4_) := by simp only [F_X1_nextTurn_4, if_neg c_25, if_neg c_27]
      exact ih4_ (j4_ + 1) (by omega) _ _ hP hD hS _ (by rw [e_29]; exact (lv_sub hl [2, 1, 0] rfl))
  exact loop4_ 4 0 (by omega) _ _ hP hD hS _ (lv_sub hl [2, 1, 0] rfl)
def F_X1_findBest_2 (i0_ : Nat → Int32) : Nat → (Nat → Int32)
  | 0 => i0_
  | j2_ + 1 => (upd (F_X1_findBest_2 i0_ j2_) j2_ (nI j2_))
def L_X1_findBest_29 (cZ : Int32) (cPe : Nat → Int32) (cTa : Nat → Int32) (orow : Nat → Int32) (vP : Int32) (vS : Int32) (vD : Int32) (vKi : Nat → Int32) (vOw : Nat → Int32) : Nat → Nat → Int32 → Int32 → (Nat → Int32) → (Nat → Int32) → (Nat → Int32) → Int32 × Int32 × (Nat → Int32) × (Nat → Int32) × (Nat → Int32)
  | 0, j29_, a0_, a1_, a2_, a3_, a4_ => (a0_, a1_, a2_, a3_, a4_)
  | n29_ + 1, j29_, a0_, a1_, a2_, a3_, a4_ => (if a1_ = 0 then (a0_, a1_, a2_, a3_, a4_) else (if a0_ ≤ ((f_X6_agesTogether (g_X1_hear_row cZ cPe cTa a2_ (g_X6_copy_row a4_ orow) vP vS vD vKi vOw) vP) - (f_X6_agesTogether orow vP)) then L_X1_findBest_29 cZ cPe cTa orow vP vS vD vKi vOw n29_ (j29_ + 1) a0_ (f_X1_nextTurn cZ a2_) (g_X1_nextTurn_cTu cZ a2_) a3_ (g_X1_hear_row cZ cPe cTa a2_ (g_X6_copy_row a4_ orow) vP vS vD vKi vOw) else L_X1_findBest_29 cZ cPe cTa orow vP vS vD vKi vOw n29_ (j29_ + 1) ((f_X6_agesTogether (g_X1_hear_row cZ cPe cTa a2_ (g_X6_copy_row a4_ orow) vP vS vD vKi vOw) vP) - (f_X6_agesTogether orow vP)) (f_X1_nextTurn cZ a2_) (g_X1_nextTurn_cTu cZ a2_) (va_cpy a2_ a3_ 0 0 5) (g_X1_hear_row cZ cPe cTa a2_ (g_X6_copy_row a4_ orow) vP vS vD vKi vOw)))
def f_X1_findBest (cZ : Int32) (cPe : Nat → Int32) (cTa : Nat → Int32) (cTu : Nat → Int32) (cBe : Nat → Int32) (orow : Nat → Int32) (row : Nat → Int32) (vP : Int32) (vS : Int32) (vD : Int32) (vKi : Nat → Int32) (vOw : Nat → Int32) : Int32 := (L_X1_findBest_29 cZ cPe cTa orow vP vS vD vKi vOw 120 0 1000000 1 (F_X1_findBest_2 cTu 5) cBe row).1
def g_X1_findBest_cTu (cZ : Int32) (cPe : Nat → Int32) (cTa : Nat → Int32) (cTu : Nat → Int32) (cBe : Nat → Int32) (orow : Nat → Int32) (row : Nat → Int32) (vP : Int32) (vS : Int32) (vD : Int32) (vKi : Nat → Int32) (vOw : Nat → Int32) : Nat → Int32 := (L_X1_findBest_29 cZ cPe cTa orow vP vS vD vKi vOw 120 0 1000000 1 (F_X1_findBest_2 cTu 5) cBe row).2.2.1
def g_X1_findBest_cBe (cZ : Int32) (cPe : Nat → Int32) (cTa : Nat → Int32) (cTu : Nat → Int32) (cBe : Nat → Int32) (orow : Nat → Int32) (row : Nat → Int32) (vP : Int32) (vS : Int32) (vD : Int32) (vKi : Nat → Int32) (vOw : Nat → Int32) : Nat → Int32 := (L_X1_findBest_29 cZ cPe cTa orow vP vS vD vKi vOw 120 0 1000000 1 (F_X1_findBest_2 cTu 5) cBe row).2.2.2.1
def g_X1_findBest_row (cZ : Int32) (cPe : Nat → Int32) (cTa : Nat → Int32) (cTu : Nat → Int32) (cBe : Nat → Int32) (orow : Nat → Int32) (row : Nat → Int32) (vP : Int32) (vS : Int32) (vD : Int32) (vKi : Nat → Int32) (vOw : Nat → Int32) : Nat → Int32 := (L_X1_findBest_29 cZ cPe cTa orow vP vS vD vKi vOw 120 0 1000000 1 (F_X1_findBest_2 cTu 5) cBe row).2.2.2.2
abbrev rm_X1_findBest : Room := { frames := 5, cells := 0, slots := 0, locals := 116 }
set_option maxRecDepth 100000 in
set_option maxHeartbeats 4000000 in
theorem c_X1_findBest (l : Launch) (D : va_G) (cI cC cG : ClassId) (c0 : Nat) (c1 : Nat) (c2 : Nat) (c3 : Nat) (c4 : Nat) (o0 : Nat) (o1 : Nat) (s0 : Nat) (s1 : Nat) (v0 : Nat) (v1 : Nat) (v2 : Nat) (v3 : Nat) (v4 : Nat) (v5 : Nat) (cZ : Int32) (cPe : Nat → Int32) (cTa : Nat → Int32) (cTu : Nat → Int32) (cBe : Nat → Int32) (orow : Nat → Int32) (row : Nat → Int32) (vP : Int32) (vS : Int32) (vD : Int32) (vAg : Nat → Int32) (vKi : Nat → Int32) (vMe : Nat → Int32) (vOw : Nat → Int32) (vFk : Nat → Int32) (sz : Nat) (hcZ : ∃ k, k ≤ 5 ∧ cZ = nI k) : RwI l yX1_findBest wsX1_findBest rm_X1_findBest D (q_t cI cC cG) (wCss cI cC cG c0 c1 c2 c3 c4 o0 o1 s0 s1 v0 v1 v2 v3 v4 v5 cZ cPe cTa cTu cBe orow row vP vS vD vAg vKi vMe vOw vFk) (wCss cI cC cG c0 c1 c2 c3 c4 o0 o1 s0 s1 v0 v1 v2 v3 v4 v5 cZ cPe cTa (g_X1_findBest_cTu cZ cPe cTa cTu cBe orow row vP vS vD vKi vOw) (g_X1_findBest_cBe cZ cPe cTa cTu cBe orow row vP vS vD vKi vOw) orow (g_X1_findBest_row cZ cPe cTa cTu cBe orow row vP vS vD vKi vOw) vP vS vD vAg vKi vMe vOw vFk) sz [.ref c0, .ref o0, .ref s0] (f_X1_findBest cZ cPe cTa cTu cBe orow row vP vS vD vKi vOw) := by
  refine rw_enter (cc := cX1_findBest) (maxL := 7) (ret := (some .int)) (by decide) rfl (Nat.le_of_ble_eq_true rfl) ?_
  intro p e s m below meth c ls B hP hK hD hS hA hl
  obtain ⟨hx, hb, hr, hlocks, hml, hown, hts, hN⟩ := B
  have hown : s.vm.findClass RX1 = some m.cls := hown
  have hl : lv_has ls 7 [(0, .ref c0), (1, .ref o0), (2, .ref s0)] := hl
  have hc28 := hts (.constant RX1 28 (1000000)) (by decide +kernel)
  have hf18 := hts (.fieldLink RX1 18 "OlderByABlush$Court" "turn" "[I") (by decide +kernel)
  have hinX1 : ∀ w ∈ u_ws RX1 TX1 5, w ∈ wsX1_findBest := by decide +kernel
  have hf21 := hts (.fieldLink RX1 21 "OlderByABlush$Court" "best" "[I") (by decide +kernel)
  have hac42 := hts (.methodLink RX1 42 arraycopyName) (by decide +kernel)
  have hacn := hts (.native arraycopyName) (by decide +kernel)
  have hacs := hts (.static arraycopyName) (by decide +kernel)
  have haci := hts (.initialized "java/lang/System") (by decide +kernel)
  refine lv_iconst (v := 0) hx hb dX1_findBest_0 (by decide) ?_
  refine lv_istore_n (lv' := [(3, .int 0), (0, .ref c0), (1, .ref o0), (2, .ref s0)]) hx hb dX1_findBest_1 rfl hl (by decide) rfl (fun ls hl => ?_)
  have K2_ : ∀ (H : Heap) (locs : List Loc), va_P D vwCl [(c0, .inr (1, [.ref c1, .ref c2, .ref c3, .ref c4, .int cZ])), (c1, .inl (cI, 5, .inl cPe)), (c2, .inl (cI, 5, .inl cTa)), (c3, .inl (cI, 5, .inl (F_X1_findBest_2 cTu 5))), (c4, .inl (cI, 5, .inl cBe)), (o0, .inr (6, [.ref v0, .ref o1])), (o1, .inl (cI, 15, .inl orow)), (s0, .inr (6, [.ref v0, .ref s1])), (s1, .inl (cI, 15, .inl row)), (v0, .inr (7, [.ref v1, .ref v2, .ref v3, .ref v4, .ref v5, .int vP, .int vS, .int vD])), (v1, .inl (cI, 6, .inl vAg)), (v2, .inl (cI, 6, .inl vKi)), (v3, .inl (cI, 6, .inl vMe)), (v4, .inl (cI, 8, .inl vOw)), (v5, .inl (cI, 8, .inl vFk))] H → va_D (va_A (wCss cI cC cG c0 c1 c2 c3 c4 o0 o1 s0 s1 v0 v1 v2 v3 v4 v5 cZ cPe cTa cTu cBe orow row vP vS vD vAg vKi vMe vOw vFk) sz) [(c0, .inr (1, [.ref c1, .ref c2, .ref c3, .ref c4, .int cZ])), (c1, .inl (cI, 5, .inl cPe)), (c2, .inl (cI, 5, .inl cTa)), (c3, .inl (cI, 5, .inl (F_X1_findBest_2 cTu 5))), (c4, .inl (cI, 5, .inl cBe)), (o0, .inr (6, [.ref v0, .ref o1])), (o1, .inl (cI, 15, .inl orow)), (s0, .inr (6, [.ref v0, .ref s1])), (s1, .inl (cI, 15, .inl row)), (v0, .inr (7, [.ref v1, .ref v2, .ref v3, .ref v4, .ref v5, .int vP, .int vS, .int vD])), (v1, .inl (cI, 6, .inl vAg)), (v2, .inl (cI, 6, .inl vKi)), (v3, .inl (cI, 6, .inl vMe)), (v4, .inl (cI, 8, .inl vOw)), (v5, .inl (cI, 8, .inl vFk))] → va_S (va_A (wCss cI cC cG c0 c1 c2 c3 c4 o0 o1 s0 s1 v0 v1 v2 v3 v4 v5 cZ cPe cTa cTu cBe orow row vP vS vD vAg vKi vMe vOw vFk) sz) s.heap H locs → ∀ ls : Array Slot, lv_has ls 7 [(0, .ref c0), (1, .ref o0), (2, .ref s0)] → W p l e rm_X1_findBest s m ([.ref c0, .ref o0, .ref s0] : List Value).toArray below meth c H locs 0 0 (MQ below (q_QWi D (wCss cI cC cG c0 c1 c2 c3 c4 o0 o1 s0 s1 v0 v1 v2 v3 v4 v5 cZ cPe cTa cTu cBe orow row vP vS vD vAg vKi vMe vOw vFk) (wCss cI cC cG c0 c1 c2 c3 c4 o0 o1 s0 s1 v0 v1 v2 v3 v4 v5 cZ cPe cTa (g_X1_findBest_cTu cZ cPe cTa cTu cBe orow row vP vS vD vKi vOw) (g_X1_findBest_cBe cZ cPe cTa cTu cBe orow row vP vS vD vKi vOw) orow (g_X1_findBest_row cZ cPe cTa cTu cBe orow row vP vS vD vKi vOw) vP vS vD vAg vKi vMe vOw vFk) sz (f_X1_findBest cZ cPe cTa cTu cBe orow row vP vS vD vKi vOw)) ([.ref c0, .ref o0, .ref s0] : List Value).toArray s 0 0 (va_A (wCss cI cC cG c0 c1 c2 c3 c4 o0 o1 s0 s1 v0 v1 v2 v3 v4 v5 cZ cPe cTa cTu cBe orow row vP vS vD vAg vKi vMe vOw vFk) sz)) (F0 m 20 ls []) := by
    intro H locs hP hD hS ls hl
    refine lv_ldc hx hb hown hc28 dX1_findBest_20 ?_
    refine lv_istore_n (lv' := [(3, .int 1000000), (0, .ref c0), (1, .ref o0), (2, .ref s0)]) hx hb dX1_findBest_22 rfl hl (by decide) rfl (fun ls hl => ?_)
    refine lv_iconst (v := 1) hx hb dX1_findBest_23 (by decide) ?_
    refine lv_istore (lv' := [(4, .int 1), (3, .int 1000000), (0, .ref c0), (1, .ref o0), (2, .ref s0)]) hx hb dX1_findBest_24 hl (by decide) rfl (fun ls hl => ?_)
    refine lv_iconst (v := 0) hx hb dX1_findBest_26 (by decide) ?_
    refine lv_istore (lv' := [(5, .int 0), (4, .int 1), (3, .int 1000000), (0, .ref c0), (1, .ref o0), (2, .ref s0)]) hx hb dX1_findBest_27 hl (by decide) rfl (fun ls hl => ?_)
    have K29_ : ∀ (H : Heap) (locs : List Loc), va_P D vwCl [(c0, .inr (1, [.ref c1, .ref c2, .ref c3, .ref c4, .int cZ])), (c1, .inl (cI, 5, .inl cPe)), (c2, .inl (cI, 5, .inl cTa)), (c3, .inl (cI, 5, .inl ((L_X1_findBest_29 cZ cPe cTa orow vP vS vD vKi vOw 120 0 1000000 1 (F_X1_findBest_2 cTu 5) cBe row).2.2.1))), (c4, .inl (cI, 5, .inl ((L_X1_findBest_29 cZ cPe cTa orow vP vS vD vKi vOw 120 0 1000000 1 (F_X1_findBest_2 cTu 5) cBe row).2.2.2.1))), (o0, .inr (6, [.ref v0, .ref o1])), (o1, .inl (cI, 15, .inl orow)), (s0, .inr (6, [.ref v0, .ref s1])), (s1, .inl (cI, 15, .inl ((L_X1_findBest_29 cZ cPe cTa orow vP vS vD vKi vOw 120 0 1000000 1 (F_X1_findBest_2 cTu 5) cBe row).2.2.2.2))), (v0, .inr (7, [.ref v1, .ref v2, .ref v3, .ref v4, .ref v5, .int vP, .int vS, .int vD])), (v1, .inl (cI, 6, .inl vAg)), (v2, .inl (cI, 6, .inl vKi)), (v3, .inl (cI, 6, .inl vMe)), (v4, .inl (cI, 8, .inl vOw)), (v5, .inl (cI, 8, .inl vFk))] H → va_D (va_A (wCss cI cC cG c0 c1 c2 c3 c4 o0 o1 s0 s1 v0 v1 v2 v3 v4 v5 cZ cPe cTa cTu cBe orow row vP vS vD vAg vKi vMe vOw vFk) sz) [(c0, .inr (1, [.ref c1, .ref c2, .ref c3, .ref c4, .int cZ])), (c1, .inl (cI, 5, .inl cPe)), (c2, .inl (cI, 5, .inl cTa)), (c3, .inl (cI, 5, .inl ((L_X1_findBest_29 cZ cPe cTa orow vP vS vD vKi vOw 120 0 1000000 1 (F_X1_findBest_2 cTu 5) cBe row).2.2.1))), (c4, .inl (cI, 5, .inl ((L_X1_findBest_29 cZ cPe cTa orow vP vS vD vKi vOw 120 0 1000000 1 (F_X1_findBest_2 cTu 5) cBe row).2.2.2.1))), (o0, .inr (6, [.ref v0, .ref o1])), (o1, .inl (cI, 15, .inl orow)), (s0, .inr (6, [.ref v0, .ref s1])), (s1, .inl (cI, 15, .inl ((L_X1_findBest_29 cZ cPe cTa orow vP vS vD vKi vOw 120 0 1000000 1 (F_X1_findBest_2 cTu 5) cBe row).2.2.2.2))), (v0, .inr (7, [.ref v1, .ref v2, .ref v3, .ref v4, .ref v5, .int vP, .int vS, .int vD])), (v1, .inl (cI, 6, .inl vAg)), (v2, .inl (cI, 6, .inl vKi)), (v3, .inl (cI, 6, .inl vMe)), (v4, .inl (cI, 8, .inl vOw)), (v5, .inl (cI, 8, .inl vFk))] → va_S (va_A (wCss cI cC cG c0 c1 c2 c3 c4 o0 o1 s0 s1 v0 v1 v2 v3 v4 v5 cZ cPe cTa cTu cBe orow row vP vS vD vAg vKi vMe vOw vFk) sz) s.heap H locs → ∀ ls : Array Slot, lv_has ls 7 [(3, .int ((L_X1_findBest_29 cZ cPe cTa orow vP vS vD vKi vOw 120 0 1000000 1 (F_X1_findBest_2 cTu 5) cBe row).1))] → W p l e rm_X1_findBest s m ([.ref c0, .ref o0, .ref s0] : List Value).toArray below meth c H locs 0 0 (MQ below (q_QWi D (wCss cI cC cG c0 c1 c2 c3 c4 o0 o1 s0 s1 v0 v1 v2 v3 v4 v5 cZ cPe cTa cTu cBe orow row vP vS vD vAg vKi vMe vOw vFk) (wCss cI cC cG c0 c1 c2 c3 c4 o0 o1 s0 s1 v0 v1 v2 v3 v4 v5 cZ cPe cTa (g_X1_findBest_cTu cZ cPe cTa cTu cBe orow row vP vS vD vKi vOw) (g_X1_findBest_cBe cZ cPe cTa cTu cBe orow row vP vS vD vKi vOw) orow (g_X1_findBest_row cZ cPe cTa cTu cBe orow row vP vS vD vKi vOw) vP vS vD vAg vKi vMe vOw vFk) sz (f_X1_findBest cZ cPe cTa cTu cBe orow row vP vS vD vKi vOw)) ([.ref c0, .ref o0, .ref s0] : List Value).toArray s 0 0 (va_A (wCss cI cC cG c0 c1 c2 c3 c4 o0 o1 s0 s1 v0 v1 v2 v3 v4 v5 cZ cPe cTa cTu cBe orow row vP vS vD vAg vKi vMe vOw vFk) sz)) (F0 m 97 ls []) := by
      intro H locs hP hD hS ls hl
      refine lv_iload_n hx hb dX1_findBest_97 rfl (lv_at hl 0 rfl) ?_
      have e_1 : (g_X1_findBest_cTu cZ cPe cTa cTu cBe orow row vP vS vD vKi vOw) = (L_X1_findBest_29 cZ cPe cTa orow vP vS vD vKi vOw 120 0 1000000 1 (F_X1_findBest_2 cTu 5) cBe row).2.2.1 := by simp only [g_X1_findBest_cTu]
      have e_2 : (g_X1_findBest_cBe cZ cPe cTa cTu cBe orow row vP vS vD vKi vOw) = (L_X1_findBest_29 cZ cPe cTa orow vP vS vD vKi vOw 120 0 1000000 1 (F_X1_findBest_2 cTu 5) cBe row).2.2.2.1 := by simp only [g_X1_findBest_cBe]
      have e_3 : (g_X1_findBest_row cZ cPe cTa cTu cBe orow row vP vS vD vKi vOw) = (L_X1_findBest_29 cZ cPe cTa orow vP vS vD vKi vOw 120 0 1000000 1 (F_X1_findBest_2 cTu 5) cBe row).2.2.2.2 := by simp only [g_X1_findBest_row]
      exact rw_iret hx hb hr hlocks hP hD hS (by simp only [f_X1_findBest]) (by rw [e_1, e_2, e_3]) dX1_findBest_98
    have loop29_ : ∀ (n29_ j29_ : Nat) (a29_0 : Int32) (a29_1 : Int32) (a29_2 : Nat → Int32) (a29_3 : Nat → Int32) (a29_4 : Nat → Int32), j29_ + n29_ = 120 → (L_X1_findBest_29 cZ cPe cTa orow vP vS vD vKi vOw n29_ j29_ a29_0 a29_1 a29_2 a29_3 a29_4) = (L_X1_findBest_29 cZ cPe cTa orow vP vS vD vKi vOw 120 0 1000000 1 (F_X1_findBest_2 cTu 5) cBe row) → ∀ (H : Heap) (locs : List Loc), va_P D vwCl [(c0, .inr (1, [.ref c1, .ref c2, .ref c3, .ref c4, .int cZ])), (c1, .inl (cI, 5, .inl cPe)), (c2, .inl (cI, 5, .inl cTa)), (c3, .inl (cI, 5, .inl a29_2)), (c4, .inl (cI, 5, .inl a29_3)), (o0, .inr (6, [.ref v0, .ref o1])), (o1, .inl (cI, 15, .inl orow)), (s0, .inr (6, [.ref v0, .ref s1])), (s1, .inl (cI, 15, .inl a29_4)), (v0, .inr (7, [.ref v1, .ref v2, .ref v3, .ref v4, .ref v5, .int vP, .int vS, .int vD])), (v1, .inl (cI, 6, .inl vAg)), (v2, .inl (cI, 6, .inl vKi)), (v3, .inl (cI, 6, .inl vMe)), (v4, .inl (cI, 8, .inl vOw)), (v5, .inl (cI, 8, .inl vFk))] H → va_D (va_A (wCss cI cC cG c0 c1 c2 c3 c4 o0 o1 s0 s1 v0 v1 v2 v3 v4 v5 cZ cPe cTa cTu cBe orow row vP vS vD vAg vKi vMe vOw vFk) sz) [(c0, .inr (1, [.ref c1, .ref c2, .ref c3, .ref c4, .int cZ])), (c1, .inl (cI, 5, .inl cPe)), (c2, .inl (cI, 5, .inl cTa)), (c3, .inl (cI, 5, .inl a29_2)), (c4, .inl (cI, 5, .inl a29_3)), (o0, .inr (6, [.ref v0, .ref o1])), (o1, .inl (cI, 15, .inl orow)), (s0, .inr (6, [.ref v0, .ref s1])), (s1, .inl (cI, 15, .inl a29_4)), (v0, .inr (7, [.ref v1, .ref v2, .ref v3, .ref v4, .ref v5, .int vP, .int vS, .int vD])), (v1, .inl (cI, 6, .inl vAg)), (v2, .inl (cI, 6, .inl vKi)), (v3, .inl (cI, 6, .inl vMe)), (v4, .inl (cI, 8, .inl vOw)), (v5, .inl (cI, 8, .inl vFk))] → va_S (va_A (wCss cI cC cG c0 c1 c2 c3 c4 o0 o1 s0 s1 v0 v1 v2 v3 v4 v5 cZ cPe cTa cTu cBe orow row vP vS vD vAg vKi vMe vOw vFk) sz) s.heap H locs → ∀ ls : Array Slot, lv_has ls 7 [(0, .ref c0), (1, .ref o0), (2, .ref s0), (3, .int a29_0), (4, .int a29_1), (5, .int (nI j29_))] → W p l e rm_X1_findBest s m ([.ref c0, .ref o0, .ref s0] : List Value).toArray below meth c H locs 0 0 (MQ below (q_QWi D (wCss cI cC cG c0 c1 c2 c3 c4 o0 o1 s0 s1 v0 v1 v2 v3 v4 v5 cZ cPe cTa cTu cBe orow row vP vS vD vAg vKi vMe vOw vFk) (wCss cI cC cG c0 c1 c2 c3 c4 o0 o1 s0 s1 v0 v1 v2 v3 v4 v5 cZ cPe cTa (g_X1_findBest_cTu cZ cPe cTa cTu cBe orow row vP vS vD vKi vOw) (g_X1_findBest_cBe cZ cPe cTa cTu cBe orow row vP vS vD vKi vOw) orow (g_X1_findBest_row cZ cPe cTa cTu cBe orow row vP vS vD vKi vOw) vP vS vD vAg vKi vMe vOw vFk) sz (f_X1_findBest cZ cPe cTa cTu cBe orow row vP vS vD vKi vOw)) ([.ref c0, .ref o0, .ref s0] : List Value).toArray s 0 0 (va_A (wCss cI cC cG c0 c1 c2 c3 c4 o0 o1 s0 s1 v0 v1 v2 v3 v4 v5 cZ cPe cTa cTu cBe orow row vP vS vD vAg vKi vMe vOw vFk) sz)) (F0 m 29 ls []) := by
      intro n29_
      induction n29_ with
      | zero =>
        intro j29_ a29_0 a29_1 a29_2 a29_3 a29_4 hj29_ hv29_ H locs hP hD hS ls hl
        obtain rfl : j29_ = 120 := by omega
        refine lv_iload hx hb dX1_findBest_29 (lv_at hl 5 rfl) ?_
        refine lv_bipush (v := 120) hx hb dX1_findBest_31 (by decide) ?_
        refine lv_icmp_ge (tgt := 97) hx hb dX1_findBest_33 (by decide) (fun c_4 => ?_) (fun c_4 => ?_)
        rotate_left
        · exact absurd (nI_le (Nat.le_refl 120) (by decide)) c_4
        have e_5 : (a29_0, a29_1, a29_2, a29_3, a29_4) = (L_X1_findBest_29 cZ cPe cTa orow vP vS vD vKi vOw 120 0 1000000 1 (F_X1_findBest_2 cTu 5) cBe row) := by rw [← hv29_]; simp only [L_X1_findBest_29]
        have e_6 : a29_0 = (L_X1_findBest_29 cZ cPe cTa orow vP vS vD vKi vOw 120 0 1000000 1 (F_X1_findBest_2 cTu 5) cBe row).1 := congrArg (fun z => z.1) e_5
        have e_7 : a29_1 = (L_X1_findBest_29 cZ cPe cTa orow vP vS vD vKi vOw 120 0 1000000 1 (F_X1_findBest_2 cTu 5) cBe row).2.1 := congrArg (fun z => z.2.1) e_5
        have e_8 : a29_2 = (L_X1_findBest_29 cZ cPe cTa orow vP vS vD vKi vOw 120 0 1000000 1 (F_X1_findBest_2 cTu 5) cBe row).2.2.1 := congrArg (fun z => z.2.2.1) e_5
        have e_9 : a29_3 = (L_X1_findBest_29 cZ cPe cTa orow vP vS vD vKi vOw 120 0 1000000 1 (F_X1_findBest_2 cTu 5) cBe row).2.2.2.1 := congrArg (fun z => z.2.2.2.1) e_5
        have e_10 : a29_4 = (L_X1_findBest_29 cZ cPe cTa orow vP vS vD vKi vOw 120 0 1000000 1 (F_X1_findBest_2 cTu 5) cBe row).2.2.2.2 := congrArg (fun z => z.2.2.2.2) e_5
        exact K29_ _ _ (by rw [← e_8, ← e_9, ← e_10]; exact hP) (by rw [← e_8, ← e_9, ← e_10]; exact hD) hS _ (by rw [← e_6]; exact (lv_sub hl [3] rfl))
      | succ n29_ ih29_ =>
        intro j29_ a29_0 a29_1 a29_2 a29_3 a29_4 hj29_ hv29_ H locs hP hD hS ls hl
        refine lv_iload hx hb dX1_findBest_29 (lv_at hl 5 rfl) ?_
        refine lv_bipush (v := 120) hx hb dX1_findBest_31 (by decide) ?_
        refine lv_icmp_ge (tgt := 97) hx hb dX1_findBest_33 (by decide) (fun c_11 => ?_) (fun c_11 => ?_)
        · exact absurd c_11 (nI_ge (b := 120) (by omega) (by decide))
        refine lv_iload hx hb dX1_findBest_36 (lv_at hl 4 rfl) ?_
        refine lv_if_eq (tgt := 97) hx hb dX1_findBest_38 (by decide) (fun c_12 => ?_) (fun c_12 => ?_)
        · have e_13 : (a29_0, a29_1, a29_2, a29_3, a29_4) = (L_X1_findBest_29 cZ cPe cTa orow vP vS vD vKi vOw 120 0 1000000 1 (F_X1_findBest_2 cTu 5) cBe row) := by rw [← hv29_]; simp only [L_X1_findBest_29, if_pos c_12]
          have e_14 : a29_0 = (L_X1_findBest_29 cZ cPe cTa orow vP vS vD vKi vOw 120 0 1000000 1 (F_X1_findBest_2 cTu 5) cBe row).1 := congrArg (fun z => z.1) e_13
          have e_15 : a29_1 = (L_X1_findBest_29 cZ cPe cTa orow vP vS vD vKi vOw 120 0 1000000 1 (F_X1_findBest_2 cTu 5) cBe row).2.1 := congrArg (fun z => z.2.1) e_13
          have e_16 : a29_2 = (L_X1_findBest_29 cZ cPe cTa orow vP vS vD vKi vOw 120 0 1000000 1 (F_X1_findBest_2 cTu 5) cBe row).2.2.1 := congrArg (fun z => z.2.2.1) e_13
          have e_17 : a29_3 = (L_X1_findBest_29 cZ cPe cTa orow vP vS vD vKi vOw 120 0 1000000 1 (F_X1_findBest_2 cTu 5) cBe row).2.2.2.1 := congrArg (fun z => z.2.2.2.1) e_13
          have e_18 : a29_4 = (L_X1_findBest_29 cZ cPe cTa orow vP vS vD vKi vOw 120 0 1000000 1 (F_X1_findBest_2 cTu 5) cBe row).2.2.2.2 := congrArg (fun z => z.2.2.2.2) e_13
          exact K29_ _ _ (by rw [← e_16, ← e_17, ← e_18]; exact hP) (by rw [← e_16, ← e_17, ← e_18]; exact hD) hS _ (by rw [← e_14]; exact (lv_sub hl [3] rfl))
        refine lv_aload_n hx hb dX1_findBest_41 rfl (lv_at hl 2 rfl) ?_
        refine lv_aload_n hx hb dX1_findBest_42 rfl (lv_at hl 1 rfl) ?_
        refine rw_v (wr := [(c0, .inr (1, [.ref c1, .ref c2, .ref c3, .ref c4, .int cZ])), (c1, .inl (cI, 5, .inl cPe)), (c2, .inl (cI, 5, .inl cTa)), (c3, .inl (cI, 5, .inl a29_2)), (c4, .inl (cI, 5, .inl a29_3)), (v0, .inr (7, [.ref v1, .ref v2, .ref v3, .ref v4, .ref v5, .int vP, .int vS, .int vD])), (v1, .inl (cI, 6, .inl vAg)), (v2, .inl (cI, 6, .inl vKi)), (v3, .inl (cI, 6, .inl vMe)), (v4, .inl (cI, 8, .inl vOw)), (v5, .inl (cI, 8, .inl vFk))]) (ws2 := [(c0, .inr (1, [.ref c1, .ref c2, .ref c3, .ref c4, .int cZ])), (c1, .inl (cI, 5, .inl cPe)), (c2, .inl (cI, 5, .inl cTa)), (c3, .inl (cI, 5, .inl a29_2)), (c4, .inl (cI, 5, .inl a29_3)), (o0, .inr (6, [.ref v0, .ref o1])), (o1, .inl (cI, 15, .inl orow)), (s0, .inr (6, [.ref v0, .ref s1])), (s1, .inl (cI, 15, .inl (g_X6_copy_row a29_4 orow))), (v0, .inr (7, [.ref v1, .ref v2, .ref v3, .ref v4, .ref v5, .int vP, .int vS, .int vD])), (v1, .inl (cI, 6, .inl vAg)), (v2, .inl (cI, 6, .inl vKi)), (v3, .inl (cI, 6, .inl vMe)), (v4, .inl (cI, 8, .inl vOw)), (v5, .inl (cI, 8, .inl vFk))]) (va_runV (As := [.ref o0]) (rest := []) ⟨hx, hb, hml, hown, hts⟩ (c_X6_copy l D cI cC cG s0 s1 o0 o1 v0 a29_4 orow H.size) (cwV 1 hts gX1_findBest_X6_copy rfl rfl rfl (by decide +kernel) ⟨Nat.le_of_ble_eq_true rfl, Nat.le_of_ble_eq_true rfl⟩) (q_preWV hK hP hD hN [7, 8, 5, 6] (by decide) rfl rfl (ci := 6) (q0 := 7) rfl rfl) rfl rfl hl.1 rfl (lv_room (Nat.le_of_ble_eq_true rfl)) dX1_findBest_43 ⟨Nat.zero_le _, Nat.zero_le _⟩) hS hA hP hD [7, 8, 5, 6] [0, 1, 2, 3, 4, 9, 10, 11, 12, 13, 14] rfl rfl (by decide) (by decide) [0, 1, 2, 3, 4, 13, 14, 11, 12, 5, 6, 7, 8, 9, 10] (by decide) rfl rfl (fun H locs hP hD hS => ?_)
        refine lv_aload_n hx hb dX1_findBest_46 rfl (lv_at hl 0 rfl) ?_
        refine lv_aload_n hx hb dX1_findBest_47 rfl (lv_at hl 2 rfl) ?_
        refine rw_v (wr := [(o0, .inr (6, [.ref v0, .ref o1])), (o1, .inl (cI, 15, .inl orow))]) (ws2 := [(c0, .inr (1, [.ref c1, .ref c2, .ref c3, .ref c4, .int cZ])), (c1, .inl (cI, 5, .inl cPe)), (c2, .inl (cI, 5, .inl cTa)), (c3, .inl (cI, 5, .inl a29_2)), (c4, .inl (cI, 5, .inl a29_3)), (o0, .inr (6, [.ref v0, .ref o1])), (o1, .inl (cI, 15, .inl orow)), (s0, .inr (6, [.ref v0, .ref s1])), (s1, .inl (cI, 15, .inl (g_X1_hear_row cZ cPe cTa a29_2 (g_X6_copy_row a29_4 orow) vP vS vD vKi vOw))), (v0, .inr (7, [.ref v1, .ref v2, .ref v3, .ref v4, .ref v5, .int vP, .int vS, .int vD])), (v1, .inl (cI, 6, .inl vAg)), (v2, .inl (cI, 6, .inl vKi)), (v3, .inl (cI, 6, .inl vMe)), (v4, .inl (cI, 8, .inl vOw)), (v5, .inl (cI, 8, .inl vFk))]) (va_runV (As := [.ref s0]) (rest := []) ⟨hx, hb, hml, hown, hts⟩ (c_X1_hear l D cI cC cG c0 c1 c2 c3 c4 s0 s1 v0 v1 v2 v3 v4 v5 cZ cPe cTa a29_2 a29_3 (g_X6_copy_row a29_4 orow) vP vS vD vAg vKi vMe vOw vFk H.size) (cwV 1 hts gX1_findBest_X1_hear rfl rfl rfl (by decide +kernel) ⟨Nat.le_of_ble_eq_true rfl, Nat.le_of_ble_eq_true rfl⟩) (q_preWV hK hP hD hN [0, 1, 2, 3, 4, 7, 8, 9, 10, 11, 12, 13, 14] (by decide) rfl rfl (ci := 1) (q0 := 0) rfl rfl) rfl rfl hl.1 rfl (lv_room (Nat.le_of_ble_eq_true rfl)) dX1_findBest_48 ⟨Nat.zero_le _, Nat.zero_le _⟩) hS hA hP hD [0, 1, 2, 3, 4, 7, 8, 9, 10, 11, 12, 13, 14] [5, 6] rfl rfl (by decide) (by decide) [2, 3, 4, 5, 6, 0, 1, 7, 8, 9, 10, 11, 12, 13, 14] (by decide) rfl rfl (fun H locs hP hD hS => ?_)
        refine lv_aload_n hx hb dX1_findBest_51 rfl (lv_at hl 2 rfl) ?_
        refine ro_i (va_runV (As := []) (rest := []) ⟨hx, hb, hml, hown, hts⟩ (c_X6_agesTogether l D cI cC cG s0 s1 v0 v1 v2 v3 v4 v5 (g_X1_hear_row cZ cPe cTa a29_2 (g_X6_copy_row a29_4 orow) vP vS vD vKi vOw) vP vS vD vAg vKi vMe vOw vFk) (cwV 0 hts gX1_findBest_X6_agesTogether rfl rfl rfl (by decide +kernel) ⟨Nat.le_of_ble_eq_true rfl, Nat.le_of_ble_eq_true rfl⟩) (q_preV hK hP hN [7, 8, 9, 10, 11, 12, 13, 14] rfl (ci := 6) (q0 := 7) rfl rfl) rfl rfl hl.1 rfl (lv_room (Nat.le_of_ble_eq_true rfl)) dX1_findBest_52 ⟨Nat.zero_le _, Nat.zero_le _⟩) hS hP (fun H locs hP hS => ?_)
        refine lv_aload_n hx hb dX1_findBest_55 rfl (lv_at hl 1 rfl) ?_
        refine ro_i (va_runV (As := []) (rest := [.int (f_X6_agesTogether (g_X1_hear_row cZ cPe cTa a29_2 (g_X6_copy_row a29_4 orow) vP vS vD vKi vOw) vP)]) ⟨hx, hb, hml, hown, hts⟩ (c_X6_agesTogether l D cI cC cG o0 o1 v0 v1 v2 v3 v4 v5 orow vP vS vD vAg vKi vMe vOw vFk) (cwV 0 hts gX1_findBest_X6_agesTogether rfl rfl rfl (by decide +kernel) ⟨Nat.le_of_ble_eq_true rfl, Nat.le_of_ble_eq_true rfl⟩) (q_preV hK hP hN [5, 6, 9, 10, 11, 12, 13, 14] rfl (ci := 6) (q0 := 5) rfl rfl) rfl rfl hl.1 rfl (lv_room (Nat.le_of_ble_eq_true rfl)) dX1_findBest_56 ⟨Nat.zero_le _, Nat.zero_le _⟩) hS hP (fun H locs hP hS => ?_)
        refine lv_isub hx hb dX1_findBest_59 ?_
        refine lv_istore (lv' := [(6, .int ((f_X6_agesTogether (g_X1_hear_row cZ cPe cTa a29_2 (g_X6_copy_row a29_4 orow) vP vS vD vKi vOw) vP) - (f_X6_agesTogether orow vP))), (0, .ref c0), (1, .ref o0), (2, .ref s0), (3, .int a29_0), (4, .int a29_1), (5, .int (nI j29_))]) hx hb dX1_findBest_60 hl (by decide) rfl (fun ls hl => ?_)
        refine lv_iload hx hb dX1_findBest_62 (lv_at hl 0 rfl) ?_
        refine lv_iload_n hx hb dX1_findBest_64 rfl (lv_at hl 4 rfl) ?_
        refine lv_icmp_ge (tgt := 85) hx hb dX1_findBest_65 (by decide) (fun c_19 => ?_) (fun c_19 => ?_)
        · refine lv_aload_n hx hb dX1_findBest_85 rfl (lv_at hl 1 rfl) ?_
          refine rw_i (wr := [(o0, .inr (6, [.ref v0, .ref o1])), (o1, .inl (cI, 15, .inl orow)), (s0, .inr (6, [.ref v0, .ref s1])), (s1, .inl (cI, 15, .inl (g_X1_hear_row cZ cPe cTa a29_2 (g_X6_copy_row a29_4 orow) vP vS vD vKi vOw))), (v0, .inr (7, [.ref v1, .ref v2, .ref v3, .ref v4, .ref v5, .int vP, .int vS, .int vD])), (v1, .inl (cI, 6, .inl vAg)), (v2, .inl (cI, 6, .inl vKi)), (v3, .inl (cI, 6, .inl vMe)), (v4, .inl (cI, 8, .inl vOw)), (v5, .inl (cI, 8, .inl vFk))]) (ws2 := [(c0, .inr (1, [.ref c1, .ref c2, .ref c3, .ref c4, .int cZ])), (c1, .inl (cI, 5, .inl cPe)), (c2, .inl (cI, 5, .inl cTa)), (c3, .inl (cI, 5, .inl (g_X1_nextTurn_cTu cZ a29_2))), (c4, .inl (cI, 5, .inl a29_3)), (o0, .inr (6, [.ref v0, .ref o1])), (o1, .inl (cI, 15, .inl orow)), (s0, .inr (6, [.ref v0, .ref s1])), (s1, .inl (cI, 15, .inl (g_X1_hear_row cZ cPe cTa a29_2 (g_X6_copy_row a29_4 orow) vP vS vD vKi vOw))), (v0, .inr (7, [.ref v1, .ref v2, .ref v3, .ref v4, .ref v5, .int vP, .int vS, .int vD])), (v1, .inl (cI, 6, .inl vAg)), (v2, .inl (cI, 6, .inl vKi)), (v3, .inl (cI, 6, .inl vMe)), (v4, .inl (cI, 8, .inl vOw)), (v5, .inl (cI, 8, .inl vFk))]) (va_runV (As := []) (rest := []) ⟨hx, hb, hml, hown, hts⟩ (c_X1_nextTurn l D cI cC cG c0 c1 c2 c3 c4 cZ cPe cTa a29_2 a29_3 H.size (by assumption)) (cwV 0 hts gX1_findBest_X1_nextTurn rfl rfl rfl (by decide +kernel) ⟨Nat.le_of_ble_eq_true rfl, Nat.le_of_ble_eq_true rfl⟩) (q_preWV hK hP hD hN [0, 1, 2, 3, 4] (by decide) rfl rfl (ci := 1) (q0 := 0) rfl rfl) rfl rfl hl.1 rfl (lv_room (Nat.le_of_ble_eq_true rfl)) dX1_findBest_86 ⟨Nat.zero_le _, Nat.zero_le _⟩) hS hA hP hD [0, 1, 2, 3, 4] [5, 6, 7, 8, 9, 10, 11, 12, 13, 14] rfl rfl (by decide) (by decide) [10, 11, 12, 13, 14, 0, 1, 2, 3, 4, 5, 6, 7, 8, 9] (by decide) rfl rfl (fun H locs hP hD hS => ?_)
          refine lv_istore (lv' := [(4, .int (f_X1_nextTurn cZ a29_2)), (6, .int ((f_X6_agesTogether (g_X1_hear_row cZ cPe cTa a29_2 (g_X6_copy_row a29_4 orow) vP vS vD vKi vOw) vP) - (f_X6_agesTogether orow vP))), (0, .ref c0), (1, .ref o0), (2, .ref s0), (3, .int a29_0), (5, .int (nI j29_))]) hx hb dX1_findBest_89 hl (by decide) rfl (fun ls hl => ?_)
          refine lv_iinc (v := (nI (j29_ + 1))) (lv' := [(5, .int (nI (j29_ + 1))), (4, .int (f_X1_nextTurn cZ a29_2)), (6, .int ((f_X6_agesTogether (g_X1_hear_row cZ cPe cTa a29_2 (g_X6_copy_row a29_4 orow) vP vS vD vKi vOw) vP) - (f_X6_agesTogether orow vP))), (0, .ref c0), (1, .ref o0), (2, .ref s0), (3, .int a29_0)]) hx hb dX1_findBest_91 hl (k := 6) rfl (nI_1 _) (by decide) rfl (fun ls hl => ?_)
          refine lv_goto (tgt := 29) hx hb dX1_findBest_94 (by decide) ?_
          exact ih29_ (j29_ + 1) a29_0 (f_X1_nextTurn cZ a29_2) (g_X1_nextTurn_cTu cZ a29_2) a29_3 (g_X1_hear_row cZ cPe cTa a29_2 (g_X6_copy_row a29_4 orow) vP vS vD vKi vOw) (by omega) (by rw [← hv29_]; simp only [L_X1_findBest_29, if_neg c_12, if_pos c_19]) _ _ hP hD hS _ (lv_sub hl [3, 4, 5, 6, 1, 0] rfl)
        refine lv_iload hx hb dX1_findBest_68 (lv_at hl 0 rfl) ?_
        refine lv_istore_n (lv' := [(3, .int ((f_X6_agesTogether (g_X1_hear_row cZ cPe cTa a29_2 (g_X6_copy_row a29_4 orow) vP vS vD vKi vOw) vP) - (f_X6_agesTogether orow vP))), (6, .int ((f_X6_agesTogether (g_X1_hear_row cZ cPe cTa a29_2 (g_X6_copy_row a29_4 orow) vP vS vD vKi vOw) vP) - (f_X6_agesTogether orow vP))), (0, .ref c0), (1, .ref o0), (2, .ref s0), (4, .int a29_1), (5, .int (nI j29_))]) hx hb dX1_findBest_70 rfl hl (by decide) rfl (fun ls hl => ?_)
        refine lv_aload_n hx hb dX1_findBest_71 rfl (lv_at hl 2 rfl) ?_
        refine va_get (D := D) (ci := 1) (v := .ref c3) (C := RX1) (T := TX1) (N := 5) hx hb hts hinX1 hown hK hP 0 rfl rfl 2 (by decide) hf18 (fun _ h9 => h9) rfl dX1_findBest_72 ?_
        refine lv_iconst (v := 0) hx hb dX1_findBest_75 (by decide) ?_
        refine lv_aload_n hx hb dX1_findBest_76 rfl (lv_at hl 2 rfl) ?_
        refine va_get (D := D) (ci := 1) (v := .ref c4) (C := RX1) (T := TX1) (N := 5) hx hb hts hinX1 hown hK hP 0 rfl rfl 3 (by decide) hf21 (fun _ h9 => h9) rfl dX1_findBest_77 ?_
        refine lv_iconst (v := 0) hx hb dX1_findBest_80 (by decide) ?_
        refine lv_iconst (v := 5) hx hb dX1_findBest_81 (by decide) ?_
        refine q_copyi (sp := 0) (dp := 0) (n := 5) hx hb (hml.trans hl.1.symm) hown hac42 hacn hacs haci hK hP hD hS 3 4 0 0 rfl rfl rfl rfl 0 0 5 (by decide) (by decide) (by decide) (by decide) (by decide) (by decide) (by decide) (by decide) (Nat.le_of_ble_eq_true rfl) (Nat.le_of_ble_eq_true rfl) dX1_findBest_82 (fun H locs hP hD hS => ?_)
        have hP : va_P D vwCl [(c0, .inr (1, [.ref c1, .ref c2, .ref c3, .ref c4, .int cZ])), (c1, .inl (cI, 5, .inl cPe)), (c2, .inl (cI, 5, .inl cTa)), (c3, .inl (cI, 5, .inl a29_2)), (c4, .inl (cI, 5, .inl (va_cpy a29_2 a29_3 0 0 5))), (o0, .inr (6, [.ref v0, .ref o1])), (o1, .inl (cI, 15, .inl orow)), (s0, .inr (6, [.ref v0, .ref s1])), (s1, .inl (cI, 15, .inl (g_X1_hear_row cZ cPe cTa a29_2 (g_X6_copy_row a29_4 orow) vP vS vD vKi vOw))), (v0, .inr (7, [.ref v1, .ref v2, .ref v3, .ref v4, .ref v5, .int vP, .int vS, .int vD])), (v1, .inl (cI, 6, .inl vAg)), (v2, .inl (cI, 6, .inl vKi)), (v3, .inl (cI, 6, .inl vMe)), (v4, .inl (cI, 8, .inl vOw)), (v5, .inl (cI, 8, .inl vFk))] H := hP
        have hD : va_D (va_A (wCss cI cC cG c0 c1 c2 c3 c4 o0 o1 s0 s1 v0 v1 v2 v3 v4 v5 cZ cPe cTa cTu cBe orow row vP vS vD vAg vKi vMe vOw vFk) sz) [(c0, .inr (1, [.ref c1, .ref c2, .ref c3, .ref c4, .int cZ])), (c1, .inl (cI, 5, .inl cPe)), (c2, .inl (cI, 5, .inl cTa)), (c3, .inl (cI, 5, .inl a29_2)), (c4, .inl (cI, 5, .inl (va_cpy a29_2 a29_3 0 0 5))), (o0, .inr (6, [.ref v0, .ref o1])), (o1, .inl (cI, 15, .inl orow)), (s0, .inr (6, [.ref v0, .ref s1])), (s1, .inl (cI, 15, .inl (g_X1_hear_row cZ cPe cTa a29_2 (g_X6_copy_row a29_4 orow) vP vS vD vKi vOw))), (v0, .inr (7, [.ref v1, .ref v2, .ref v3, .ref v4, .ref v5, .int vP, .int vS, .int vD])), (v1, .inl (cI, 6, .inl vAg)), (v2, .inl (cI, 6, .inl vKi)), (v3, .inl (cI, 6, .inl vMe)), (v4, .inl (cI, 8, .inl vOw)), (v5, .inl (cI, 8, .inl vFk))] := hD
        refine lv_aload_n hx hb dX1_findBest_85 rfl (lv_at hl 2 rfl) ?_
        refine rw_i (wr := [(o0, .inr (6, [.ref v0, .ref o1])), (o1, .inl (cI, 15, .inl orow)), (s0, .inr (6, [.ref v0, .ref s1])), (s1, .inl (cI, 15, .inl (g_X1_hear_row cZ cPe cTa a29_2 (g_X6_copy_row a29_4 orow) vP vS vD vKi vOw))), (v0, .inr (7, [.ref v1, .ref v2, .ref v3, .ref v4, .ref v5, .int vP, .int vS, .int vD])), (v1, .inl (cI, 6, .inl vAg)), (v2, .inl (cI, 6, .inl vKi)), (v3, .inl (cI, 6, .inl vMe)), (v4, .inl (cI, 8, .inl vOw)), (v5, .inl (cI, 8, .inl vFk))]) (ws2 := [(c0, .inr (1, [.ref c1, .ref c2, .ref c3, .ref c4, .int cZ])), (c1, .inl (cI, 5, .inl cPe)), (c2, .inl (cI, 5, .inl cTa)), (c3, .inl (cI, 5, .inl (g_X1_nextTurn_cTu cZ a29_2))), (c4, .inl (cI, 5, .inl (va_cpy a29_2 a29_3 0 0 5))), (o0, .inr (6, [.ref v0, .ref o1])), (o1, .inl (cI, 15, .inl orow)), (s0, .inr (6, [.ref v0, .ref s1])), (s1, .inl (cI, 15, .inl (g_X1_hear_row cZ cPe cTa a29_2 (g_X6_copy_row a29_4 orow) vP vS vD vKi vOw))), (v0, .inr (7, [.ref v1, .ref v2, .ref v3, .ref v4, .ref v5, .int vP, .int vS, .int vD])), (v1, .inl (cI, 6, .inl vAg)), (v2, .inl (cI, 6, .inl vKi)), (v3, .inl (cI, 6, .inl vMe)), (v4, .inl (cI, 8, .inl vOw)), (v5, .inl (cI, 8, .inl vFk))]) (va_runV (As := []) (rest := []) ⟨hx, hb, hml, hown, hts⟩ (c_X1_nextTurn l D cI cC cG c0 c1 c2 c3 c4 cZ cPe cTa a29_2 (va_cpy a29_2 a29_3 0 0 5) H.size (by assumption)) (cwV 0 hts gX1_findBest_X1_nextTurn rfl rfl rfl (by decide +kernel) ⟨Nat.le_of_ble_eq_true rfl, Nat.le_of_ble_eq_true rfl⟩) (q_preWV hK hP hD hN [0, 1, 2, 3, 4] (by decide) rfl rfl (ci := 1) (q0 := 0) rfl rfl) rfl rfl hl.1 rfl (lv_room (Nat.le_of_ble_eq_true rfl)) dX1_findBest_86 ⟨Nat.zero_le _, Nat.zero_le _⟩) hS hA hP hD [0, 1, 2, 3, 4] [5, 6, 7, 8, 9, 10, 11, 12, 13, 14] rfl rfl (by decide) (by decide) [10, 11, 12, 13, 14, 0, 1, 2, 3, 4, 5, 6, 7, 8, 9] (by decide) rfl rfl (fun H locs hP hD hS => ?_)
        refine lv_istore (lv' := [(4, .int (f_X1_nextTurn cZ a29_2)), (3, .int ((f_X6_agesTogether (g_X1_hear_row cZ cPe cTa a29_2 (g_X6_copy_row a29_4 orow) vP vS vD vKi vOw) vP) - (f_X6_agesTogether orow vP))), (6, .int ((f_X6_agesTogether (g_X1_hear_row cZ cPe cTa a29_2 (g_X6_copy_row a29_4 orow) vP vS vD vKi vOw) vP) - (f_X6_agesTogether orow vP))), (0, .ref c0), (1, .ref o0), (2, .ref s0), (5, .int (nI j29_))]) hx hb dX1_findBest_89 hl (by decide) rfl (fun ls hl => ?_)
        refine lv_iinc (v := (nI (j29_ + 1))) (lv' := [(5, .int (nI (j29_ + 1))), (4, .int (f_X1_nextTurn cZ a29_2)), (3, .int ((f_X6_agesTogether (g_X1_hear_row cZ cPe cTa a29_2 (g_X6_copy_row a29_4 orow) vP vS vD vKi vOw) vP) - (f_X6_agesTogether orow vP))), (6, .int ((f_X6_agesTogether (g_X1_hear_row cZ cPe cTa a29_2 (g_X6_copy_row a29_4 orow) vP vS vD vKi vOw) vP) - (f_X6_agesTogether orow vP))), (0, .ref c0), (1, .ref o0), (2, .ref s0)]) hx hb dX1_findBest_91 hl (k := 6) rfl (nI_1 _) (by decide) rfl (fun ls hl => ?_)
        refine lv_goto (tgt := 29) hx hb dX1_findBest_94 (by decide) ?_
        exact ih29_ (j29_ + 1) ((f_X6_agesTogether (g_X1_hear_row cZ cPe cTa a29_2 (g_X6_copy_row a29_4 orow) vP vS vD vKi vOw) vP) - (f_X6_agesTogether orow vP)) (f_X1_nextTurn cZ a29_2) (g_X1_nextTurn_cTu cZ a29_2) (va_cpy a29_2 a29_3 0 0 5) (g_X1_hear_row cZ cPe cTa a29_2 (g_X6_copy_row a29_4 orow) vP vS vD vKi vOw) (by omega) (by rw [← hv29_]; simp only [L_X1_findBest_29, if_neg c_12, if_neg c_19]) _ _ hP hD hS _ (lv_sub hl [4, 5, 6, 2, 1, 0] rfl)
    exact loop29_ 120 0 1000000 1 (F_X1_findBest_2 cTu 5) cBe row (by omega) rfl _ _ hP hD hS _ (lv_sub hl [3, 4, 5, 2, 1, 0] rfl)
  have loop2_ : ∀ (n2_ j2_ : Nat), j2_ + n2_ = 5 → ∀ (H : Heap) (locs : List Loc), va_P D vwCl [(c0, .inr (1, [.ref c1, .ref c2, .ref c3, .ref c4, .int cZ])), (c1, .inl (cI, 5, .inl cPe)), (c2, .inl (cI, 5, .inl cTa)), (c3, .inl (cI, 5, .inl (F_X1_findBest_2 cTu j2_))), (c4, .inl (cI, 5, .inl cBe)), (o0, .inr (6, [.ref v0, .ref o1])), (o1, .inl (cI, 15, .inl orow)), (s0, .inr (6, [.ref v0, .ref s1])), (s1, .inl (cI, 15, .inl row)), (v0, .inr (7, [.ref v1, .ref v2, .ref v3, .ref v4, .ref v5, .int vP, .int vS, .int vD])), (v1, .inl (cI, 6, .inl vAg)), (v2, .inl (cI, 6, .inl vKi)), (v3, .inl (cI, 6, .inl vMe)), (v4, .inl (cI, 8, .inl vOw)), (v5, .inl (cI, 8, .inl vFk))] H → va_D (va_A (wCss cI cC cG c0 c1 c2 c3 c4 o0 o1 s0 s1 v0 v1 v2 v3 v4 v5 cZ cPe cTa cTu cBe orow row vP vS vD vAg vKi vMe vOw vFk) sz) [(c0, .inr (1, [.ref c1, .ref c2, .ref c3, .ref c4, .int cZ])), (c1, .inl (cI, 5, .inl cPe)), (c2, .inl (cI, 5, .inl cTa)), (c3, .inl (cI, 5, .inl (F_X1_findBest_2 cTu j2_))), (c4, .inl (cI, 5, .inl cBe)), (o0, .inr (6, [.ref v0, .ref o1])), (o1, .inl (cI, 15, .inl orow)), (s0, .inr (6, [.ref v0, .ref s1])), (s1, .inl (cI, 15, .inl row)), (v0, .inr (7, [.ref v1, .ref v2, .ref v3, .ref v4, .ref v5, .int vP, .int vS, .int vD])), (v1, .inl (cI, 6, .inl vAg)), (v2, .inl (cI, 6, .inl vKi)), (v3, .inl (cI, 6, .inl vMe)), (v4, .inl (cI, 8, .inl vOw)), (v5, .inl (cI, 8, .inl vFk))] → va_S (va_A (wCss cI cC cG c0 c1 c2 c3 c4 o0 o1 s0 s1 v0 v1 v2 v3 v4 v5 cZ cPe cTa cTu cBe orow row vP vS vD vAg vKi vMe vOw vFk) sz) s.heap H locs → ∀ ls : Array Slot, lv_has ls 7 [(0, .ref c0), (1, .ref o0), (2, .ref s0), (3, .int (nI j2_))] → W p l e rm_X1_findBest s m ([.ref c0, .ref o0, .ref s0] : List Value).toArray below meth c H locs 0 0 (MQ below (q_QWi D (wCss cI cC cG c0 c1 c2 c3 c4 o0 o1 s0 s1 v0 v1 v2 v3 v4 v5 cZ cPe cTa cTu cBe orow row vP vS vD vAg vKi vMe vOw vFk) (wCss cI cC cG c0 c1 c2 c3 c4 o0 o1 s0 s1 v0 v1 v2 v3 v4 v5 cZ cPe cTa (g_X1_findBest_cTu cZ cPe cTa cTu cBe orow row vP vS vD vKi vOw) (g_X1_findBest_cBe cZ cPe cTa cTu cBe orow row vP vS vD vKi vOw) orow (g_X1_findBest_row cZ cPe cTa cTu cBe orow row vP vS vD vKi vOw) vP vS vD vAg vKi vMe vOw vFk) sz (f_X1_findBest cZ cPe cTa cTu cBe orow row vP vS vD vKi vOw)) ([.ref c0, .ref o0, .ref s0] : List Value).toArray s 0 0 (va_A (wCss cI cC cG c0 c1 c2 c3 c4 o0 o1 s0 s1 v0 v1 v2 v3 v4 v5 cZ cPe cTa cTu cBe orow row vP vS vD vAg vKi vMe vOw vFk) sz)) (F0 m 2 ls []) := by
    intro n2_
    induction n2_ with
    | zero =>
      intro j2_ hj2_ H locs hP hD hS ls hl
      obtain rfl : j2_ = 5 := by omega
      refine lv_iload_n hx hb dX1_findBest_2 rfl (lv_at hl 3 rfl) ?_
      refine lv_iconst (v := 5) hx hb dX1_findBest_3 (by decide) ?_
      refine lv_icmp_ge (tgt := 20) hx hb dX1_findBest_4 (by decide) (fun c_20 => ?_) (fun c_20 => ?_)
      rotate_left
      · exact absurd (nI_le (Nat.le_refl 5) (by decide)) c_20
      exact K2_ _ _ hP hD hS _ (lv_sub hl [0, 1, 2] rfl)
    | succ n2_ ih2_ =>
      intro j2_ hj2_ H locs hP hD hS ls hl
      refine lv_iload_n hx hb dX1_findBest_2 rfl (lv_at hl 3 rfl) ?_
      refine lv_iconst (v := 5) hx hb dX1_findBest_3 (by decide) ?_
      refine lv_icmp_ge (tgt := 20) hx hb dX1_findBest_4 (by decide) (fun c_21 => ?_) (fun c_21 => ?_)
      · exact absurd c_21 (nI_ge (b := 5) (by omega) (by decide))
      refine lv_aload_n hx hb dX1_findBest_7 rfl (lv_at hl 0 rfl) ?_
      refine va_get (D := D) (ci := 1) (v := .ref c3) (C := RX1) (T := TX1) (N := 5) hx hb hts hinX1 hown hK hP 0 rfl rfl 2 (by decide) hf18 (fun _ h9 => h9) rfl dX1_findBest_8 ?_
      refine lv_iload_n hx hb dX1_findBest_11 rfl (lv_at hl 3 rfl) ?_
      refine lv_iload_n hx hb dX1_findBest_12 rfl (lv_at hl 3 rfl) ?_
      refine q_iast hx hb hK hP hD hS 3 0 rfl rfl (vp_in_nI (by omega) (by decide)) j2_ (nI_clamp (by omega)) dX1_findBest_13 (fun H locs hP hD hS => ?_)
      have hP : va_P D vwCl [(c0, .inr (1, [.ref c1, .ref c2, .ref c3, .ref c4, .int cZ])), (c1, .inl (cI, 5, .inl cPe)), (c2, .inl (cI, 5, .inl cTa)), (c3, .inl (cI, 5, .inl (upd (F_X1_findBest_2 cTu j2_) j2_ (nI j2_)))), (c4, .inl (cI, 5, .inl cBe)), (o0, .inr (6, [.ref v0, .ref o1])), (o1, .inl (cI, 15, .inl orow)), (s0, .inr (6, [.ref v0, .ref s1])), (s1, .inl (cI, 15, .inl row)), (v0, .inr (7, [.ref v1, .ref v2, .ref v3, .ref v4, .ref v5, .int vP, .int vS, .int vD])), (v1, .inl (cI, 6, .inl vAg)), (v2, .inl (cI, 6, .inl vKi)), (v3, .inl (cI, 6, .inl vMe)), (v4, .inl (cI, 8, .inl vOw)), (v5, .inl (cI, 8, .inl vFk))] H := hP
      have hD : va_D (va_A (wCss cI cC cG c0 c1 c2 c3 c4 o0 o1 s0 s1 v0 v1 v2 v3 v4 v5 cZ cPe cTa cTu cBe orow row vP vS vD vAg vKi vMe vOw vFk) sz) [(c0, .inr (1, [.ref c1, .ref c2, .ref c3, .ref c4, .int cZ])), (c1, .inl (cI, 5, .inl cPe)), (c2, .inl (cI, 5, .inl cTa)), (c3, .inl (cI, 5, .inl (upd (F_X1_findBest_2 cTu j2_) j2_ (nI j2_)))), (c4, .inl (cI, 5, .inl cBe)), (o0, .inr (6, [.ref v0, .ref o1])), (o1, .inl (cI, 15, .inl orow)), (s0, .inr (6, [.ref v0, .ref s1])), (s1, .inl (cI, 15, .inl row)), (v0, .inr (7, [.ref v1, .ref v2, .ref v3, .ref v4, .ref v5, .int vP, .int vS, .int vD])), (v1, .inl (cI, 6, .inl vAg)), (v2, .inl (cI, 6, .inl vKi)), (v3, .inl (cI, 6, .inl vMe)), (v4, .inl (cI, 8, .inl vOw)), (v5, .inl (cI, 8, .inl vFk))] := hD
      refine lv_iinc (v := (nI (j2_ + 1))) (lv' := [(3, .int (nI (j2_ + 1))), (0, .ref c0), (1, .ref o0), (2, .ref s0)]) hx hb dX1_findBest_14 hl (k := 3) rfl (nI_1 _) (by decide) rfl (fun ls hl => ?_)
      refine lv_goto (tgt := 2) hx hb dX1_findBest_17 (by decide) ?_
      have e_22 : (F_X1_findBest_2 cTu (j2_ + 1)) = (upd (F_X1_findBest_2 cTu j2_) j2_ (nI j2_)) := by simp only [F_X1_findBest_2]
      exact ih2_ (j2_ + 1) (by omega) _ _ (by rw [e_22]; exact hP) (by rw [e_22]; exact hD) hS _ (lv_sub hl [1, 2, 3, 0] rfl)
  exact loop2_ 5 0 (by omega) _ _ hP hD hS _ (lv_sub hl [1, 2, 3, 0] rfl)
