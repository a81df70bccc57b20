abbrev wC (cI cC cG : ClassId) (c0 : Nat) (c1 : Nat) (c2 : Nat) (c3 : Nat) (c4 : Nat) (cZ : Int32) (cPe : Nat → Int32) (cTa : Nat → Int32) (cTu : Nat → Int32) (cBe : Nat → Int32) : va_W := [(c0, .inr (1, [.ref c1, .ref c2, .ref c3, .ref c4, .int cZ])), (c1, .inl (cI, 5, .inl cPe)), (c2, .inl (cI, 5, .inl cTa)), (c3, .inl (cI, 5, .inl cTu)), (c4, .inl (cI, 5, .inl cBe))]
abbrev wCs (cI cC cG : ClassId) (c0 : Nat) (c1 : Nat) (c2 : Nat) (c3 : Nat) (c4 : Nat) (s0 : Nat) (s1 : Nat) (v0 : Nat) (v1 : Nat) (v2 : Nat) (v3 : Nat) (v4 : Nat) (v5 : Nat) (cZ : Int32) (cPe : Nat → Int32) (cTa : Nat → Int32) (cTu : Nat → Int32) (cBe : Nat → Int32) (row : Nat → Int32) (vP : Int32) (vS : Int32) (vD : Int32) (vAg : Nat → Int32) (vKi : Nat → Int32) (vMe : Nat → Int32) (vOw : Nat → Int32) (vFk : Nat → Int32) : va_W := [(c0, .inr (1, [.ref c1, .ref c2, .ref c3, .ref c4, .int cZ])), (c1, .inl (cI, 5, .inl cPe)), (c2, .inl (cI, 5, .inl cTa)), (c3, .inl (cI, 5, .inl cTu)), (c4, .inl (cI, 5, .inl cBe)), (s0, .inr (6, [.ref v0, .ref s1])), (s1, .inl (cI, 15, .inl row)), (v0, .inr (7, [.ref v1, .ref v2, .ref v3, .ref v4, .ref v5, .int vP, .int vS, .int vD])), (v1, .inl (cI, 6, .inl vAg)), (v2, .inl (cI, 6, .inl vKi)), (v3, .inl (cI, 6, .inl vMe)), (v4, .inl (cI, 8, .inl vOw)), (v5, .inl (cI, 8, .inl vFk))]
abbrev wCss (cI cC cG : ClassId) (c0 : Nat) (c1 : Nat) (c2 : Nat) (c3 : Nat) (c4 : Nat) (o0 : Nat) (o1 : Nat) (s0 : Nat) (s1 : Nat) (v0 : Nat) (v1 : Nat) (v2 : Nat) (v3 : Nat) (v4 : Nat) (v5 : Nat) (cZ : Int32) (cPe : Nat → Int32) (cTa : Nat → Int32) (cTu : Nat → Int32) (cBe : Nat → Int32) (orow : Nat → Int32) (row : Nat → Int32) (vP : Int32) (vS : Int32) (vD : Int32) (vAg : Nat → Int32) (vKi : Nat → Int32) (vMe : Nat → Int32) (vOw : Nat → Int32) (vFk : Nat → Int32) : va_W := [(c0, .inr (1, [.ref c1, .ref c2, .ref c3, .ref c4, .int cZ])), (c1, .inl (cI, 5, .inl cPe)), (c2, .inl (cI, 5, .inl cTa)), (c3, .inl (cI, 5, .inl cTu)), (c4, .inl (cI, 5, .inl cBe)), (o0, .inr (6, [.ref v0, .ref o1])), (o1, .inl (cI, 15, .inl orow)), (s0, .inr (6, [.ref v0, .ref s1])), (s1, .inl (cI, 15, .inl row)), (v0, .inr (7, [.ref v1, .ref v2, .ref v3, .ref v4, .ref v5, .int vP, .int vS, .int vD])), (v1, .inl (cI, 6, .inl vAg)), (v2, .inl (cI, 6, .inl vKi)), (v3, .inl (cI, 6, .inl vMe)), (v4, .inl (cI, 8, .inl vOw)), (v5, .inl (cI, 8, .inl vFk))]
def f_X1_size (cZ : Int32) : Int32 := cZ
abbrev rm_X1_size : Room := { frames := 0, cells := 0, slots := 0, locals := 0 }
set_option maxRecDepth 100000 in
set_option maxHeartbeats 4000000 in
theorem c_X1_size (l : Launch) (D : va_G) (cI cC cG : ClassId) (c0 : Nat) (c1 : Nat) (c2 : Nat) (c3 : Nat) (c4 : Nat) (cZ : Int32) (cPe : Nat → Int32) (cTa : Nat → Int32) (cTu : Nat → Int32) (cBe : Nat → Int32) : RoI l yX1_size wsX1_size rm_X1_size D (q_t cI cC cG) (wC cI cC cG c0 c1 c2 c3 c4 cZ cPe cTa cTu cBe) [.ref c0] (f_X1_size cZ) := by
  refine ro_enter (cc := cX1_size) (maxL := 1) (ret := (some .int)) (by decide) rfl (Nat.le_of_ble_eq_true rfl) ?_
  intro p e s m below meth c ls B hP hK hl
  obtain ⟨hx, hb, hr, hlocks, hml, hown, hts, hN⟩ := B
  have hS : va_S q_no s.heap s.heap [] := va_S.rf
  have hown : s.vm.findClass RX1 = some m.cls := hown
  have hl : lv_has ls 1 [(0, .ref c0)] := hl
  have hf24 := hts (.fieldLink RX1 24 "OlderByABlush$Court" "size" "I") (by decide +kernel)
  have hinX1 : ∀ w ∈ u_ws RX1 TX1 5, w ∈ wsX1_size := by decide +kernel
  refine lv_aload_n hx hb dX1_size_0 rfl (lv_at hl 0 rfl) ?_
  refine va_get (D := D) (ci := 1) (v := .int cZ) (C := RX1) (T := TX1) (N := 5) hx hb hts hinX1 hown hK hP 0 rfl rfl 4 (by decide) hf24 (fun _ h9 => h9) rfl dX1_size_1 ?_
  exact ro_iret hx hb hr hlocks hS (by simp only [f_X1_size]) dX1_size_4
def g_X1_clear_cZ  : Int32 := 0
abbrev rm_X1_clear : Room := { frames := 0, cells := 0, slots := 0, locals := 0 }
set_option maxRecDepth 100000 in
set_option maxHeartbeats 4000000 in
theorem c_X1_clear (l : Launch) (D : va_G) (cI cC cG : ClassId) (c0 : Nat) (c1 : Nat) (c2 : Nat) (c3 : Nat) (c4 : Nat) (cZ : Int32) (cPe : Nat → Int32) (cTa : Nat → Int32) (cTu : Nat → Int32) (cBe : Nat → Int32) (sz : Nat) : RwV l yX1_clear wsX1_clear rm_X1_clear D (q_t cI cC cG) (wC cI cC cG c0 c1 c2 c3 c4 cZ cPe cTa cTu cBe) (wC cI cC cG c0 c1 c2 c3 c4 g_X1_clear_cZ cPe cTa cTu cBe) sz [.ref c0] := by
  refine rw_enter (cc := cX1_clear) (maxL := 1) (ret := none) (by decide) rfl (Nat.le_of_ble_eq_true rfl) ?_
  intro p e s m below meth c ls B hP hK hD hS hA hl
  obtain ⟨hx, hb, hr, hlocks, hml, hown, hts, hN⟩ := B
  have hown : s.vm.findClass RX1 = some m.cls := hown
  have hl : lv_has ls 1 [(0, .ref c0)] := hl
  have hf24 := hts (.fieldLink RX1 24 "OlderByABlush$Court" "size" "I") (by decide +kernel)
  have hinX1 : ∀ w ∈ u_ws RX1 TX1 5, w ∈ wsX1_clear := by decide +kernel
  refine lv_aload_n hx hb dX1_clear_0 rfl (lv_at hl 0 rfl) ?_
  refine lv_iconst (v := 0) hx hb dX1_clear_1 (by decide) ?_
  refine va_put (D := D) (ci := 1) (v := .int 0) (ty := .int) (C := RX1) (T := TX1) (N := 5) hx hb hts hinX1 tyX1 tyX1_ok nmX1 hown hK hP hD hS 0 rfl rfl 4 (by decide) hf24 (fun _ h9 => h9) rfl (by decide +kernel) rfl rfl (Nat.le_of_ble_eq_true rfl) dX1_clear_2 (fun H locs hP hD hS => ?_)
  have hP : va_P D vwCl [(c0, .inr (1, [.ref c1, .ref c2, .ref c3, .ref c4, .int 0])), (c1, .inl (cI, 5, .inl cPe)), (c2, .inl (cI, 5, .inl cTa)), (c3, .inl (cI, 5, .inl cTu)), (c4, .inl (cI, 5, .inl cBe))] H := hP
  have hD : va_D (va_A (wC cI cC cG c0 c1 c2 c3 c4 cZ cPe cTa cTu cBe) sz) [(c0, .inr (1, [.ref c1, .ref c2, .ref c3, .ref c4, .int 0])), (c1, .inl (cI, 5, .inl cPe)), (c2, .inl (cI, 5, .inl cTa)), (c3, .inl (cI, 5, .inl cTu)), (c4, .inl (cI, 5, .inl cBe))] := hD
  have e_1 : g_X1_clear_cZ = 0 := by simp only [g_X1_clear_cZ]
  exact rw_vret hx hb hr hlocks hP hD hS (by rw [e_1]) dX1_clear_5
def f_X1_add (cZ : Int32) : Int32 := (if cZ < 0 then 0 else (if cZ < 5 then 1 else 0))
def g_X1_add_cZ (cZ : Int32) : Int32 := (if cZ < 0 then cZ else (if cZ < 5 then (cZ + 1) else cZ))
def g_X1_add_cPe (cZ : Int32) (cPe : Nat → Int32) (p0 : Int32) : Nat → Int32 := (if cZ < 0 then cPe else (if cZ < 5 then (upd cPe (Int32.toNatClampNeg cZ) p0) else cPe))
def g_X1_add_cTa (cZ : Int32) (cTa : Nat → Int32) (p1 : Int32) : Nat → Int32 := (if cZ < 0 then cTa else (if cZ < 5 then (upd cTa (Int32.toNatClampNeg cZ) p1) else cTa))
abbrev rm_X1_add : Room := { frames := 0, cells := 0, slots := 0, locals := 0 }
set_option maxRecDepth 100000 in
set_option maxHeartbeats 4000000 in
theorem c_X1_add (l : Launch) (D : va_G) (cI cC cG : ClassId) (c0 : Nat) (c1 : Nat) (c2 : Nat) (c3 : Nat) (c4 : Nat) (cZ : Int32) (cPe : Nat → Int32) (cTa : Nat → Int32) (cTu : Nat → Int32) (cBe : Nat → Int32) (p0 : Int32) (p1 : Int32) (sz : Nat) : RwI l yX1_add wsX1_add rm_X1_add D (q_t cI cC cG) (wC cI cC cG c0 c1 c2 c3 c4 cZ cPe cTa cTu cBe) (wC cI cC cG c0 c1 c2 c3 c4 (g_X1_add_cZ cZ) (g_X1_add_cPe cZ cPe p0) (g_X1_add_cTa cZ cTa p1) cTu cBe) sz [.ref c0, .int p0, .int p1] (f_X1_add cZ) := by
  refine rw_enter (cc := cX1_add) (maxL := 3) (ret := (some .boolean)) (by decide) rfl (Nat.le_of_ble_eq_true rfl) ?_
  intro p e s m below meth c ls B hP hK hD hS hA hl
  obtain ⟨hx, hb, hr, hlocks, hml, hown, hts, hN⟩ := B
  have hown : s.vm.findClass RX1 = some m.cls := hown
  have hl : lv_has ls 3 [(0, .ref c0), (1, .int p0), (2, .int p1)] := hl
  have hf24 := hts (.fieldLink RX1 24 "OlderByABlush$Court" "size" "I") (by decide +kernel)
  have hinX1 : ∀ w ∈ u_ws RX1 TX1 5, w ∈ wsX1_add := by decide +kernel
  have hf9 := hts (.fieldLink RX1 9 "OlderByABlush$Court" "persons" "[I") (by decide +kernel)
  have hf15 := hts (.fieldLink RX1 15 "OlderByABlush$Court" "tales" "[I") (by decide +kernel)
  refine lv_aload_n hx hb dX1_add_0 rfl (lv_at hl 0 rfl) ?_
  refine va_get (D := D) (ci := 1) (v := .int cZ) (C := RX1) (T := TX1) (N := 5) hx hb hts hinX1 hown hK hP 0 rfl rfl 4 (by decide) hf24 (fun _ h9 => h9) rfl dX1_add_1 ?_
  refine lv_if_lt (tgt := 15) hx hb dX1_add_4 (by decide) (fun c_1 => ?_) (fun c_1 => ?_)
  · refine lv_iconst (v := 0) hx hb dX1_add_15 (by decide) ?_
    have e_2 : (g_X1_add_cZ cZ) = cZ := by simp only [g_X1_add_cZ, if_pos c_1]
    have e_3 : (g_X1_add_cPe cZ cPe p0) = cPe := by simp only [g_X1_add_cPe, if_pos c_1]
    have e_4 : (g_X1_add_cTa cZ cTa p1) = cTa := by simp only [g_X1_add_cTa, if_pos c_1]
    exact rw_zret hx hb hr (by rfl) hlocks hP hD hS (by simp only [f_X1_add, if_pos c_1]) (by rw [e_2, e_3, e_4]) dX1_add_16
  refine lv_aload_n hx hb dX1_add_7 rfl (lv_at hl 0 rfl) ?_
  refine va_get (D := D) (ci := 1) (v := .int cZ) (C := RX1) (T := TX1) (N := 5) hx hb hts hinX1 hown hK hP 0 rfl rfl 4 (by decide) hf24 (fun _ h9 => h9) rfl dX1_add_8 ?_
  refine lv_iconst (v := 5) hx hb dX1_add_11 (by decide) ?_
  refine lv_icmp_lt (tgt := 17) hx hb dX1_add_12 (by decide) (fun c_5 => ?_) (fun c_5 => ?_)
  · refine lv_aload_n hx hb dX1_add_17 rfl (lv_at hl 0 rfl) ?_
    refine va_get (D := D) (ci := 1) (v := .ref c1) (C := RX1) (T := TX1) (N := 5) hx hb hts hinX1 hown hK hP 0 rfl rfl 0 (by decide) hf9 (fun _ h9 => h9) rfl dX1_add_18 ?_
    refine lv_aload_n hx hb dX1_add_21 rfl (lv_at hl 0 rfl) ?_
    refine va_get (D := D) (ci := 1) (v := .int cZ) (C := RX1) (T := TX1) (N := 5) hx hb hts hinX1 hown hK hP 0 rfl rfl 4 (by decide) hf24 (fun _ h9 => h9) rfl dX1_add_22 ?_
    refine lv_iload_n hx hb dX1_add_25 rfl (lv_at hl 1 rfl) ?_
    refine q_iast hx hb hK hP hD hS 1 0 rfl rfl (in_cmp2 c_1 c_5) (Int32.toNatClampNeg cZ) rfl dX1_add_26 (fun H locs hP hD hS => ?_)
    have hP : va_P D vwCl [(c0, .inr (1, [.ref c1, .ref c2, .ref c3, .ref c4, .int cZ])), (c1, .inl (cI, 5, .inl (upd cPe (Int32.toNatClampNeg cZ) p0))), (c2, .inl (cI, 5, .inl cTa)), (c3, .inl (cI, 5, .inl cTu)), (c4, .inl (cI, 5, .inl cBe))] H := hP
    have hD : va_D (va_A (wC cI cC cG c0 c1 c2 c3 c4 cZ cPe cTa cTu cBe) sz) [(c0, .inr (1, [.ref c1, .ref c2, .ref c3, .ref c4, .int cZ])), (c1, .inl (cI, 5, .inl (upd cPe (Int32.toNatClampNeg cZ) p0))), (c2, .inl (cI, 5, .inl cTa)), (c3, .inl (cI, 5, .inl cTu)), (c4, .inl (cI, 5, .inl cBe))] := hD
    refine lv_aload_n hx hb dX1_add_27 rfl (lv_at hl 0 rfl) ?_
    refine va_get (D := D) (ci := 1) (v := .ref c2) (C := RX1) (T := TX1) (N := 5) hx hb hts hinX1 hown hK hP 0 rfl rfl 1 (by decide) hf15 (fun _ h9 => h9) rfl dX1_add_28 ?_
    refine lv_aload_n hx hb dX1_add_31 rfl (lv_at hl 0 rfl) ?_
    refine va_get (D := D) (ci := 1) (v := .int cZ) (C := RX1) (T := TX1) (N := 5) hx hb hts hinX1 hown hK hP 0 rfl rfl 4 (by decide) hf24 (fun _ h9 => h9) rfl dX1_add_32 ?_
    refine lv_iload_n hx hb dX1_add_35 rfl (lv_at hl 2 rfl) ?_
    refine q_iast hx hb hK hP hD hS 2 0 rfl rfl (in_cmp2 c_1 c_5) (Int32.toNatClampNeg cZ) rfl dX1_add_36 (fun H locs hP hD hS => ?_)
    have hP : va_P D vwCl [(c0, .inr (1, [.ref c1, .ref c2, .ref c3, .ref c4, .int cZ])), (c1, .inl (cI, 5, .inl (upd cPe (Int32.toNatClampNeg cZ) p0))), (c2, .inl (cI, 5, .inl (upd cTa (Int32.toNatClampNeg cZ) p1))), (c3, .inl (cI, 5, .inl cTu)), (c4, .inl (cI, 5, .inl cBe))] H := hP
    have hD : va_D (va_A (wC cI cC cG c0 c1 c2 c3 c4 cZ cPe cTa cTu cBe) sz) [(c0, .inr (1, [.ref c1, .ref c2, .ref c3, .ref c4, .int cZ])), (c1, .inl (cI, 5, .inl (upd cPe (Int32.toNatClampNeg cZ) p0))), (c2, .inl (cI, 5, .inl (upd cTa (Int32.toNatClampNeg cZ) p1))), (c3, .inl (cI, 5, .inl cTu)), (c4, .inl (cI, 5, .inl cBe))] := hD
    refine lv_aload_n hx hb dX1_add_37 rfl (lv_at hl 0 rfl) ?_
    refine lv_dup hx hb dX1_add_38 rfl ?_
    refine va_get (D := D) (ci := 1) (v := .int cZ) (C := RX1) (T := TX1) (N := 5) hx hb hts hinX1 hown hK hP 0 rfl rfl 4 (by decide) hf24 (fun _ h9 => h9) rfl dX1_add_39 ?_
    refine lv_iconst (v := 1) hx hb dX1_add_42 (by decide) ?_
    refine lv_iadd hx hb dX1_add_43 ?_
    refine va_put (D := D) (ci := 1) (v := .int (cZ + 1)) (ty := .int) (C := RX1) (T := TX1) (N := 5) hx hb hts hinX1 tyX1 tyX1_ok nmX1 hown hK hP hD hS 0 rfl rfl 4 (by decide) hf24 (fun _ h9 => h9) rfl (by decide +kernel) rfl rfl (Nat.le_of_ble_eq_true rfl) dX1_add_44 (fun H locs hP hD hS => ?_)
    have hP : va_P D vwCl [(c0, .inr (1, [.ref c1, .ref c2, .ref c3, .ref c4, .int (cZ + 1)])), (c1, .inl (cI, 5, .inl (upd cPe (Int32.toNatClampNeg cZ) p0))), (c2, .inl (cI, 5, .inl (upd cTa (Int32.toNatClampNeg cZ) p1))), (c3, .inl (cI, 5, .inl cTu)), (c4, .inl (cI, 5, .inl cBe))] H := hP
    have hD : va_D (va_A (wC cI cC cG c0 c1 c2 c3 c4 cZ cPe cTa cTu cBe) sz) [(c0, .inr (1, [.ref c1, .ref c2, .ref c3, .ref c4, .int (cZ + 1)])), (c1, .inl (cI, 5, .inl (upd cPe (Int32.toNatClampNeg cZ) p0))), (c2, .inl (cI, 5, .inl (upd cTa (Int32.toNatClampNeg cZ) p1))), (c3, .inl (cI, 5, .inl cTu)), (c4, .inl (cI, 5, .inl cBe))] := hD
    refine lv_iconst (v := 1) hx hb dX1_add_47 (by decide) ?_
    have e_6 : (g_X1_add_cZ cZ) = (cZ + 1) := by simp only [g_X1_add_cZ, if_neg c_1, if_pos c_5]
    have e_7 : (g_X1_add_cPe cZ cPe p0) = (upd cPe (Int32.toNatClampNeg cZ) p0) := by simp only [g_X1_add_cPe, if_neg c_1, if_pos c_5]
    have e_8 : (g_X1_add_cTa cZ cTa p1) = (upd cTa (Int32.toNatClampNeg cZ) p1) := by simp only [g_X1_add_cTa, if_neg c_1, if_pos c_5]
    exact rw_zret hx hb hr (by rfl) hlocks hP hD hS (by simp only [f_X1_add, if_neg c_1, if_pos c_5]) (by rw [e_6, e_7, e_8]) dX1_add_48
  refine lv_iconst (v := 0) hx hb dX1_add_15 (by decide) ?_
  have e_9 : (g_X1_add_cZ cZ) = cZ := by simp only [g_X1_add_cZ, if_neg c_1, if_neg c_5]
  have e_10 : (g_X1_add_cPe cZ cPe p0) = cPe := by simp only [g_X1_add_cPe, if_neg c_1, if_neg c_5]
  have e_11 : (g_X1_add_cTa cZ cTa p1) = cTa := by simp only [g_X1_add_cTa, if_neg c_1, if_neg c_5]
  exact rw_zret hx hb hr (by rfl) hlocks hP hD hS (by simp only [f_X1_add, if_neg c_1, if_neg c_5]) (by rw [e_9, e_10, e_11]) dX1_add_16
def f_X1_bestAt (cZ : Int32) (cBe : Nat → Int32) (p0 : Int32) : Int32 := (if p0 < 0 then (-1) else (if cZ ≤ p0 then (-1) else (if 5 ≤ p0 then (-1) else (cBe (Int32.toNatClampNeg p0)))))
abbrev rm_X1_bestAt : Room := { frames := 0, cells := 0, slots := 0, locals := 0 }
set_option maxRecDepth 100000 in
set_option maxHeartbeats 4000000 in
theorem c_X1_bestAt (l : Launch) (D : va_G) (cI cC cG : ClassId) (c0 : Nat) (c1 : Nat) (c2 : Nat) (c3 : Nat) (c4 : Nat) (cZ : Int32) (cPe : Nat → Int32) (cTa : Nat → Int32) (cTu : Nat → Int32) (cBe : Nat → Int32) (p0 : Int32) : RoI l yX1_bestAt wsX1_bestAt rm_X1_bestAt D (q_t cI cC cG) (wC cI cC cG c0 c1 c2 c3 c4 cZ cPe cTa cTu cBe) [.ref c0, .int p0] (f_X1_bestAt cZ cBe p0) := by
  refine ro_enter (cc := cX1_bestAt) (maxL := 2) (ret := (some .int)) (by decide) rfl (Nat.le_of_ble_eq_true rfl) ?_
  intro p e s m below meth c ls B hP hK hl
  obtain ⟨hx, hb, hr, hlocks, hml, hown, hts, hN⟩ := B
  have hS : va_S q_no s.heap s.heap [] := va_S.rf
  have hown : s.vm.findClass RX1 = some m.cls := hown
  have hl : lv_has ls 2 [(0, .ref c0), (1, .int p0)] := hl
  have hf24 := hts (.fieldLink RX1 24 "OlderByABlush$Court" "size" "I") (by decide +kernel)
  have hinX1 : ∀ w ∈ u_ws RX1 TX1 5, w ∈ wsX1_bestAt := by decide +kernel
  have hf21 := hts (.fieldLink RX1 21 "OlderByABlush$Court" "best" "[I") (by decide +kernel)
  refine lv_iload_n hx hb dX1_bestAt_0 rfl (lv_at hl 1 rfl) ?_
  refine lv_if_lt (tgt := 26) hx hb dX1_bestAt_1 (by decide) (fun c_1 => ?_) (fun c_1 => ?_)
  · refine lv_iconst (v := (-1)) hx hb dX1_bestAt_26 (by decide) ?_
    exact ro_iret hx hb hr hlocks hS (by simp only [f_X1_bestAt, if_pos c_1]) dX1_bestAt_27
  refine lv_iload_n hx hb dX1_bestAt_4 rfl (lv_at hl 1 rfl) ?_
  refine lv_aload_n hx hb dX1_bestAt_5 rfl (lv_at hl 0 rfl) ?_
  refine va_get (D := D) (ci := 1) (v := .int cZ) (C := RX1) (T := TX1) (N := 5) hx hb hts hinX1 hown hK hP 0 rfl rfl 4 (by decide) hf24 (fun _ h9 => h9) rfl dX1_bestAt_6 ?_
  refine lv_icmp_ge (tgt := 26) hx hb dX1_bestAt_9 (by decide) (fun c_2 => ?_) (fun c_2 => ?_)
  · refine lv_iconst (v := (-1)) hx hb dX1_bestAt_26 (by decide) ?_
    exact ro_iret hx hb hr hlocks hS (by simp only [f_X1_bestAt, if_neg c_1, if_pos c_2]) dX1_bestAt_27
  refine lv_iload_n hx hb dX1_bestAt_12 rfl (lv_at hl 1 rfl) ?_
  refine lv_iconst (v := 5) hx hb dX1_bestAt_13 (by decide) ?_
  refine lv_icmp_ge (tgt := 26) hx hb dX1_bestAt_14 (by decide) (fun c_3 => ?_) (fun c_3 => ?_)
  · refine lv_iconst (v := (-1)) hx hb dX1_bestAt_26 (by decide) ?_
    exact ro_iret hx hb hr hlocks hS (by simp only [f_X1_bestAt, if_neg c_1, if_neg c_2, if_pos c_3]) dX1_bestAt_27
  refine lv_aload_n hx hb dX1_bestAt_17 rfl (lv_at hl 0 rfl) ?_
  refine va_get (D := D) (ci := 1) (v := .ref c4) (C := RX1) (T := TX1) (N := 5) hx hb hts hinX1 hown hK hP 0 rfl rfl 3 (by decide) hf21 (fun _ h9 => h9) rfl dX1_bestAt_18 ?_
  refine lv_iload_n hx hb dX1_bestAt_21 rfl (lv_at hl 1 rfl) ?_
  refine q_iald hx hb hK hP 4 0 rfl rfl (in_cmp c_1 c_3) (Int32.toNatClampNeg p0) rfl dX1_bestAt_22 ?_
  refine lv_goto (tgt := 27) hx hb dX1_bestAt_23 (by decide) ?_
  exact ro_iret hx hb hr hlocks hS (by simp only [f_X1_bestAt, if_neg c_1, if_neg c_2, if_neg c_3]) dX1_bestAt_27
def f_X1_personAt (cPe : Nat → Int32) (cTu : Nat → Int32) (p0 : Int32) : Int32 := (if p0 < 0 then (cPe 0) else (if 5 ≤ p0 then (cPe 0) else (if (cTu (Int32.toNatClampNeg p0)) < 0 then 0 else (if 5 ≤ (cTu (Int32.toNatClampNeg p0)) then 0 else (cPe (Int32.toNatClampNeg (cTu (Int32.toNatClampNeg p0))))))))
abbrev rm_X1_personAt : Room := { frames := 0, cells := 0, slots := 0, locals := 0 }
set_option maxRecDepth 100000 in
set_option maxHeartbeats 4000000 in
theorem c_X1_personAt (l : Launch) (D : va_G) (cI cC cG : ClassId) (c0 : Nat) (c1 : Nat) (c2 : Nat) (c3 : Nat) (c4 : Nat) (cZ : Int32) (cPe : Nat → Int32) (cTa : Nat → Int32) (cTu : Nat → Int32) (cBe : Nat → Int32) (p0 : Int32) : RoI l yX1_personAt wsX1_personAt rm_X1_personAt D (q_t cI cC cG) (wC cI cC cG c0 c1 c2 c3 c4 cZ cPe cTa cTu cBe) [.ref c0, .int p0] (f_X1_personAt cPe cTu p0) := by
  refine ro_enter (cc := cX1_personAt) (maxL := 3) (ret := (some .int)) (by decide) rfl (Nat.le_of_ble_eq_true rfl) ?_
  intro p e s m below meth c ls B hP hK hl
  obtain ⟨hx, hb, hr, hlocks, hml, hown, hts, hN⟩ := B
  have hS : va_S q_no s.heap s.heap [] := va_S.rf
  have hown : s.vm.findClass RX1 = some m.cls := hown
  have hl : lv_has ls 3 [(0, .ref c0), (1, .int p0)] := hl
  have hf9 := hts (.fieldLink RX1 9 "OlderByABlush$Court" "persons" "[I") (by decide +kernel)
  have hinX1 : ∀ w ∈ u_ws RX1 TX1 5, w ∈ wsX1_personAt := by decide +kernel
  have hf18 := hts (.fieldLink RX1 18 "OlderByABlush$Court" "turn" "[I") (by decide +kernel)
  refine lv_iload_n hx hb dX1_personAt_0 rfl (lv_at hl 1 rfl) ?_
  refine lv_if_lt (tgt := 18) hx hb dX1_personAt_1 (by decide) (fun c_1 => ?_) (fun c_1 => ?_)
  · refine lv_iconst (v := 0) hx hb dX1_personAt_18 (by decide) ?_
    refine lv_istore_n (lv' := [(2, .int 0), (0, .ref c0), (1, .int p0)]) hx hb dX1_personAt_19 rfl hl (by decide) rfl (fun ls hl => ?_)
    refine lv_iload_n hx hb dX1_personAt_20 rfl (lv_at hl 0 rfl) ?_
    refine lv_if_lt (tgt := 38) hx hb dX1_personAt_21 (by decide) (fun c_2 => ?_) (fun c_2 => ?_)
    · exact absurd c_2 (by decide : ¬ ((0 : Int32) < 0))
    refine lv_iload_n hx hb dX1_personAt_24 rfl (lv_at hl 0 rfl) ?_
    refine lv_iconst (v := 5) hx hb dX1_personAt_25 (by decide) ?_
    refine lv_icmp_ge (tgt := 38) hx hb dX1_personAt_26 (by decide) (fun c_3 => ?_) (fun c_3 => ?_)
    · exact absurd c_3 (by decide : ¬ ((5 : Int32) ≤ 0))
    refine lv_aload_n hx hb dX1_personAt_29 rfl (lv_at hl 1 rfl) ?_
    refine va_get (D := D) (ci := 1) (v := .ref c1) (C := RX1) (T := TX1) (N := 5) hx hb hts hinX1 hown hK hP 0 rfl rfl 0 (by decide) hf9 (fun _ h9 => h9) rfl dX1_personAt_30 ?_
    refine lv_iload_n hx hb dX1_personAt_33 rfl (lv_at hl 0 rfl) ?_
    refine q_iald hx hb hK hP 1 0 rfl rfl (vp_in_nI (n := 0) (N := 5) (by decide) (by decide)) 0 (by decide) dX1_personAt_34 ?_
    refine lv_goto (tgt := 39) hx hb dX1_personAt_35 (by decide) ?_
    exact ro_iret hx hb hr hlocks hS (by simp only [f_X1_personAt, if_pos c_1]) dX1_personAt_39
  refine lv_iload_n hx hb dX1_personAt_4 rfl (lv_at hl 1 rfl) ?_
  refine lv_iconst (v := 5) hx hb dX1_personAt_5 (by decide) ?_
  refine lv_icmp_ge (tgt := 18) hx hb dX1_personAt_6 (by decide) (fun c_4 => ?_) (fun c_4 => ?_)
  · refine lv_iconst (v := 0) hx hb dX1_personAt_18 (by decide) ?_
    refine lv_istore_n (lv' := [(2, .int 0), (0, .ref c0), (1, .int p0)]) hx hb dX1_personAt_19 rfl hl (by decide) rfl (fun ls hl => ?_)
    refine lv_iload_n hx hb dX1_personAt_20 rfl (lv_at hl 0 rfl) ?_
    refine lv_if_lt (tgt := 38) hx hb dX1_personAt_21 (by decide) (fun c_5 => ?_) (fun c_5 => ?_)
    · exact absurd c_5 (by decide : ¬ ((0 : Int32) < 0))
    refine lv_iload_n hx hb dX1_personAt_24 rfl (lv_at hl 0 rfl) ?_
    refine lv_iconst (v := 5) hx hb dX1_personAt_25 (by decide) ?_
    refine lv_icmp_ge (tgt := 38) hx hb dX1_personAt_26 (by decide) (fun c_6 => ?_) (fun c_6 => ?_)
    · exact absurd c_6 (by decide : ¬ ((5 : Int32) ≤ 0))
    refine lv_aload_n hx hb dX1_personAt_29 rfl (lv_at hl 1 rfl) ?_
    refine va_get (D := D) (ci := 1) (v := .ref c1) (C := RX1) (T := TX1) (N := 5) hx hb hts hinX1 hown hK hP 0 rfl rfl 0 (by decide) hf9 (fun _ h9 => h9) rfl dX1_personAt_30 ?_
    refine lv_iload_n hx hb dX1_personAt_33 rfl (lv_at hl 0 rfl) ?_
    refine q_iald hx hb hK hP 1 0 rfl rfl (vp_in_nI (n := 0) (N := 5) (by decide) (by decide)) 0 (by decide) dX1_personAt_34 ?_
    refine lv_goto (tgt := 39) hx hb dX1_personAt_35 (by decide) ?_
    exact ro_iret hx hb hr hlocks hS (by simp only [f_X1_personAt, if_neg c_1, if_pos c_4]) dX1_personAt_39
  refine lv_aload_n hx hb dX1_personAt_9 rfl (lv_at hl 0 rfl) ?_
  refine va_get (D := D) (ci := 1) (v := .ref c3) (C := RX1) (T := TX1) (N := 5) hx hb hts hinX1 hown hK hP 0 rfl rfl 2 (by decide) hf18 (fun _ h9 => h9) rfl dX1_personAt_10 ?_
  refine lv_iload_n hx hb dX1_personAt_13 rfl (lv_at hl 1 rfl) ?_
  refine q_iald hx hb hK hP 3 0 rfl rfl (in_cmp c_1 c_4) (Int32.toNatClampNeg p0) rfl dX1_personAt_14 ?_
  refine lv_goto (tgt := 19) hx hb dX1_personAt_15 (by decide) ?_
  refine lv_istore_n (lv' := [(2, .int (cTu (Int32.toNatClampNeg p0))), (0, .ref c0), (1, .int p0)]) hx hb dX1_personAt_19 rfl hl (by decide) rfl (fun ls hl => ?_)
  refine lv_iload_n hx hb dX1_personAt_20 rfl (lv_at hl 0 rfl) ?_
  refine lv_if_lt (tgt := 38) hx hb dX1_personAt_21 (by decide) (fun c_7 => ?_) (fun c_7 => ?_)
  · refine lv_iconst (v := 0) hx hb dX1_personAt_38 (by decide) ?_
    exact ro_iret hx hb hr hlocks hS (by simp only [f_X1_personAt, if_neg c_1, if_neg c_4, if_pos c_7]) dX1_personAt_39
  refine lv_iload_n hx hb dX1_personAt_24 rfl (lv_at hl 0 rfl) ?_
  refine lv_iconst (v := 5) hx hb dX1_personAt_25 (by decide) ?_
  refine lv_icmp_ge (tgt := 38) hx hb dX1_personAt_26 (by decide) (fun c_8 => ?_) (fun c_8 => ?_)
  · refine lv_iconst (v := 0) hx hb dX1_personAt_38 (by decide) ?_
    exact ro_iret hx hb hr hlocks hS (by simp only [f_X1_personAt, if_neg c_1, if_neg c_4, if_neg c_7, if_pos c_8]) dX1_personAt_39
  refine lv_aload_n hx hb dX1_personAt_29 rfl (lv_at hl 1 rfl) ?_
  refine va_get (D := D) (ci := 1) (v := .ref c1) (C := RX1) (T := TX1) (N := 5) hx hb hts hinX1 hown hK hP 0 rfl rfl 0 (by decide) hf9 (fun _ h9 => h9) rfl dX1_personAt_30 ?_
  refine lv_iload_n hx hb dX1_personAt_33 rfl (lv_at hl 0 rfl) ?_
  refine q_iald hx hb hK hP 1 0 rfl rfl (in_cmp c_7 c_8) (Int32.toNatClampNeg (cTu (Int32.toNatClampNeg p0))) rfl dX1_personAt_34 ?_
  refine lv_goto (tgt := 39) hx hb dX1_personAt_35 (by decide) ?_
  exact ro_iret hx hb hr hlocks hS (by simp only [f_X1_personAt, if_neg c_1, if_neg c_4, if_neg c_7, if_neg c_8]) dX1_personAt_39
def f_X1_taleAt (cTa : Nat → Int32) (cTu : Nat → Int32) (p0 : Int32) : Int32 := (if p0 < 0 then (cTa 0) else (if 5 ≤ p0 then (cTa 0) else (if (cTu (Int32.toNatClampNeg p0)) < 0 then 0 else (if 5 ≤ (cTu (Int32.toNatClampNeg p0)) then 0 else (cTa (Int32.toNatClampNeg (cTu (Int32.toNatClampNeg p0))))))))
abbrev rm_X1_taleAt : Room := { frames := 0, cells := 0, slots := 0, locals := 0 }
set_option maxRecDepth 100000 in
set_option maxHeartbeats 4000000 in
theorem c_X1_taleAt (l : Launch) (D : va_G) (cI cC cG : ClassId) (c0 : Nat) (c1 : Nat) (c2 : Nat) (c3 : Nat) (c4 : Nat) (cZ : Int32) (cPe : Nat → Int32) (cTa : Nat → Int32) (cTu : Nat → Int32) (cBe : Nat → Int32) (p0 : Int32) : RoI l yX1_taleAt wsX1_taleAt rm_X1_taleAt D (q_t cI cC cG) (wC cI cC cG c0 c1 c2 c3 c4 cZ cPe cTa cTu cBe) [.ref c0, .int p0] (f_X1_taleAt cTa cTu p0) := by
  refine ro_enter (cc := cX1_taleAt) (maxL := 3) (ret := (some .int)) (by decide) rfl (Nat.le_of_ble_eq_true rfl) ?_
  intro p e s m below meth c ls B hP hK hl
  obtain ⟨hx, hb, hr, hlocks, hml, hown, hts, hN⟩ := B
  have hS : va_S q_no s.heap s.heap [] := va_S.rf
  have hown : s.vm.findClass RX1 = some m.cls := hown
  have hl : lv_has ls 3 [(0, .ref c0), (1, .int p0)] := hl
  have hf15 := hts (.fieldLink RX1 15 "OlderByABlush$Court" "tales" "[I") (by decide +kernel)
  have hinX1 : ∀ w ∈ u_ws RX1 TX1 5, w ∈ wsX1_taleAt := by decide +kernel
  have hf18 := hts (.fieldLink RX1 18 "OlderByABlush$Court" "turn" "[I") (by decide +kernel)
  refine lv_iload_n hx hb dX1_taleAt_0 rfl (lv_at hl 1 rfl) ?_
  refine lv_if_lt (tgt := 18) hx hb dX1_taleAt_1 (by decide) (fun c_1 => ?_) (fun c_1 => ?_)
  · refine lv_iconst (v := 0) hx hb dX1_taleAt_18 (by decide) ?_
    refine lv_istore_n (lv' := [(2, .int 0), (0, .ref c0), (1, .int p0)]) hx hb dX1_taleAt_19 rfl hl (by decide) rfl (fun ls hl => ?_)
    refine lv_iload_n hx hb dX1_taleAt_20 rfl (lv_at hl 0 rfl) ?_
    refine lv_if_lt (tgt := 38) hx hb dX1_taleAt_21 (by decide) (fun c_2 => ?_) (fun c_2 => ?_)
    · exact absurd c_2 (by decide : ¬ ((0 : Int32) < 0))
    refine lv_iload_n hx hb dX1_taleAt_24 rfl (lv_at hl 0 rfl) ?_
    refine lv_iconst (v := 5) hx hb dX1_taleAt_25 (by decide) ?_
    refine lv_icmp_ge (tgt := 38) hx hb dX1_taleAt_26 (by decide) (fun c_3 => ?_) (fun c_3 => ?_)
    · exact absurd c_3 (by decide : ¬ ((5 : Int32) ≤ 0))
    refine lv_aload_n hx hb dX1_taleAt_29 rfl (lv_at hl 1 rfl) ?_
    refine va_get (D := D) (ci := 1) (v := .ref c2) (C := RX1) (T := TX1) (N := 5) hx hb hts hinX1 hown hK hP 0 rfl rfl 1 (by decide) hf15 (fun _ h9 => h9) rfl dX1_taleAt_30 ?_
    refine lv_iload_n hx hb dX1_taleAt_33 rfl (lv_at hl 0 rfl) ?_
    refine q_iald hx hb hK hP 2 0 rfl rfl (vp_in_nI (n := 0) (N := 5) (by decide) (by decide)) 0 (by decide) dX1_taleAt_34 ?_
    refine lv_goto (tgt := 39) hx hb dX1_taleAt_35 (by decide) ?_
    exact ro_iret hx hb hr hlocks hS (by simp only [f_X1_taleAt, if_pos c_1]) dX1_taleAt_39
  refine lv_iload_n hx hb dX1_taleAt_4 rfl (lv_at hl 1 rfl) ?_
  refine lv_iconst (v := 5) hx hb dX1_taleAt_5 (by decide) ?_
  refine lv_icmp_ge (tgt := 18) hx hb dX1_taleAt_6 (by decide) (fun c_4 => ?_) (fun c_4 => ?_)
  · refine lv_iconst (v := 0) hx hb dX1_taleAt_18 (by decide) ?_
    refine lv_istore_n (lv' := [(2, .int 0), (0, .ref c0), (1, .int p0)]) hx hb dX1_taleAt_19 rfl hl (by decide) rfl (fun ls hl => ?_)
    refine lv_iload_n hx hb dX1_taleAt_20 rfl (lv_at hl 0 rfl) ?_
    refine lv_if_lt (tgt := 38) hx hb dX1_taleAt_21 (by decide) (fun c_5 => ?_) (fun c_5 => ?_)
    · exact absurd c_5 (by decide : ¬ ((0 : Int32) < 0))
    refine lv_iload_n hx hb dX1_taleAt_24 rfl (lv_at hl 0 rfl) ?_
    refine lv_iconst (v := 5) hx hb dX1_taleAt_25 (by decide) ?_
    refine lv_icmp_ge (tgt := 38) hx hb dX1_taleAt_26 (by decide) (fun c_6 => ?_) (fun c_6 => ?_)
    · exact absurd c_6 (by decide : ¬ ((5 : Int32) ≤ 0))
    refine lv_aload_n hx hb dX1_taleAt_29 rfl (lv_at hl 1 rfl) ?_
    refine va_get (D := D) (ci := 1) (v := .ref c2) (C := RX1) (T := TX1) (N := 5) hx hb hts hinX1 hown hK hP 0 rfl rfl 1 (by decide) hf15 (fun _ h9 => h9) rfl dX1_taleAt_30 ?_
    refine lv_iload_n hx hb dX1_taleAt_33 rfl (lv_at hl 0 rfl) ?_
    refine q_iald hx hb hK hP 2 0 rfl rfl (vp_in_nI (n := 0) (N := 5) (by decide) (by decide)) 0 (by decide) dX1_taleAt_34 ?_
    refine lv_goto (tgt := 39) hx hb dX1_taleAt_35 (by decide) ?_
    exact ro_iret hx hb hr hlocks hS (by simp only [f_X1_taleAt, if_neg c_1, if_pos c_4]) dX1_taleAt_39
  refine lv_aload_n hx hb dX1_taleAt_9 rfl (lv_at hl 0 rfl) ?_
  refine va_get (D := D) (ci := 1) (v := .ref c3) (C := RX1) (T := TX1) (N := 5) hx hb hts hinX1 hown hK hP 0 rfl rfl 2 (by decide) hf18 (fun _ h9 => h9) rfl dX1_taleAt_10 ?_
  refine lv_iload_n hx hb dX1_taleAt_13 rfl (lv_at hl 1 rfl) ?_
  refine q_iald hx hb hK hP 3 0 rfl rfl (in_cmp c_1 c_4) (Int32.toNatClampNeg p0) rfl dX1_taleAt_14 ?_
  refine lv_goto (tgt := 19) hx hb dX1_taleAt_15 (by decide) ?_
  refine lv_istore_n (lv' := [(2, .int (cTu (Int32.toNatClampNeg p0))), (0, .ref c0), (1, .int p0)]) hx hb dX1_taleAt_19 rfl hl (by decide) rfl (fun ls hl => ?_)
  refine lv_iload_n hx hb dX1_taleAt_20 rfl (lv_at hl 0 rfl) ?_
  refine lv_if_lt (tgt := 38) hx hb dX1_taleAt_21 (by decide) (fun c_7 => ?_) (fun c_7 => ?_)
  · refine lv_iconst (v := 0) hx hb dX1_taleAt_38 (by decide) ?_
    exact ro_iret hx hb hr hlocks hS (by simp only [f_X1_taleAt, if_neg c_1, if_neg c_4, if_pos c_7]) dX1_taleAt_39
  refine lv_iload_n hx hb dX1_taleAt_24 rfl (lv_at hl 0 rfl) ?_
  refine lv_iconst (v := 5) hx hb dX1_taleAt_25 (by decide) ?_
  refine lv_icmp_ge (tgt := 38) hx hb dX1_taleAt_26 (by decide) (fun c_8 => ?_) (fun c_8 => ?_)
  · refine lv_iconst (v := 0) hx hb dX1_taleAt_38 (by decide) ?_
    exact ro_iret hx hb hr hlocks hS (by simp only [f_X1_taleAt, if_neg c_1, if_neg c_4, if_neg c_7, if_pos c_8]) dX1_taleAt_39
  refine lv_aload_n hx hb dX1_taleAt_29 rfl (lv_at hl 1 rfl) ?_
  refine va_get (D := D) (ci := 1) (v := .ref c2) (C := RX1) (T := TX1) (N := 5) hx hb hts hinX1 hown hK hP 0 rfl rfl 1 (by decide) hf15 (fun _ h9 => h9) rfl dX1_taleAt_30 ?_
  refine lv_iload_n hx hb dX1_taleAt_33 rfl (lv_at hl 0 rfl) ?_
  refine q_iald hx hb hK hP 2 0 rfl rfl (in_cmp c_7 c_8) (Int32.toNatClampNeg (cTu (Int32.toNatClampNeg p0))) rfl dX1_taleAt_34 ?_
  refine lv_goto (tgt := 39) hx hb dX1_taleAt_35 (by decide) ?_
  exact ro_iret hx hb hr hlocks hS (by simp only [f_X1_taleAt, if_neg c_1, if_neg c_4, if_neg c_7, if_neg c_8]) dX1_taleAt_39
def F_X1_personsBehind_4 (x1 : Int32) (cZ : Int32) (cPe : Nat → Int32) (cTu : Nat → Int32) (i0_ : Int32) : Nat → Int32
  | 0 => i0_
  | j4_ + 1 => (if (nI j4_) ≤ x1 then (F_X1_personsBehind_4 x1 cZ cPe cTu i0_ j4_) else (if cZ ≤ (nI j4_) then (F_X1_personsBehind_4 x1 cZ cPe cTu i0_ j4_) else ((F_X1_personsBehind_4 x1 cZ cPe cTu i0_ j4_) ||| (1 <<< ((f_X1_personAt cPe cTu (nI j4_)) &&& 31)))))
def f_X1_personsBehind (cZ : Int32) (cPe : Nat → Int32) (cTu : Nat → Int32) (p0 : Int32) : Int32 := (F_X1_personsBehind_4 p0 cZ cPe cTu 0 5)
abbrev rm_X1_personsBehind : Room := { frames := 1, cells := 0, slots := 0, locals := 22 }
set_option maxRecDepth 100000 in
set_option maxHeartbeats 4000000 in
theorem c_X1_personsBehind (l : Launch) (D : va_G) (cI cC cG : ClassId) (c0 : Nat) (c1 : Nat) (c2 : Nat) (c3 : Nat) (c4 : Nat) (cZ : Int32) (cPe : Nat → Int32) (cTa : Nat → Int32) (cTu : Nat → Int32) (cBe : Nat → Int32) (p0 : Int32) : RoI l yX1_personsBehind wsX1_personsBehind rm_X1_personsBehind D (q_t cI cC cG) (wC cI cC cG c0 c1 c2 c3 c4 cZ cPe cTa cTu cBe) [.ref c0, .int p0] (f_X1_personsBehind cZ cPe cTu p0) := by
  refine ro_enter (cc := cX1_personsBehind) (maxL := 4) (ret := (some .int)) (by decide) rfl (Nat.le_of_ble_eq_true rfl) ?_
  intro p e s m below meth c ls B hP hK hl
  obtain ⟨hx, hb, hr, hlocks, hml, hown, hts, hN⟩ := B
  have hS : va_S q_no s.heap s.heap [] := va_S.rf
  have hown : s.vm.findClass RX1 = some m.cls := hown
  have hl : lv_has ls 4 [(0, .ref c0), (1, .int p0)] := hl
  have hf24 := hts (.fieldLink RX1 24 "OlderByABlush$Court" "size" "I") (by decide +kernel)
  have hinX1 : ∀ w ∈ u_ws RX1 TX1 5, w ∈ wsX1_personsBehind := by decide +kernel
  refine lv_iconst (v := 0) hx hb dX1_personsBehind_0 (by decide) ?_
  refine lv_istore_n (lv' := [(2, .int 0), (0, .ref c0), (1, .int p0)]) hx hb dX1_personsBehind_1 rfl hl (by decide) rfl (fun ls hl => ?_)
  refine lv_iconst (v := 0) hx hb dX1_personsBehind_2 (by decide) ?_
  refine lv_istore_n (lv' := [(3, .int 0), (2, .int 0), (0, .ref c0), (1, .int p0)]) hx hb dX1_personsBehind_3 rfl hl (by decide) rfl (fun ls hl => ?_)
  have K4_ : ∀ (H : Heap) (locs : List Loc), va_P D vwCl [(c0, .inr (1, [.ref c1, .ref c2, .ref c3, .ref c4, .int cZ])), (c1, .inl (cI, 5, .inl cPe)), (c2, .inl (cI, 5, .inl cTa)), (c3, .inl (cI, 5, .inl cTu)), (c4, .inl (cI, 5, .inl cBe))] H → va_S q_no s.heap H locs → ∀ ls : Array Slot, lv_has ls 4 [(2, .int (F_X1_personsBehind_4 p0 cZ cPe cTu 0 5))] → W p l e rm_X1_personsBehind s m ([.ref c0, .int p0] : List Value).toArray below meth c H locs 0 0 (MQ below (q_Qi (f_X1_personsBehind cZ cPe cTu p0)) ([.ref c0, .int p0] : List Value).toArray s 0 0 q_no) (F0 m 38 ls []) := by
    intro H locs hP hS ls hl
    refine lv_iload_n hx hb dX1_personsBehind_38 rfl (lv_at hl 0 rfl) ?_
    exact ro_iret hx hb hr hlocks hS (by simp only [f_X1_personsBehind]) dX1_personsBehind_39
  have loop4_ : ∀ (n4_ j4_ : Nat), j4_ + n4_ = 5 → ∀ (H : Heap) (locs : List Loc), va_P D vwCl [(c0, .inr (1, [.ref c1, .ref c2, .ref c3, .ref c4, .int cZ])), (c1, .inl (cI, 5, .inl cPe)), (c2, .inl (cI, 5, .inl cTa)), (c3, .inl (cI, 5, .inl cTu)), (c4, .inl (cI, 5, .inl cBe))] H → va_S q_no s.heap H locs → ∀ ls : Array Slot, lv_has ls 4 [(0, .ref c0), (1, .int p0), (2, .int (F_X1_personsBehind_4 p0 cZ cPe cTu 0 j4_)), (3, .int (nI j4_))] → W p l e rm_X1_personsBehind s m ([.ref c0, .int p0] : List Value).toArray below meth c H locs 0 0 (MQ below (q_Qi (f_X1_personsBehind cZ cPe cTu p0)) ([.ref c0, .int p0] : List Value).toArray s 0 0 q_no) (F0 m 4 ls []) := by
    intro n4_
    induction n4_ with
    | zero =>
      intro j4_ hj4_ H locs hP hS ls hl
      obtain rfl : j4_ = 5 := by omega
      refine lv_iload_n hx hb dX1_personsBehind_4 rfl (lv_at hl 3 rfl) ?_
      refine lv_iconst (v := 5) hx hb dX1_personsBehind_5 (by decide) ?_
      refine lv_icmp_ge (tgt := 38) hx hb dX1_personsBehind_6 (by decide) (fun c_1 => ?_) (fun c_1 => ?_)
      rotate_left
      · exact absurd (nI_le (Nat.le_refl 5) (by decide)) c_1
      exact K4_ _ _ hP hS _ (lv_sub hl [2] rfl)
    | succ n4_ ih4_ =>
      intro j4_ hj4_ H locs hP hS ls hl
      refine lv_iload_n hx hb dX1_personsBehind_4 rfl (lv_at hl 3 rfl) ?_
      refine lv_iconst (v := 5) hx hb dX1_personsBehind_5 (by decide) ?_
      refine lv_icmp_ge (tgt := 38) hx hb dX1_personsBehind_6 (by decide) (fun c_2 => ?_) (fun c_2 => ?_)
      · exact absurd c_2 (nI_ge (b := 5) (by omega) (by decide))
      refine lv_iload_n hx hb dX1_personsBehind_9 rfl (lv_at hl 3 rfl) ?_
      refine lv_iload_n hx hb dX1_personsBehind_10 rfl (lv_at hl 1 rfl) ?_
      refine lv_icmp_le (tgt := 32) hx hb dX1_personsBehind_11 (by decide) (fun c_3 => ?_) (fun c_3 => ?_)
      · refine lv_iinc (v := (nI (j4_ + 1))) (lv' := [(3, .int (nI (j4_ + 1))), (0, .ref c0), (1, .int p0), (2, .int (F_X1_personsBehind_4 p0 cZ cPe cTu 0 j4_))]) hx hb dX1_personsBehind_32 hl (k := 3) rfl (nI_1 _) (by decide) rfl (fun ls hl => ?_)
        refine lv_goto (tgt := 4) hx hb dX1_personsBehind_35 (by decide) ?_
        have e_4 : (F_X1_personsBehind_4 p0 cZ cPe cTu 0 (j4_ + 1)) = (F_X1_personsBehind_4 p0 cZ cPe cTu 0 j4_) := by simp only [F_X1_personsBehind_4, if_pos c_3]
        exact ih4_ (j4_ + 1) (by omega) _ _ hP hS _ (by rw [e_4]; exact (lv_sub hl [1, 2, 3, 0] rfl))
      refine lv_iload_n hx hb dX1_personsBehind_14 rfl (lv_at hl 3 rfl) ?_
      refine lv_aload_n hx hb dX1_personsBehind_15 rfl (lv_at hl 0 rfl) ?_
      refine va_get (D := D) (ci := 1) (v := .int cZ) (C := RX1) (T := TX1) (N := 5) hx hb hts hinX1 hown hK hP 0 rfl rfl 4 (by decide) hf24 (fun _ h9 => h9) rfl dX1_personsBehind_16 ?_
      refine lv_icmp_ge (tgt := 32) hx hb dX1_personsBehind_19 (by decide) (fun c_5 => ?_) (fun c_5 => ?_)
      · refine lv_iinc (v := (nI (j4_ + 1))) (lv' := [(3, .int (nI (j4_ + 1))), (0, .ref c0), (1, .int p0), (2, .int (F_X1_personsBehind_4 p0 cZ cPe cTu 0 j4_))]) hx hb dX1_personsBehind_32 hl (k := 3) rfl (nI_1 _) (by decide) rfl (fun ls hl => ?_)
        refine lv_goto (tgt := 4) hx hb dX1_personsBehind_35 (by decide) ?_
        have e_6 : (F_X1_personsBehind_4 p0 cZ cPe cTu 0 (j4_ + 1)) = (F_X1_personsBehind_4 p0 cZ cPe cTu 0 j4_) := by simp only [F_X1_personsBehind_4, if_neg c_3, if_pos c_5]
        exact ih4_ (j4_ + 1) (by omega) _ _ hP hS _ (by rw [e_6]; exact (lv_sub hl [1, 2, 3, 0] rfl))
      refine lv_iload_n hx hb dX1_personsBehind_22 rfl (lv_at hl 2 rfl) ?_
      refine lv_iconst (v := 1) hx hb dX1_personsBehind_23 (by decide) ?_
      refine lv_aload_n hx hb dX1_personsBehind_24 rfl (lv_at hl 0 rfl) ?_
      refine lv_iload_n hx hb dX1_personsBehind_25 rfl (lv_at hl 3 rfl) ?_
      refine ro_i (va_runV (As := [.int (nI j4_)]) (rest := [.int 1, .int (F_X1_personsBehind_4 p0 cZ cPe cTu 0 j4_)]) ⟨hx, hb, hml, hown, hts⟩ (c_X1_personAt l D cI cC cG c0 c1 c2 c3 c4 cZ cPe cTa cTu cBe (nI j4_)) (cwV 1 hts gX1_personsBehind_X1_personAt rfl rfl rfl (by decide +kernel) ⟨Nat.le_of_ble_eq_true rfl, Nat.le_of_ble_eq_true rfl⟩) (q_preV hK hP hN [0, 1, 2, 3, 4] rfl (ci := 1) (q0 := 0) rfl rfl) rfl rfl hl.1 rfl (lv_room (Nat.le_of_ble_eq_true rfl)) dX1_personsBehind_26 ⟨Nat.zero_le _, Nat.zero_le _⟩) hS hP (fun H locs hP hS => ?_)
      refine lv_ishl hx hb dX1_personsBehind_29 ?_
      refine lv_ior hx hb dX1_personsBehind_30 ?_
      refine lv_istore_n (lv' := [(2, .int ((F_X1_personsBehind_4 p0 cZ cPe cTu 0 j4_) ||| (1 <<< ((f_X1_personAt cPe cTu (nI j4_)) &&& 31)))), (0, .ref c0), (1, .int p0), (3, .int (nI j4_))]) hx hb dX1_personsBehind_31 rfl hl (by decide) rfl (fun ls hl => ?_)
      refine lv_iinc (v := (nI (j4_ + 1))) (lv' := [(3, .int (nI (j4_ + 1))), (2, .int ((F_X1_personsBehind_4 p0 cZ cPe cTu 0 j4_) ||| (1 <<< ((f_X1_personAt cPe cTu (nI j4_)) &&& 31)))), (0, .ref c0), (1, .int p0)]) hx hb dX1_personsBehind_32 hl (k := 3) rfl (nI_1 _) (by decide) rfl (fun ls hl => ?_)
      refine lv_goto (tgt := 4) hx hb dX1_personsBehind_35 (by decide) ?_
      have e_7 : (F_X1_personsBehind_4 p0 cZ cPe cTu 0 (j4_ + 1)) = ((F_X1_personsBehind_4 p0 cZ cPe cTu 0 j4_) ||| (1 <<< ((f_X1_personAt cPe cTu (nI j4_)) &&& 31))) := by simp only [F_X1_personsBehind_4, if_neg c_3, if_neg c_5]
      exact ih4_ (j4_ + 1) (by omega) _ _ hP hS _ (by rw [e_7]; exact (lv_sub hl [2, 3, 1, 0] rfl))
  exact loop4_ 5 0 (by omega) _ _ hP hS _ (lv_sub hl [2, 3, 1, 0] rfl)
def F_X1_hear_2 (cZ : Int32) (cPe : Nat → Int32) (cTa : Nat → Int32) (cTu : Nat → Int32) (vP : Int32) (vS : Int32) (vD : Int32) (vKi : Nat → Int32) (vOw : Nat → Int32) (i0_ : Nat → Int32) : Nat → (Nat → Int32)
  | 0 => i0_
  | j2_ + 1 => (if cZ ≤ (nI j2_) then (F_X1_hear_2 cZ cPe cTa cTu vP vS vD vKi vOw i0_ j2_) else (if (f_X6_isAlive (F_X1_hear_2 cZ cPe cTa cTu vP vS vD vKi vOw i0_ j2_) vP vD (f_X1_personAt cPe cTu (nI j2_))) = 0 then (F_X1_hear_2 cZ cPe cTa cTu vP vS vD vKi vOw i0_ j2_) else (if (f_X6_knows (F_X1_hear_2 cZ cPe cTa cTu vP vS vD vKi vOw i0_ j2_) vP vS (f_X1_personAt cPe cTu (nI j2_)) (f_X1_taleAt cTa cTu (nI j2_))) = 0 then (F_X1_hear_2 cZ cPe cTa cTu vP vS vD vKi vOw i0_ j2_) else (g_X6_speak_row (F_X1_hear_2 cZ cPe cTa cTu vP vS vD vKi vOw i0_ j2_) vP vS vD vKi vOw (f_X1_personAt cPe cTu (nI j2_)) (f_X1_taleAt cTa cTu (nI j2_)) ((f_X1_personsBehind cZ cPe cTu (nI j2_)) &&& ((1 <<< ((f_X1_personAt cPe cTu (nI j2_)) &&& 31)) ^^^ (-1)))))))
def g_X1_hear_row (cZ : Int32) (cPe : Nat → Int32) (cTa : Nat → Int32) (cTu : Nat → Int32) (row : Nat → Int32) (vP : Int32) (vS : Int32) (vD : Int32) (vKi : Nat → Int32) (vOw : Nat → Int32) : Nat → Int32 := (F_X1_hear_2 cZ cPe cTa cTu vP vS vD vKi vOw row 5)
abbrev rm_X1_hear : Room := { frames := 4, cells := 0, slots := 0, locals := 92 }
set_option maxRecDepth 100000 in
set_option maxHeartbeats 4000000 in
theorem c_X1_hear (l : Launch) (D : va_G) (cI cC cG : ClassId) (c0 : Nat) (c1 : Nat) (c2 : Nat) (c3 : Nat) (c4 : Nat) (s0 : Nat) (s1 : Nat) (v0 : Nat) (v1 : Nat) (v2 : Nat) (v3 : Nat) (v4 : Nat) (v5 : Nat) (cZ : Int32) (cPe : Nat → Int32) (cTa : Nat → Int32) (cTu : Nat → Int32) (cBe : Nat → Int32) (row : Nat → Int32) (vP : Int32) (vS : Int32) (vD : Int32) (vAg : Nat → Int32) (vKi : Nat → Int32) (vMe : Nat → Int32) (vOw : Nat → Int32) (vFk : Nat → Int32) (sz : Nat) : RwV l yX1_hear wsX1_hear rm_X1_hear D (q_t cI cC cG) (wCs cI cC cG c0 c1 c2 c3 c4 s0 s1 v0 v1 v2 v3 v4 v5 cZ cPe cTa cTu cBe row vP vS vD vAg vKi vMe vOw vFk) (wCs cI cC cG c0 c1 c2 c3 c4 s0 s1 v0 v1 v2 v3 v4 v5 cZ cPe cTa cTu cBe (g_X1_hear_row cZ cPe cTa cTu row vP vS vD vKi vOw) vP vS vD vAg vKi vMe vOw vFk) sz [.ref c0, .ref s0] := by
  refine rw_enter (cc := cX1_hear) (maxL := 5) (ret := none) (by decide) rfl (Nat.le_of_ble_eq_true rfl) ?_
  intro p e s m below meth c ls B hP hK hD hS hA hl
  obtain ⟨hx, hb, hr, hlocks, hml, hown, hts, hN⟩ := B
  have hown : s.vm.findClass RX1 = some m.cls := hown
  have hl : lv_has ls 5 [(0, .ref c0), (1, .ref s0)] := hl
  have hf24 := hts (.fieldLink RX1 24 "OlderByABlush$Court" "size" "I") (by decide +kernel)
  have hinX1 : ∀ w ∈ u_ws RX1 TX1 5, w ∈ wsX1_hear := by decide +kernel
  refine lv_iconst (v := 0) hx hb dX1_hear_0 (by decide) ?_
  refine lv_istore_n (lv' := [(2, .int 0), (0, .ref c0), (1, .ref s0)]) hx hb dX1_hear_1 rfl hl (by decide) rfl (fun ls hl => ?_)
  have K2_ : ∀ (H : Heap) (locs : List Loc), va_P D vwCl [(c0, .inr (1, [.ref c1, .ref c2, .ref c3, .ref c4, .int cZ])), (c1, .inl (cI, 5, .inl cPe)), (c2, .inl (cI, 5, .inl cTa)), (c3, .inl (cI, 5, .inl cTu)), (c4, .inl (cI, 5, .inl cBe)), (s0, .inr (6, [.ref v0, .ref s1])), (s1, .inl (cI, 15, .inl (F_X1_hear_2 cZ cPe cTa cTu vP vS vD vKi vOw row 5))), (v0, .inr (7, [.ref v1, .ref v2, .ref v3, .ref v4, .ref v5, .int vP, .int vS, .int vD])), (v1, .inl (cI, 6, .inl vAg)), (v2, .inl (cI, 6, .inl vKi)), (v3, .inl (cI, 6, .inl vMe)), (v4, .inl (cI, 8, .inl vOw)), (v5, .inl (cI, 8, .inl vFk))] H → va_D (va_A (wCs cI cC cG c0 c1 c2 c3 c4 s0 s1 v0 v1 v2 v3 v4 v5 cZ cPe cTa cTu cBe row vP vS vD vAg vKi vMe vOw vFk) sz) [(c0, .inr (1, [.ref c1, .ref c2, .ref c3, .ref c4, .int cZ])), (c1, .inl (cI, 5, .inl cPe)), (c2, .inl (cI, 5, .inl cTa)), (c3, .inl (cI, 5, .inl cTu)), (c4, .inl (cI, 5, .inl cBe)), (s0, .inr (6, [.ref v0, .ref s1])), (s1, .inl (cI, 15, .inl (F_X1_hear_2 cZ cPe cTa cTu vP vS vD vKi vOw row 5))), (v0, .inr (7, [.ref v1, .ref v2, .ref v3, .ref v4, .ref v5, .int vP, .int vS, .int vD])), (v1, .inl (cI, 6, .inl vAg)), (v2, .inl (cI, 6, .inl vKi)), (v3, .inl (cI, 6, .inl vMe)), (v4, .inl (cI, 8, .inl vOw)), (v5, .inl (cI, 8, .inl vFk))] → va_S (va_A (wCs cI cC cG c0 c1 c2 c3 c4 s0 s1 v0 v1 v2 v3 v4 v5 cZ cPe cTa cTu cBe row vP vS vD vAg vKi vMe vOw vFk) sz) s.heap H locs → ∀ ls : Array Slot, lv_has ls 5 [] → W p l e rm_X1_hear s m ([.ref c0, .ref s0] : List Value).toArray below meth c H locs 0 0 (MQ below (q_QWv D (wCs cI cC cG c0 c1 c2 c3 c4 s0 s1 v0 v1 v2 v3 v4 v5 cZ cPe cTa cTu cBe row vP vS vD vAg vKi vMe vOw vFk) (wCs cI cC cG c0 c1 c2 c3 c4 s0 s1 v0 v1 v2 v3 v4 v5 cZ cPe cTa cTu cBe (g_X1_hear_row cZ cPe cTa cTu row vP vS vD vKi vOw) vP vS vD vAg vKi vMe vOw vFk) sz) ([.ref c0, .ref s0] : List Value).toArray s 0 0 (va_A (wCs cI cC cG c0 c1 c2 c3 c4 s0 s1 v0 v1 v2 v3 v4 v5 cZ cPe cTa cTu cBe row vP vS vD vAg vKi vMe vOw vFk) sz)) (F0 m 71 ls []) := by
    intro H locs hP hD hS ls hl
    have e_1 : (g_X1_hear_row cZ cPe cTa cTu row vP vS vD vKi vOw) = (F_X1_hear_2 cZ cPe cTa cTu vP vS vD vKi vOw row 5) := by simp only [g_X1_hear_row]
    exact rw_vret hx hb hr hlocks hP hD hS (by rw [e_1]) dX1_hear_71
  have loop2_ : ∀ (n2_ j2_ : Nat), j2_ + n2_ = 5 → ∀ (H : Heap) (locs : List Loc), va_P D vwCl [(c0, .inr (1, [.ref c1, .ref c2, .ref c3, .ref c4, .int cZ])), (c1, .inl (cI, 5, .inl cPe)), (c2, .inl (cI, 5, .inl cTa)), (c3, .inl (cI, 5, .inl cTu)), (c4, .inl (cI, 5, .inl cBe)), (s0, .inr (6, [.ref v0, .ref s1])), (s1, .inl (cI, 15, .inl (F_X1_hear_2 cZ cPe cTa cTu vP vS vD vKi vOw row j2_))), (v0, .inr (7, [.ref v1, .ref v2, .ref v3, .ref v4, .ref v5, .int vP, .int vS, .int vD])), (v1, .inl (cI, 6, .inl vAg)), (v2, .inl (cI, 6, .inl vKi)), (v3, .inl (cI, 6, .inl vMe)), (v4, .inl (cI, 8, .inl vOw)), (v5, .inl (cI, 8, .inl vFk))] H → va_D (va_A (wCs cI cC cG c0 c1 c2 c3 c4 s0 s1 v0 v1 v2 v3 v4 v5 cZ cPe cTa cTu cBe row vP vS vD vAg vKi vMe vOw vFk) sz) [(c0, .inr (1, [.ref c1, .ref c2, .ref c3, .ref c4, .int cZ])), (c1, .inl (cI, 5, .inl cPe)), (c2, .inl (cI, 5, .inl cTa)), (c3, .inl (cI, 5, .inl cTu)), (c4, .inl (cI, 5, .inl cBe)), (s0, .inr (6, [.ref v0, .ref s1])), (s1, .inl (cI, 15, .inl (F_X1_hear_2 cZ cPe cTa cTu vP vS vD vKi vOw row j2_))), (v0, .inr (7, [.ref v1, .ref v2, .ref v3, .ref v4, .ref v5, .int vP, .int vS, .int vD])), (v1, .inl (cI, 6, .inl vAg)), (v2, .inl (cI, 6, .inl vKi)), (v3, .inl (cI, 6, .inl vMe)), (v4, .inl (cI, 8, .inl vOw)), (v5, .inl (cI, 8, .inl vFk))] → va_S (va_A (wCs cI cC cG c0 c1 c2 c3 c4 s0 s1 v0 v1 v2 v3 v4 v5 cZ cPe cTa cTu cBe row vP vS vD vAg vKi vMe vOw vFk) sz) s.heap H locs → ∀ ls : Array Slot, lv_has ls 5 [(0, .ref c0), (1, .ref s0), (2, .int (nI j2_))] → W p l e rm_X1_hear s m ([.ref c0, .ref s0] : List Value).toArray below meth c H locs 0 0 (MQ below (q_QWv D (wCs cI cC cG c0 c1 c2 c3 c4 s0 s1 v0 v1 v2 v3 v4 v5 cZ cPe cTa cTu cBe row vP vS vD vAg vKi vMe vOw vFk) (wCs cI cC cG c0 c1 c2 c3 c4 s0 s1 v0 v1 v2 v3 v4 v5 cZ cPe cTa cTu cBe (g_X1_hear_row cZ cPe cTa cTu row vP vS vD vKi vOw) vP vS vD vAg vKi vMe vOw vFk) sz) ([.ref c0, .ref s0] : List Value).toArray s 0 0 (va_A (wCs cI cC cG c0 c1 c2 c3 c4 s0 s1 v0 v1 v2 v3 v4 v5 cZ cPe cTa cTu cBe row vP vS vD vAg vKi vMe vOw vFk) sz)) (F0 m 2 ls []) := by
    intro n2_
    induction n2_ with
    | zero =>
      intro j2_ hj2_ H locs hP hD hS ls hl
      obtain rfl : j2_ = 5 := by omega
      refine lv_iload_n hx hb dX1_hear_2 rfl (lv_at hl 2 rfl) ?_
      refine lv_iconst (v := 5) hx hb dX1_hear_3 (by decide) ?_
      refine lv_icmp_ge (tgt := 71) hx hb dX1_hear_4 (by decide) (fun c_2 => ?_) (fun c_2 => ?_)
      rotate_left
      · exact absurd (nI_le (Nat.le_refl 5) (by decide)) c_2
      exact K2_ _ _ hP hD hS _ (lv_sub hl [] rfl)
    | succ n2_ ih2_ =>
      intro j2_ hj2_ H locs hP hD hS ls hl
      refine lv_iload_n hx hb dX1_hear_2 rfl (lv_at hl 2 rfl) ?_
      refine lv_iconst (v := 5) hx hb dX1_hear_3 (by decide) ?_
      refine lv_icmp_ge (tgt := 71) hx hb dX1_hear_4 (by decide) (fun c_3 => ?_) (fun c_3 => ?_)
      · exact absurd c_3 (nI_ge (b := 5) (by omega) (by decide))
      refine lv_iload_n hx hb dX1_hear_7 rfl (lv_at hl 2 rfl) ?_
      refine lv_aload_n hx hb dX1_hear_8 rfl (lv_at hl 0 rfl) ?_
      refine va_get (D := D) (ci := 1) (v := .int cZ) (C := RX1) (T := TX1) (N := 5) hx hb hts hinX1 hown hK hP 0 rfl rfl 4 (by decide) hf24 (fun _ h9 => h9) rfl dX1_hear_9 ?_
      refine lv_icmp_ge (tgt := 65) hx hb dX1_hear_12 (by decide) (fun c_4 => ?_) (fun c_4 => ?_)
      · refine lv_iinc (v := (nI (j2_ + 1))) (lv' := [(2, .int (nI (j2_ + 1))), (0, .ref c0), (1, .ref s0)]) hx hb dX1_hear_65 hl (k := 2) rfl (nI_1 _) (by decide) rfl (fun ls hl => ?_)
        refine lv_goto (tgt := 2) hx hb dX1_hear_68 (by decide) ?_
        have e_5 : (F_X1_hear_2 cZ cPe cTa cTu vP vS vD vKi vOw row (j2_ + 1)) = (F_X1_hear_2 cZ cPe cTa cTu vP vS vD vKi vOw row j2_) := by simp only [F_X1_hear_2, if_pos c_4]
        exact ih2_ (j2_ + 1) (by omega) _ _ (by rw [e_5]; exact hP) (by rw [e_5]; exact hD) hS _ (lv_sub hl [1, 2, 0] rfl)
      refine lv_aload_n hx hb dX1_hear_15 rfl (lv_at hl 0 rfl) ?_
      refine lv_iload_n hx hb dX1_hear_16 rfl (lv_at hl 2 rfl) ?_
      refine ro_i (va_runV (As := [.int (nI j2_)]) (rest := []) ⟨hx, hb, hml, hown, hts⟩ (c_X1_personAt l D cI cC cG c0 c1 c2 c3 c4 cZ cPe cTa cTu cBe (nI j2_)) (cwV 1 hts gX1_hear_X1_personAt rfl rfl rfl (by decide +kernel) ⟨Nat.le_of_ble_eq_true rfl, Nat.le_of_ble_eq_true rfl⟩) (q_preV hK hP hN [0, 1, 2, 3, 4] rfl (ci := 1) (q0 := 0) rfl rfl) rfl rfl hl.1 rfl (lv_room (Nat.le_of_ble_eq_true rfl)) dX1_hear_17 ⟨Nat.zero_le _, Nat.zero_le _⟩) hS hP (fun H locs hP hS => ?_)
      refine lv_istore_n (lv' := [(3, .int (f_X1_personAt cPe cTu (nI j2_))), (0, .ref c0), (1, .ref s0), (2, .int (nI j2_))]) hx hb dX1_hear_20 rfl hl (by decide) rfl (fun ls hl => ?_)
      refine lv_aload_n hx hb dX1_hear_21 rfl (lv_at hl 1 rfl) ?_
      refine lv_iload_n hx hb dX1_hear_22 rfl (lv_at hl 3 rfl) ?_
      refine ro_i (va_runV (As := [.int (nI j2_)]) (rest := []) ⟨hx, hb, hml, hown, hts⟩ (c_X1_taleAt l D cI cC cG c0 c1 c2 c3 c4 cZ cPe cTa cTu cBe (nI j2_)) (cwV 1 hts gX1_hear_X1_taleAt rfl rfl rfl (by decide +kernel) ⟨Nat.le_of_ble_eq_true rfl, Nat.le_of_ble_eq_true rfl⟩) (q_preV hK hP hN [0, 1, 2, 3, 4] rfl (ci := 1) (q0 := 0) rfl rfl) rfl rfl hl.1 rfl (lv_room (Nat.le_of_ble_eq_true rfl)) dX1_hear_23 ⟨Nat.zero_le _, Nat.zero_le _⟩) hS hP (fun H locs hP hS => ?_)
      refine lv_istore (lv' := [(4, .int (f_X1_taleAt cTa cTu (nI j2_))), (3, .int (f_X1_personAt cPe cTu (nI j2_))), (0, .ref c0), (1, .ref s0), (2, .int (nI j2_))]) hx hb dX1_hear_26 hl (by decide) rfl (fun ls hl => ?_)
      refine lv_aload_n hx hb dX1_hear_28 rfl (lv_at hl 3 rfl) ?_
      refine lv_iload_n hx hb dX1_hear_29 rfl (lv_at hl 1 rfl) ?_
      refine ro_i (va_runV (As := [.int (f_X1_personAt cPe cTu (nI j2_))]) (rest := []) ⟨hx, hb, hml, hown, hts⟩ (c_X6_isAlive l D cI cC cG s0 s1 v0 v1 v2 v3 v4 v5 (F_X1_hear_2 cZ cPe cTa cTu vP vS vD vKi vOw row j2_) vP vS vD vAg vKi vMe vOw vFk (f_X1_personAt cPe cTu (nI j2_))) (cwV 1 hts gX1_hear_X6_isAlive rfl rfl rfl (by decide +kernel) ⟨Nat.le_of_ble_eq_true rfl, Nat.le_of_ble_eq_true rfl⟩) (q_preV hK hP hN [5, 6, 7, 8, 9, 10, 11, 12] rfl (ci := 6) (q0 := 5) rfl rfl) rfl rfl hl.1 rfl (lv_room (Nat.le_of_ble_eq_true rfl)) dX1_hear_30 ⟨Nat.zero_le _, Nat.zero_le _⟩) hS hP (fun H locs hP hS => ?_)
      refine lv_if_eq (tgt := 65) hx hb dX1_hear_33 (by decide) (fun c_6 => ?_) (fun c_6 => ?_)
      · refine lv_iinc (v := (nI (j2_ + 1))) (lv' := [(2, .int (nI (j2_ + 1))), (4, .int (f_X1_taleAt cTa cTu (nI j2_))), (3, .int (f_X1_personAt cPe cTu (nI j2_))), (0, .ref c0), (1, .ref s0)]) hx hb dX1_hear_65 hl (k := 4) rfl (nI_1 _) (by decide) rfl (fun ls hl => ?_)
        refine lv_goto (tgt := 2) hx hb dX1_hear_68 (by decide) ?_
        have e_7 : (F_X1_hear_2 cZ cPe cTa cTu vP vS vD vKi vOw row (j2_ + 1)) = (F_X1_hear_2 cZ cPe cTa cTu vP vS vD vKi vOw row j2_) := by simp only [F_X1_hear_2, if_neg c_4, if_pos c_6]
        exact ih2_ (j2_ + 1) (by omega) _ _ (by rw [e_7]; exact hP) (by rw [e_7]; exact hD) hS _ (lv_sub hl [3, 4, 0] rfl)
      refine lv_aload_n hx hb dX1_hear_36 rfl (lv_at hl 3 rfl) ?_
      refine lv_iload_n hx hb dX1_hear_37 rfl (lv_at hl 1 rfl) ?_
      refine lv_iload hx hb dX1_hear_38 (lv_at hl 0 rfl) ?_
      refine ro_i (va_runV (As := [.int (f_X1_personAt cPe cTu (nI j2_)), .int (f_X1_taleAt cTa cTu (nI j2_))]) (rest := []) ⟨hx, hb, hml, hown, hts⟩ (c_X6_knows l D cI cC cG s0 s1 v0 v1 v2 v3 v4 v5 (F_X1_hear_2 cZ cPe cTa cTu vP vS vD vKi vOw row j2_) vP vS vD vAg vKi vMe vOw vFk (f_X1_personAt cPe cTu (nI j2_)) (f_X1_taleAt cTa cTu (nI j2_))) (cwV 2 hts gX1_hear_X6_knows rfl rfl rfl (by decide +kernel) ⟨Nat.le_of_ble_eq_true rfl, Nat.le_of_ble_eq_true rfl⟩) (q_preV hK hP hN [5, 6, 7, 8, 9, 10, 11, 12] rfl (ci := 6) (q0 := 5) rfl rfl) rfl rfl hl.1 rfl (lv_room (Nat.le_of_ble_eq_true rfl)) dX1_hear_40 ⟨Nat.zero_le _, Nat.zero_le _⟩) hS hP (fun H locs hP hS => ?_)
      refine lv_if_eq (tgt := 65) hx hb dX1_hear_43 (by decide) (fun c_8 => ?_) (fun c_8 => ?_)
      · refine lv_iinc (v := (nI (j2_ + 1))) (lv' := [(2, .int (nI (j2_ + 1))), (4, .int (f_X1_taleAt cTa cTu (nI j2_))), (3, .int (f_X1_personAt cPe cTu (nI j2_))), (0, .ref c0), (1, .ref s0)]) hx hb dX1_hear_65 hl (k := 4) rfl (nI_1 _) (by decide) rfl (fun ls hl => ?_)
        refine lv_goto (tgt := 2) hx hb dX1_hear_68 (by decide) ?_
        have e_9 : (F_X1_hear_2 cZ cPe cTa cTu vP vS vD vKi vOw row (j2_ + 1)) = (F_X1_hear_2 cZ cPe cTa cTu vP vS vD vKi vOw row j2_) := by simp only [F_X1_hear_2, if_neg c_4, if_neg c_6, if_pos c_8]
        exact ih2_ (j2_ + 1) (by omega) _ _ (by rw [e_9]; exact hP) (by rw [e_9]; exact hD) hS _ (lv_sub hl [3, 4, 0] rfl)
      refine lv_aload_n hx hb dX1_hear_46 rfl (lv_at hl 3 rfl) ?_
      refine lv_iload_n hx hb dX1_hear_47 rfl (lv_at hl 1 rfl) ?_
      refine lv_iload hx hb dX1_hear_48 (lv_at hl 0 rfl) ?_
      refine lv_aload_n hx hb dX1_hear_50 rfl (lv_at hl 2 rfl) ?_
      refine lv_iload_n hx hb dX1_hear_51 rfl (lv_at hl 4 rfl) ?_
      refine ro_i (va_runV (As := [.int (nI j2_)]) (rest := [.int (f_X1_taleAt cTa cTu (nI j2_)), .int (f_X1_personAt cPe cTu (nI j2_)), .ref s0]) ⟨hx, hb, hml, hown, hts⟩ (c_X1_personsBehind l D cI cC cG c0 c1 c2 c3 c4 cZ cPe cTa cTu cBe (nI j2_)) (cwV 1 hts gX1_hear_X1_personsBehind rfl rfl rfl (by decide +kernel) ⟨Nat.le_of_ble_eq_true rfl, Nat.le_of_ble_eq_true rfl⟩) (q_preV hK hP hN [0, 1, 2, 3, 4] rfl (ci := 1) (q0 := 0) rfl rfl) rfl rfl hl.1 rfl (lv_room (Nat.le_of_ble_eq_true rfl)) dX1_hear_52 ⟨Nat.zero_le _, Nat.zero_le _⟩) hS hP (fun H locs hP hS => ?_)
      refine lv_iconst (v := 1) hx hb dX1_hear_55 (by decide) ?_
      refine lv_iload_n hx hb dX1_hear_56 rfl (lv_at hl 1 rfl) ?_
      refine lv_ishl hx hb dX1_hear_57 ?_
      refine lv_iconst (v := (-1)) hx hb dX1_hear_58 (by decide) ?_
      refine lv_ixor hx hb dX1_hear_59 ?_
      refine lv_iand hx hb dX1_hear_60 ?_
      refine rw_i (wr := [(c0, .inr (1, [.ref c1, .ref c2, .ref c3, .ref c4, .int cZ])), (c1, .inl (cI, 5, .inl cPe)), (c2, .inl (cI, 5, .inl cTa)), (c3, .inl (cI, 5, .inl cTu)), (c4, .inl (cI, 5, .inl cBe))]) (ws2 := [(c0, .inr (1, [.ref c1, .ref c2, .ref c3, .ref c4, .int cZ])), (c1, .inl (cI, 5, .inl cPe)), (c2, .inl (cI, 5, .inl cTa)), (c3, .inl (cI, 5, .inl cTu)), (c4, .inl (cI, 5, .inl cBe)), (s0, .inr (6, [.ref v0, .ref s1])), (s1, .inl (cI, 15, .inl (g_X6_speak_row (F_X1_hear_2 cZ cPe cTa cTu vP vS vD vKi vOw row j2_) vP vS vD vKi vOw (f_X1_personAt cPe cTu (nI j2_)) (f_X1_taleAt cTa cTu (nI j2_)) ((f_X1_personsBehind cZ cPe cTu (nI j2_)) &&& ((1 <<< ((f_X1_personAt cPe cTu (nI j2_)) &&& 31)) ^^^ (-1)))))), (v0, .inr (7, [.ref v1, .ref v2, .ref v3, .ref v4, .ref v5, .int vP, .int vS, .int vD])), (v1, .inl (cI, 6, .inl vAg)), (v2, .inl (cI, 6, .inl vKi)), (v3, .inl (cI, 6, .inl vMe)), (v4, .inl (cI, 8, .inl vOw)), (v5, .inl (cI, 8, .inl vFk))]) (va_runV (As := [.int (f_X1_personAt cPe cTu (nI j2_)), .int (f_X1_taleAt cTa cTu (nI j2_)), .int ((f_X1_personsBehind cZ cPe cTu (nI j2_)) &&& ((1 <<< ((f_X1_personAt cPe cTu (nI j2_)) &&& 31)) ^^^ (-1)))]) (rest := []) ⟨hx, hb, hml, hown, hts⟩ (c_X6_speak l D cI cC cG s0 s1 v0 v1 v2 v3 v4 v5 (F_X1_hear_2 cZ cPe cTa cTu vP vS vD vKi vOw row j2_) vP vS vD vAg vKi vMe vOw vFk (f_X1_personAt cPe cTu (nI j2_)) (f_X1_taleAt cTa cTu (nI j2_)) ((f_X1_personsBehind cZ cPe cTu (nI j2_)) &&& ((1 <<< ((f_X1_personAt cPe cTu (nI j2_)) &&& 31)) ^^^ (-1))) H.size) (cwV 3 hts gX1_hear_X6_speak rfl rfl rfl (by decide +kernel) ⟨Nat.le_of_ble_eq_true rfl, Nat.le_of_ble_eq_true rfl⟩) (q_preWV hK hP hD hN [5, 6, 7, 8, 9, 10, 11, 12] (by decide) rfl rfl (ci := 6) (q0 := 5) rfl rfl) rfl rfl hl.1 rfl (lv_room (Nat.le_of_ble_eq_true rfl)) dX1_hear_61 ⟨Nat.zero_le _, Nat.zero_le _⟩) hS hA hP hD [5, 6, 7, 8, 9, 10, 11, 12] [0, 1, 2, 3, 4] rfl rfl (by decide) (by decide) [0, 1, 2, 3, 4, 5, 6, 7, 8, 9, 10, 11, 12] (by decide) rfl rfl (fun H locs hP hD hS => ?_)
      refine lv_pop hx hb dX1_hear_64 rfl ?_
      refine lv_iinc (v := (nI (j2_ + 1))) (lv' := [(2, .int (nI (j2_ + 1))), (4, .int (f_X1_taleAt cTa cTu (nI j2_))), (3, .int (f_X1_personAt cPe cTu (nI j2_))), (0, .ref c0), (1, .ref s0)]) hx hb dX1_hear_65 hl (k := 4) rfl (nI_1 _) (by decide) rfl (fun ls hl => ?_)
      refine lv_goto (tgt := 2) hx hb dX1_hear_68 (by decide) ?_
      have e_10 : (F_X1_hear_2 cZ cPe cTa cTu vP vS vD vKi vOw row (j2_ + 1)) = (g_X6_speak_row (F_X1_hear_2 cZ cPe cTa cTu vP vS vD vKi vOw row j2_) vP vS vD vKi vOw (f_X1_personAt cPe cTu (nI j2_)) (f_X1_taleAt cTa cTu (nI j2_)) ((f_X1_personsBehind cZ cPe cTu (nI j2_)) &&& ((1 <<< ((f_X1_personAt cPe cTu (nI j2_)) &&& 31)) ^^^ (-1)))) := by simp only [F_X1_hear_2, if_neg c_4, if_neg c_6, if_neg c_8]
      exact ih2_ (j2_ + 1) (by omega) _ _ (by rw [e_10]; exact hP) (by rw [e_10]; exact hD) hS _ (lv_sub hl [3, 4, 0] rfl)
  exact loop2_ 5 0 (by omega) _ _ hP hD hS _ (lv_sub hl [1, 2, 0] rfl)
def g_X1_swap_cTu (cTu : Nat → Int32) (p0 : Int32) (p1 : Int32) : Nat → Int32 := (if p0 < 0 then cTu else (if 5 ≤ p0 then cTu else (if p1 < 0 then cTu else (if 5 ≤ p1 then cTu else (upd (upd cTu (Int32.toNatClampNeg p0) (cTu (Int32.toNatClampNeg p1))) (Int32.toNatClampNeg p1) (cTu (Int32.toNatClampNeg p0)))))))
abbrev rm_X1_swap : Room := { frames := 0, cells := 0, slots := 0, locals := 0 }
set_option maxRecDepth 100000 in
set_option maxHeartbeats 4000000 in
theorem c_X1_swap (l : Launch) (D : va_G) (cI cC cG : ClassId) (c0 : Nat) (c1 : Nat) (c2 : Nat) (c3 : Nat) (c4 : Nat) (cZ : Int32) (cPe : Nat → Int32) (cTa : Nat → Int32) (cTu : Nat → Int32) (cBe : Nat → Int32) (p0 : Int32) (p1 : Int32) (sz : Nat) : RwV l yX1_swap wsX1_swap rm_X1_swap D (q_t cI cC cG) (wC cI cC cG c0 c1 c2 c3 c4 cZ cPe cTa cTu cBe) (wC cI cC cG c0 c1 c2 c3 c4 cZ cPe cTa (g_X1_swap_cTu cTu p0 p1) cBe) sz [.ref c0, .int p0, .int p1] := by
  refine rw_enter (cc := cX1_swap) (maxL := 4) (ret := none) (by decide) rfl (Nat.le_of_ble_eq_true rfl) ?_
  intro p e s m below meth c ls B hP hK hD hS hA hl
  obtain ⟨hx, hb, hr, hlocks, hml, hown, hts, hN⟩ := B
  have hown : s.vm.findClass RX1 = some m.cls := hown
  have hl : lv_has ls 4 [(0, .ref c0), (1, .int p0), (2, .int p1)] := hl
  have hf18 := hts (.fieldLink RX1 18 "OlderByABlush$Court" "turn" "[I") (by decide +kernel)
  have hinX1 : ∀ w ∈ u_ws RX1 TX1 5, w ∈ wsX1_swap := by decide +kernel
  refine lv_iload_n hx hb dX1_swap_0 rfl (lv_at hl 1 rfl) ?_
  refine lv_if_lt (tgt := 44) hx hb dX1_swap_1 (by decide) (fun c_1 => ?_) (fun c_1 => ?_)
  · have e_2 : (g_X1_swap_cTu cTu p0 p1) = cTu := by simp only [g_X1_swap_cTu, if_pos c_1]
    exact rw_vret hx hb hr hlocks hP hD hS (by rw [e_2]) dX1_swap_44
  refine lv_iload_n hx hb dX1_swap_4 rfl (lv_at hl 1 rfl) ?_
  refine lv_iconst (v := 5) hx hb dX1_swap_5 (by decide) ?_
  refine lv_icmp_ge (tgt := 44) hx hb dX1_swap_6 (by decide) (fun c_3 => ?_) (fun c_3 => ?_)
  · have e_4 : (g_X1_swap_cTu cTu p0 p1) = cTu := by simp only [g_X1_swap_cTu, if_neg c_1, if_pos c_3]
    exact rw_vret hx hb hr hlocks hP hD hS (by rw [e_4]) dX1_swap_44
  refine lv_iload_n hx hb dX1_swap_9 rfl (lv_at hl 2 rfl) ?_
  refine lv_if_lt (tgt := 44) hx hb dX1_swap_10 (by decide) (fun c_5 => ?_) (fun c_5 => ?_)
  · have e_6 : (g_X1_swap_cTu cTu p0 p1) = cTu := by simp only [g_X1_swap_cTu, if_neg c_1, if_neg c_3, if_pos c_5]
    exact rw_vret hx hb hr hlocks hP hD hS (by rw [e_6]) dX1_swap_44
  refine lv_iload_n hx hb dX1_swap_13 rfl (lv_at hl 2 rfl) ?_
  refine lv_iconst (v := 5) hx hb dX1_swap_14 (by decide) ?_
  refine lv_icmp_ge (tgt := 44) hx hb dX1_swap_15 (by decide) (fun c_7 => ?_) (fun c_7 => ?_)
  · have e_8 : (g_X1_swap_cTu cTu p0 p1) = cTu := by simp only [g_X1_swap_cTu, if_neg c_1, if_neg c_3, if_neg c_5, if_pos c_7]
    exact rw_vret hx hb hr hlocks hP hD hS (by rw [e_8]) dX1_swap_44
  refine lv_aload_n hx hb dX1_swap_18 rfl (lv_at hl 0 rfl) ?_
  refine va_get (D := D) (ci := 1) (v := .ref c3) (C := RX1) (T := TX1) (N := 5) hx hb hts hinX1 hown hK hP 0 rfl rfl 2 (by decide) hf18 (fun _ h9 => h9) rfl dX1_swap_19 ?_
  refine lv_iload_n hx hb dX1_swap_22 rfl (lv_at hl 1 rfl) ?_
  refine q_iald hx hb hK hP 3 0 rfl rfl (in_cmp c_1 c_3) (Int32.toNatClampNeg p0) rfl dX1_swap_23 ?_
  refine lv_istore_n (lv' := [(3, .int (cTu (Int32.toNatClampNeg p0))), (0, .ref c0), (1, .int p0), (2, .int p1)]) hx hb dX1_swap_24 rfl hl (by decide) rfl (fun ls hl => ?_)
  refine lv_aload_n hx hb dX1_swap_25 rfl (lv_at hl 1 rfl) ?_
  refine va_get (D := D) (ci := 1) (v := .ref c3) (C := RX1) (T := TX1) (N := 5) hx hb hts hinX1 hown hK hP 0 rfl rfl 2 (by decide) hf18 (fun _ h9 => h9) rfl dX1_swap_26 ?_
  refine lv_iload_n hx hb dX1_swap_29 rfl (lv_at hl 2 rfl) ?_
  refine lv_aload_n hx hb dX1_swap_30 rfl (lv_at hl 1 rfl) ?_
  refine va_get (D := D) (ci := 1) (v := .ref c3) (C := RX1) (T := TX1) (N := 5) hx hb hts hinX1 hown hK hP 0 rfl rfl 2 (by decide) hf18 (fun _ h9 => h9) rfl dX1_swap_31 ?_
  refine lv_iload_n hx hb dX1_swap_34 rfl (lv_at hl 3 rfl) ?_
  refine q_iald hx hb hK hP 3 0 rfl rfl (in_cmp c_5 c_7) (Int32.toNatClampNeg p1) rfl dX1_swap_35 ?_
  refine q_iast hx hb hK hP hD hS 3 0 rfl rfl (in_cmp c_1 c_3) (Int32.toNatClampNeg p0) rfl dX1_swap_36 (fun H locs hP hD hS => ?_)
  have hP : va_P D vwCl [(c0, .inr (1, [.ref c1, .ref c2, .ref c3, .ref c4, .int cZ])), (c1, .inl (cI, 5, .inl cPe)), (c2, .inl (cI, 5, .inl cTa)), (c3, .inl (cI, 5, .inl (upd cTu (Int32.toNatClampNeg p0) (cTu (Int32.toNatClampNeg p1))))), (c4, .inl (cI, 5, .inl cBe))] H := hP
  have hD : va_D (va_A (wC cI cC cG c0 c1 c2 c3 c4 cZ cPe cTa cTu cBe) sz) [(c0, .inr (1, [.ref c1, .ref c2, .ref c3, .ref c4, .int cZ])), (c1, .inl (cI, 5, .inl cPe)), (c2, .inl (cI, 5, .inl cTa)), (c3, .inl (cI, 5, .inl (upd cTu (Int32.toNatClampNeg p0) (cTu (Int32.toNatClampNeg p1))))), (c4, .inl (cI, 5, .inl cBe))] := hD
  refine lv_aload_n hx hb dX1_swap_37 rfl (lv_at hl 1 rfl) ?_
  refine va_get (D := D) (ci := 1) (v := .ref c3) (C := RX1) (T := TX1) (N := 5) hx hb hts hinX1 hown hK hP 0 rfl rfl 2 (by decide) hf18 (fun _ h9 => h9) rfl dX1_swap_38 ?_
  refine lv_iload_n hx hb dX1_swap_41 rfl (lv_at hl 3 rfl) ?_
  refine lv_iload_n hx hb dX1_swap_42 rfl (lv_at hl 0 rfl) ?_
  refine q_iast hx hb hK hP hD hS 3 0 rfl rfl (in_cmp c_5 c_7) (Int32.toNatClampNeg p1) rfl dX1_swap_43 (fun H locs hP hD hS => ?_)
  have hP : va_P D vwCl [(c0, .inr (1, [.ref c1, .ref c2, .ref c3, .ref c4, .int cZ])), (c1, .inl (cI, 5, .inl cPe)), (c2, .inl (cI, 5, .inl cTa)), (c3, .inl (cI, 5, .inl (upd (upd cTu (Int32.toNatClampNeg p0) (cTu (Int32.toNatClampNeg p1))) (Int32.toNatClampNeg p1) (cTu (Int32.toNatClampNeg p0))))), (c4, .inl (cI, 5, .inl cBe))] H := hP
  have hD : va_D (va_A (wC cI cC cG c0 c1 c2 c3 c4 cZ cPe cTa cTu cBe) sz) [(c0, .inr (1, [.ref c1, .ref c2, .ref c3, .ref c4, .int cZ])), (c1, .inl (cI, 5, .inl cPe)), (c2, .inl (cI, 5, .inl cTa)), (c3, .inl (cI, 5, .inl (upd (upd cTu (Int32.toNatClampNeg p0) (cTu (Int32.toNatClampNeg p1))) (Int32.toNatClampNeg p1) (cTu (Int32.toNatClampNeg p0))))), (c4, .inl (cI, 5, .inl cBe))] := hD
  have e_9 : (g_X1_swap_cTu cTu p0 p1) = (upd (upd cTu (Int32.toNatClampNeg p0) (cTu (Int32.toNatClampNeg p1))) (Int32.toNatClampNeg p1) (cTu (Int32.toNatClampNeg p0))) := by simp only [g_X1_swap_cTu, if_neg c_1, if_neg c_3, if_neg c_5, if_neg c_7]
  exact rw_vret hx hb hr hlocks hP hD hS (by rw [e_9]) dX1_swap_44
