abbrev wH (cI cC cG : ClassId) (h0 : Nat) (h1 : Nat) (h2 : Nat) (h3 : Nat) (hZ : Int32) (hPe : Nat → Int32) (hLe : Nat → Int32) (hSh : Nat → Int32) : va_W := [(h0, .inr (5, [.ref h1, .ref h2, .ref h3, .int hZ])), (h1, .inl (cI, 6, .inl hPe)), (h2, .inl (cI, 6, .inl hLe)), (h3, .inl (cI, 6, .inl hSh))]
def f_X5_size (hZ : Int32) : Int32 := hZ
abbrev rm_X5_size : Room := { frames := 0, cells := 0, slots := 0, locals := 0 }
set_option maxRecDepth 100000 in
set_option maxHeartbeats 4000000 in
theorem c_X5_size (l : Launch) (D : va_G) (cI cC cG : ClassId) (h0 : Nat) (h1 : Nat) (h2 : Nat) (h3 : Nat) (hZ : Int32) (hPe : Nat → Int32) (hLe : Nat → Int32) (hSh : Nat → Int32) : RoI l yX5_size wsX5_size rm_X5_size D (q_t cI cC cG) (wH cI cC cG h0 h1 h2 h3 hZ hPe hLe hSh) [.ref h0] (f_X5_size hZ) := by
  refine ro_enter (cc := cX5_size) (maxL := 1) (ret := (some .int)) (by decide) rfl (Nat.le_of_ble_eq_true rfl) ?_
  intro p e s m below meth c ls B hP hK hl
  obtain ⟨hx, hb, hr, hlocks, hml, hown, hts, hN⟩ := B
  have hS : va_S q_no s.heap s.heap [] := va_S.rf
  have hown : s.vm.findClass RX5 = some m.cls := hown
  have hl : lv_has ls 1 [(0, .ref h0)] := hl
  have hf21 := hts (.fieldLink RX5 21 "OlderByABlush$Sights" "size" "I") (by decide +kernel)
  have hinX5 : ∀ w ∈ u_ws RX5 TX5 4, w ∈ wsX5_size := by decide +kernel
  refine lv_aload_n hx hb dX5_size_0 rfl (lv_at hl 0 rfl) ?_
  refine va_get (D := D) (ci := 5) (v := .int hZ) (C := RX5) (T := TX5) (N := 4) hx hb hts hinX5 hown hK hP 0 rfl rfl 3 (by decide) hf21 (fun _ h9 => h9) rfl dX5_size_1 ?_
  exact ro_iret hx hb hr hlocks hS (by simp only [f_X5_size]) dX5_size_4
def g_X5_clear_hZ  : Int32 := 0
abbrev rm_X5_clear : Room := { frames := 0, cells := 0, slots := 0, locals := 0 }
set_option maxRecDepth 100000 in
set_option maxHeartbeats 4000000 in
theorem c_X5_clear (l : Launch) (D : va_G) (cI cC cG : ClassId) (h0 : Nat) (h1 : Nat) (h2 : Nat) (h3 : Nat) (hZ : Int32) (hPe : Nat → Int32) (hLe : Nat → Int32) (hSh : Nat → Int32) (sz : Nat) : RwV l yX5_clear wsX5_clear rm_X5_clear D (q_t cI cC cG) (wH cI cC cG h0 h1 h2 h3 hZ hPe hLe hSh) (wH cI cC cG h0 h1 h2 h3 g_X5_clear_hZ hPe hLe hSh) sz [.ref h0] := by
  refine rw_enter (cc := cX5_clear) (maxL := 1) (ret := none) (by decide) rfl (Nat.le_of_ble_eq_true rfl) ?_
  intro p e s m below meth c ls B hP hK hD hS hA hl
  obtain ⟨hx, hb, hr, hlocks, hml, hown, hts, hN⟩ := B
  have hown : s.vm.findClass RX5 = some m.cls := hown
  have hl : lv_has ls 1 [(0, .ref h0)] := hl
  have hf21 := hts (.fieldLink RX5 21 "OlderByABlush$Sights" "size" "I") (by decide +kernel)
  have hinX5 : ∀ w ∈ u_ws RX5 TX5 4, w ∈ wsX5_clear := by decide +kernel
  refine lv_aload_n hx hb dX5_clear_0 rfl (lv_at hl 0 rfl) ?_
  refine lv_iconst (v := 0) hx hb dX5_clear_1 (by decide) ?_
  refine va_put (D := D) (ci := 5) (v := .int 0) (ty := .int) (C := RX5) (T := TX5) (N := 4) hx hb hts hinX5 tyX5 tyX5_ok nmX5 hown hK hP hD hS 0 rfl rfl 3 (by decide) hf21 (fun _ h9 => h9) rfl (by decide +kernel) rfl rfl (Nat.le_of_ble_eq_true rfl) dX5_clear_2 (fun H locs hP hD hS => ?_)
  have hP : va_P D vwCl [(h0, .inr (5, [.ref h1, .ref h2, .ref h3, .int 0])), (h1, .inl (cI, 6, .inl hPe)), (h2, .inl (cI, 6, .inl hLe)), (h3, .inl (cI, 6, .inl hSh))] H := hP
  have hD : va_D (va_A (wH cI cC cG h0 h1 h2 h3 hZ hPe hLe hSh) sz) [(h0, .inr (5, [.ref h1, .ref h2, .ref h3, .int 0])), (h1, .inl (cI, 6, .inl hPe)), (h2, .inl (cI, 6, .inl hLe)), (h3, .inl (cI, 6, .inl hSh))] := hD
  have e_1 : g_X5_clear_hZ = 0 := by simp only [g_X5_clear_hZ]
  exact rw_vret hx hb hr hlocks hP hD hS (by rw [e_1]) dX5_clear_5
def f_X5_add (hZ : Int32) : Int32 := (if hZ < 0 then 0 else (if hZ < 6 then 1 else 0))
def g_X5_add_hZ (hZ : Int32) : Int32 := (if hZ < 0 then hZ else (if hZ < 6 then (hZ + 1) else hZ))
def g_X5_add_hPe (hZ : Int32) (hPe : Nat → Int32) (p0 : Int32) : Nat → Int32 := (if hZ < 0 then hPe else (if hZ < 6 then (upd hPe (Int32.toNatClampNeg hZ) p0) else hPe))
def g_X5_add_hLe (hZ : Int32) (hLe : Nat → Int32) (p1 : Int32) : Nat → Int32 := (if hZ < 0 then hLe else (if hZ < 6 then (upd hLe (Int32.toNatClampNeg hZ) p1) else hLe))
def g_X5_add_hSh (hZ : Int32) (hSh : Nat → Int32) (p2 : Int32) : Nat → Int32 := (if hZ < 0 then hSh else (if hZ < 6 then (upd hSh (Int32.toNatClampNeg hZ) p2) else hSh))
abbrev rm_X5_add : Room := { frames := 0, cells := 0, slots := 0, locals := 0 }
set_option maxRecDepth 100000 in
set_option maxHeartbeats 4000000 in
theorem c_X5_add (l : Launch) (D : va_G) (cI cC cG : ClassId) (h0 : Nat) (h1 : Nat) (h2 : Nat) (h3 : Nat) (hZ : Int32) (hPe : Nat → Int32) (hLe : Nat → Int32) (hSh : Nat → Int32) (p0 : Int32) (p1 : Int32) (p2 : Int32) (sz : Nat) : RwI l yX5_add wsX5_add rm_X5_add D (q_t cI cC cG) (wH cI cC cG h0 h1 h2 h3 hZ hPe hLe hSh) (wH cI cC cG h0 h1 h2 h3 (g_X5_add_hZ hZ) (g_X5_add_hPe hZ hPe p0) (g_X5_add_hLe hZ hLe p1) (g_X5_add_hSh hZ hSh p2)) sz [.ref h0, .int p0, .int p1, .int p2] (f_X5_add hZ) := by
  refine rw_enter (cc := cX5_add) (maxL := 4) (ret := (some .boolean)) (by decide) rfl (Nat.le_of_ble_eq_true rfl) ?_
  intro p e s m below meth c ls B hP hK hD hS hA hl
  obtain ⟨hx, hb, hr, hlocks, hml, hown, hts, hN⟩ := B
  have hown : s.vm.findClass RX5 = some m.cls := hown
  have hl : lv_has ls 4 [(0, .ref h0), (1, .int p0), (2, .int p1), (3, .int p2)] := hl
  have hf21 := hts (.fieldLink RX5 21 "OlderByABlush$Sights" "size" "I") (by decide +kernel)
  have hinX5 : ∀ w ∈ u_ws RX5 TX5 4, w ∈ wsX5_add := by decide +kernel
  have hf9 := hts (.fieldLink RX5 9 "OlderByABlush$Sights" "persons" "[I") (by decide +kernel)
  have hf15 := hts (.fieldLink RX5 15 "OlderByABlush$Sights" "learners" "[I") (by decide +kernel)
  have hf18 := hts (.fieldLink RX5 18 "OlderByABlush$Sights" "shades" "[I") (by decide +kernel)
  refine lv_aload_n hx hb dX5_add_0 rfl (lv_at hl 0 rfl) ?_
  refine va_get (D := D) (ci := 5) (v := .int hZ) (C := RX5) (T := TX5) (N := 4) hx hb hts hinX5 hown hK hP 0 rfl rfl 3 (by decide) hf21 (fun _ h9 => h9) rfl dX5_add_1 ?_
  refine lv_if_lt (tgt := 16) hx hb dX5_add_4 (by decide) (fun c_1 => ?_) (fun c_1 => ?_)
  · refine lv_iconst (v := 0) hx hb dX5_add_16 (by decide) ?_
    have e_2 : (g_X5_add_hZ hZ) = hZ := by simp only [g_X5_add_hZ, if_pos c_1]
    have e_3 : (g_X5_add_hPe hZ hPe p0) = hPe := by simp only [g_X5_add_hPe, if_pos c_1]
    have e_4 : (g_X5_add_hLe hZ hLe p1) = hLe := by simp only [g_X5_add_hLe, if_pos c_1]
    have e_5 : (g_X5_add_hSh hZ hSh p2) = hSh := by simp only [g_X5_add_hSh, if_pos c_1]
    exact rw_zret hx hb hr (by rfl) hlocks hP hD hS (by simp only [f_X5_add, if_pos c_1]) (by rw [e_2, e_3, e_4, e_5]) dX5_add_17
  refine lv_aload_n hx hb dX5_add_7 rfl (lv_at hl 0 rfl) ?_
  refine va_get (D := D) (ci := 5) (v := .int hZ) (C := RX5) (T := TX5) (N := 4) hx hb hts hinX5 hown hK hP 0 rfl rfl 3 (by decide) hf21 (fun _ h9 => h9) rfl dX5_add_8 ?_
  refine lv_bipush (v := 6) hx hb dX5_add_11 (by decide) ?_
  refine lv_icmp_lt (tgt := 18) hx hb dX5_add_13 (by decide) (fun c_6 => ?_) (fun c_6 => ?_)
  · refine lv_aload_n hx hb dX5_add_18 rfl (lv_at hl 0 rfl) ?_
    refine va_get (D := D) (ci := 5) (v := .ref h1) (C := RX5) (T := TX5) (N := 4) hx hb hts hinX5 hown hK hP 0 rfl rfl 0 (by decide) hf9 (fun _ h9 => h9) rfl dX5_add_19 ?_
    refine lv_aload_n hx hb dX5_add_22 rfl (lv_at hl 0 rfl) ?_
    refine va_get (D := D) (ci := 5) (v := .int hZ) (C := RX5) (T := TX5) (N := 4) hx hb hts hinX5 hown hK hP 0 rfl rfl 3 (by decide) hf21 (fun _ h9 => h9) rfl dX5_add_23 ?_
    refine lv_iload_n hx hb dX5_add_26 rfl (lv_at hl 1 rfl) ?_
    refine q_iast hx hb hK hP hD hS 1 0 rfl rfl (in_cmp2 c_1 c_6) (Int32.toNatClampNeg hZ) rfl dX5_add_27 (fun H locs hP hD hS => ?_)
    have hP : va_P D vwCl [(h0, .inr (5, [.ref h1, .ref h2, .ref h3, .int hZ])), (h1, .inl (cI, 6, .inl (upd hPe (Int32.toNatClampNeg hZ) p0))), (h2, .inl (cI, 6, .inl hLe)), (h3, .inl (cI, 6, .inl hSh))] H := hP
    have hD : va_D (va_A (wH cI cC cG h0 h1 h2 h3 hZ hPe hLe hSh) sz) [(h0, .inr (5, [.ref h1, .ref h2, .ref h3, .int hZ])), (h1, .inl (cI, 6, .inl (upd hPe (Int32.toNatClampNeg hZ) p0))), (h2, .inl (cI, 6, .inl hLe)), (h3, .inl (cI, 6, .inl hSh))] := hD
    refine lv_aload_n hx hb dX5_add_28 rfl (lv_at hl 0 rfl) ?_
    refine va_get (D := D) (ci := 5) (v := .ref h2) (C := RX5) (T := TX5) (N := 4) hx hb hts hinX5 hown hK hP 0 rfl rfl 1 (by decide) hf15 (fun _ h9 => h9) rfl dX5_add_29 ?_
    refine lv_aload_n hx hb dX5_add_32 rfl (lv_at hl 0 rfl) ?_
    refine va_get (D := D) (ci := 5) (v := .int hZ) (C := RX5) (T := TX5) (N := 4) hx hb hts hinX5 hown hK hP 0 rfl rfl 3 (by decide) hf21 (fun _ h9 => h9) rfl dX5_add_33 ?_
    refine lv_iload_n hx hb dX5_add_36 rfl (lv_at hl 2 rfl) ?_
    refine q_iast hx hb hK hP hD hS 2 0 rfl rfl (in_cmp2 c_1 c_6) (Int32.toNatClampNeg hZ) rfl dX5_add_37 (fun H locs hP hD hS => ?_)
    have hP : va_P D vwCl [(h0, .inr (5, [.ref h1, .ref h2, .ref h3, .int hZ])), (h1, .inl (cI, 6, .inl (upd hPe (Int32.toNatClampNeg hZ) p0))), (h2, .inl (cI, 6, .inl (upd hLe (Int32.toNatClampNeg hZ) p1))), (h3, .inl (cI, 6, .inl hSh))] H := hP
    have hD : va_D (va_A (wH cI cC cG h0 h1 h2 h3 hZ hPe hLe hSh) sz) [(h0, .inr (5, [.ref h1, .ref h2, .ref h3, .int hZ])), (h1, .inl (cI, 6, .inl (upd hPe (Int32.toNatClampNeg hZ) p0))), (h2, .inl (cI, 6, .inl (upd hLe (Int32.toNatClampNeg hZ) p1))), (h3, .inl (cI, 6, .inl hSh))] := hD
    refine lv_aload_n hx hb dX5_add_38 rfl (lv_at hl 0 rfl) ?_
    refine va_get (D := D) (ci := 5) (v := .ref h3) (C := RX5) (T := TX5) (N := 4) hx hb hts hinX5 hown hK hP 0 rfl rfl 2 (by decide) hf18 (fun _ h9 => h9) rfl dX5_add_39 ?_
    refine lv_aload_n hx hb dX5_add_42 rfl (lv_at hl 0 rfl) ?_
    refine va_get (D := D) (ci := 5) (v := .int hZ) (C := RX5) (T := TX5) (N := 4) hx hb hts hinX5 hown hK hP 0 rfl rfl 3 (by decide) hf21 (fun _ h9 => h9) rfl dX5_add_43 ?_
    refine lv_iload_n hx hb dX5_add_46 rfl (lv_at hl 3 rfl) ?_
    refine q_iast hx hb hK hP hD hS 3 0 rfl rfl (in_cmp2 c_1 c_6) (Int32.toNatClampNeg hZ) rfl dX5_add_47 (fun H locs hP hD hS => ?_)
    have hP : va_P D vwCl [(h0, .inr (5, [.ref h1, .ref h2, .ref h3, .int hZ])), (h1, .inl (cI, 6, .inl (upd hPe (Int32.toNatClampNeg hZ) p0))), (h2, .inl (cI, 6, .inl (upd hLe (Int32.toNatClampNeg hZ) p1))), (h3, .inl (cI, 6, .inl (upd hSh (Int32.toNatClampNeg hZ) p2)))] H := hP
    have hD : va_D (va_A (wH cI cC cG h0 h1 h2 h3 hZ hPe hLe hSh) sz) [(h0, .inr (5, [.ref h1, .ref h2, .ref h3, .int hZ])), (h1, .inl (cI, 6, .inl (upd hPe (Int32.toNatClampNeg hZ) p0))), (h2, .inl (cI, 6, .inl (upd hLe (Int32.toNatClampNeg hZ) p1))), (h3, .inl (cI, 6, .inl (upd hSh (Int32.toNatClampNeg hZ) p2)))] := hD
    refine lv_aload_n hx hb dX5_add_48 rfl (lv_at hl 0 rfl) ?_
    refine lv_dup hx hb dX5_add_49 rfl ?_
    refine va_get (D := D) (ci := 5) (v := .int hZ) (C := RX5) (T := TX5) (N := 4) hx hb hts hinX5 hown hK hP 0 rfl rfl 3 (by decide) hf21 (fun _ h9 => h9) rfl dX5_add_50 ?_
    refine lv_iconst (v := 1) hx hb dX5_add_53 (by decide) ?_
    refine lv_iadd hx hb dX5_add_54 ?_
    refine va_put (D := D) (ci := 5) (v := .int (hZ + 1)) (ty := .int) (C := RX5) (T := TX5) (N := 4) hx hb hts hinX5 tyX5 tyX5_ok nmX5 hown hK hP hD hS 0 rfl rfl 3 (by decide) hf21 (fun _ h9 => h9) rfl (by decide +kernel) rfl rfl (Nat.le_of_ble_eq_true rfl) dX5_add_55 (fun H locs hP hD hS => ?_)
    have hP : va_P D vwCl [(h0, .inr (5, [.ref h1, .ref h2, .ref h3, .int (hZ + 1)])), (h1, .inl (cI, 6, .inl (upd hPe (Int32.toNatClampNeg hZ) p0))), (h2, .inl (cI, 6, .inl (upd hLe (Int32.toNatClampNeg hZ) p1))), (h3, .inl (cI, 6, .inl (upd hSh (Int32.toNatClampNeg hZ) p2)))] H := hP
    have hD : va_D (va_A (wH cI cC cG h0 h1 h2 h3 hZ hPe hLe hSh) sz) [(h0, .inr (5, [.ref h1, .ref h2, .ref h3, .int (hZ + 1)])), (h1, .inl (cI, 6, .inl (upd hPe (Int32.toNatClampNeg hZ) p0))), (h2, .inl (cI, 6, .inl (upd hLe (Int32.toNatClampNeg hZ) p1))), (h3, .inl (cI, 6, .inl (upd hSh (Int32.toNatClampNeg hZ) p2)))] := hD
    refine lv_iconst (v := 1) hx hb dX5_add_58 (by decide) ?_
    have e_7 : (g_X5_add_hZ hZ) = (hZ + 1) := by simp only [g_X5_add_hZ, if_neg c_1, if_pos c_6]
    have e_8 : (g_X5_add_hPe hZ hPe p0) = (upd hPe (Int32.toNatClampNeg hZ) p0) := by simp only [g_X5_add_hPe, if_neg c_1, if_pos c_6]
    have e_9 : (g_X5_add_hLe hZ hLe p1) = (upd hLe (Int32.toNatClampNeg hZ) p1) := by simp only [g_X5_add_hLe, if_neg c_1, if_pos c_6]
    have e_10 : (g_X5_add_hSh hZ hSh p2) = (upd hSh (Int32.toNatClampNeg hZ) p2) := by simp only [g_X5_add_hSh, if_neg c_1, if_pos c_6]
    exact rw_zret hx hb hr (by rfl) hlocks hP hD hS (by simp only [f_X5_add, if_neg c_1, if_pos c_6]) (by rw [e_7, e_8, e_9, e_10]) dX5_add_59
  refine lv_iconst (v := 0) hx hb dX5_add_16 (by decide) ?_
  have e_11 : (g_X5_add_hZ hZ) = hZ := by simp only [g_X5_add_hZ, if_neg c_1, if_neg c_6]
  have e_12 : (g_X5_add_hPe hZ hPe p0) = hPe := by simp only [g_X5_add_hPe, if_neg c_1, if_neg c_6]
  have e_13 : (g_X5_add_hLe hZ hLe p1) = hLe := by simp only [g_X5_add_hLe, if_neg c_1, if_neg c_6]
  have e_14 : (g_X5_add_hSh hZ hSh p2) = hSh := by simp only [g_X5_add_hSh, if_neg c_1, if_neg c_6]
  exact rw_zret hx hb hr (by rfl) hlocks hP hD hS (by simp only [f_X5_add, if_neg c_1, if_neg c_6]) (by rw [e_11, e_12, e_13, e_14]) dX5_add_17
def L_X5_fits_2 (x1 : Int32) (x2 : Int32) (hZ : Int32) (hPe : Nat → Int32) (hLe : Nat → Int32) (hSh : Nat → Int32) : Nat → Nat → Int32
  | 0, j2_ => 1
  | n2_ + 1, j2_ => (if hZ ≤ (nI j2_) then L_X5_fits_2 x1 x2 hZ hPe hLe hSh n2_ (j2_ + 1)  else (if (hPe j2_) = x1 then (if (f_X8_careForMany x2 0 (hLe j2_)) = (hSh j2_) then L_X5_fits_2 x1 x2 hZ hPe hLe hSh n2_ (j2_ + 1)  else 0) else L_X5_fits_2 x1 x2 hZ hPe hLe hSh n2_ (j2_ + 1) ))
def f_X5_fits (hZ : Int32) (hPe : Nat → Int32) (hLe : Nat → Int32) (hSh : Nat → Int32) (p0 : Int32) (p1 : Int32) : Int32 := (L_X5_fits_2 p0 p1 hZ hPe hLe hSh 6 0)
abbrev rm_X5_fits : Room := { frames := 2, cells := 0, slots := 0, locals := 45 }
set_option maxRecDepth 100000 in
set_option maxHeartbeats 4000000 in
theorem c_X5_fits (l : Launch) (D : va_G) (cI cC cG : ClassId) (h0 : Nat) (h1 : Nat) (h2 : Nat) (h3 : Nat) (hZ : Int32) (hPe : Nat → Int32) (hLe : Nat → Int32) (hSh : Nat → Int32) (p0 : Int32) (p1 : Int32) : RoI l yX5_fits wsX5_fits rm_X5_fits D (q_t cI cC cG) (wH cI cC cG h0 h1 h2 h3 hZ hPe hLe hSh) [.ref h0, .int p0, .int p1] (f_X5_fits hZ hPe hLe hSh p0 p1) := by
  refine ro_enter (cc := cX5_fits) (maxL := 4) (ret := (some .boolean)) (by decide) rfl (Nat.le_of_ble_eq_true rfl) ?_
  intro p e s m below meth c ls B hP hK hl
  obtain ⟨hx, hb, hr, hlocks, hml, hown, hts, hN⟩ := B
  have hS : va_S q_no s.heap s.heap [] := va_S.rf
  have hown : s.vm.findClass RX5 = some m.cls := hown
  have hl : lv_has ls 4 [(0, .ref h0), (1, .int p0), (2, .int p1)] := hl
  have hf21 := hts (.fieldLink RX5 21 "OlderByABlush$Sights" "size" "I") (by decide +kernel)
  have hinX5 : ∀ w ∈ u_ws RX5 TX5 4, w ∈ wsX5_fits := by decide +kernel
  have hf9 := hts (.fieldLink RX5 9 "OlderByABlush$Sights" "persons" "[I") (by decide +kernel)
  have hf15 := hts (.fieldLink RX5 15 "OlderByABlush$Sights" "learners" "[I") (by decide +kernel)
  have hstX8_careForMany := hts (.static yX8_careForMany) (by decide +kernel)
  have hiniX8 := hts (.initialized RX8) (by decide +kernel)
  have hf18 := hts (.fieldLink RX5 18 "OlderByABlush$Sights" "shades" "[I") (by decide +kernel)
  refine lv_iconst (v := 0) hx hb dX5_fits_0 (by decide) ?_
  refine lv_istore_n (lv' := [(3, .int 0), (0, .ref h0), (1, .int p0), (2, .int p1)]) hx hb dX5_fits_1 rfl hl (by decide) rfl (fun ls hl => ?_)
  have hr2_ : (f_X5_fits hZ hPe hLe hSh p0 p1) = (L_X5_fits_2 p0 p1 hZ hPe hLe hSh 6 0) := by simp only [f_X5_fits]
  have loop2_ : ∀ (n2_ j2_ : Nat), j2_ + n2_ = 6 → (L_X5_fits_2 p0 p1 hZ hPe hLe hSh n2_ j2_) = (L_X5_fits_2 p0 p1 hZ hPe hLe hSh 6 0) → ∀ (H : Heap) (locs : List Loc), va_P D vwCl [(h0, .inr (5, [.ref h1, .ref h2, .ref h3, .int hZ])), (h1, .inl (cI, 6, .inl hPe)), (h2, .inl (cI, 6, .inl hLe)), (h3, .inl (cI, 6, .inl hSh))] H → va_S q_no s.heap H locs → ∀ ls : Array Slot, lv_has ls 4 [(0, .ref h0), (1, .int p0), (2, .int p1), (3, .int (nI j2_))] → W p l e rm_X5_fits s m ([.ref h0, .int p0, .int p1] : List Value).toArray below meth c H locs 0 0 (MQ below (q_Qi (f_X5_fits hZ hPe hLe hSh p0 p1)) ([.ref h0, .int p0, .int p1] : List Value).toArray s 0 0 q_no) (F0 m 2 ls []) := by
    intro n2_
    induction n2_ with
    | zero =>
      intro j2_ hj2_ hv2_ H locs hP hS ls hl
      obtain rfl : j2_ = 6 := by omega
      refine lv_iload_n hx hb dX5_fits_2 rfl (lv_at hl 3 rfl) ?_
      refine lv_bipush (v := 6) hx hb dX5_fits_3 (by decide) ?_
      refine lv_icmp_ge (tgt := 54) hx hb dX5_fits_5 (by decide) (fun c_1 => ?_) (fun c_1 => ?_)
      rotate_left
      · exact absurd (nI_le (Nat.le_refl 6) (by decide)) c_1
      refine lv_iconst (v := 1) hx hb dX5_fits_54 (by decide) ?_
      exact ro_zret hx hb hr (by rfl) hlocks hS (by rw [hr2_, ← hv2_]; simp only [L_X5_fits_2]) dX5_fits_55
    | succ n2_ ih2_ =>
      intro j2_ hj2_ hv2_ H locs hP hS ls hl
      refine lv_iload_n hx hb dX5_fits_2 rfl (lv_at hl 3 rfl) ?_
      refine lv_bipush (v := 6) hx hb dX5_fits_3 (by decide) ?_
      refine lv_icmp_ge (tgt := 54) hx hb dX5_fits_5 (by decide) (fun c_2 => ?_) (fun c_2 => ?_)
      · exact absurd c_2 (nI_ge (b := 6) (by omega) (by decide))
      refine lv_iload_n hx hb dX5_fits_8 rfl (lv_at hl 3 rfl) ?_
      refine lv_aload_n hx hb dX5_fits_9 rfl (lv_at hl 0 rfl) ?_
      refine va_get (D := D) (ci := 5) (v := .int hZ) (C := RX5) (T := TX5) (N := 4) hx hb hts hinX5 hown hK hP 0 rfl rfl 3 (by decide) hf21 (fun _ h9 => h9) rfl dX5_fits_10 ?_
      refine lv_icmp_ge (tgt := 48) hx hb dX5_fits_13 (by decide) (fun c_3 => ?_) (fun c_3 => ?_)
      · refine lv_iinc (v := (nI (j2_ + 1))) (lv' := [(3, .int (nI (j2_ + 1))), (0, .ref h0), (1, .int p0), (2, .int p1)]) hx hb dX5_fits_48 hl (k := 3) rfl (nI_1 _) (by decide) rfl (fun ls hl => ?_)
        refine lv_goto (tgt := 2) hx hb dX5_fits_51 (by decide) ?_
        exact ih2_ (j2_ + 1) (by omega) (by rw [← hv2_]; simp only [L_X5_fits_2, if_pos c_3]) _ _ hP hS _ (lv_sub hl [1, 2, 3, 0] rfl)
      refine lv_aload_n hx hb dX5_fits_16 rfl (lv_at hl 0 rfl) ?_
      refine va_get (D := D) (ci := 5) (v := .ref h1) (C := RX5) (T := TX5) (N := 4) hx hb hts hinX5 hown hK hP 0 rfl rfl 0 (by decide) hf9 (fun _ h9 => h9) rfl dX5_fits_17 ?_
      refine lv_iload_n hx hb dX5_fits_20 rfl (lv_at hl 3 rfl) ?_
      refine q_iald hx hb hK hP 1 0 rfl rfl (vp_in_nI (by omega) (by decide)) j2_ (nI_clamp (by omega)) dX5_fits_21 ?_
      refine lv_iload_n hx hb dX5_fits_22 rfl (lv_at hl 1 rfl) ?_
      refine lv_icmp_ne (tgt := 48) hx hb dX5_fits_23 (by decide) (fun c_4 => ?_) (fun c_4 => ?_)
      · refine lv_iinc (v := (nI (j2_ + 1))) (lv' := [(3, .int (nI (j2_ + 1))), (0, .ref h0), (1, .int p0), (2, .int p1)]) hx hb dX5_fits_48 hl (k := 3) rfl (nI_1 _) (by decide) rfl (fun ls hl => ?_)
        refine lv_goto (tgt := 2) hx hb dX5_fits_51 (by decide) ?_
        exact ih2_ (j2_ + 1) (by omega) (by rw [← hv2_]; simp only [L_X5_fits_2, if_neg c_3, if_neg c_4]) _ _ hP hS _ (lv_sub hl [1, 2, 3, 0] rfl)
      refine lv_iload_n hx hb dX5_fits_26 rfl (lv_at hl 2 rfl) ?_
      refine lv_iconst (v := 0) hx hb dX5_fits_27 (by decide) ?_
      refine lv_aload_n hx hb dX5_fits_28 rfl (lv_at hl 0 rfl) ?_
      refine va_get (D := D) (ci := 5) (v := .ref h2) (C := RX5) (T := TX5) (N := 4) hx hb hts hinX5 hown hK hP 0 rfl rfl 1 (by decide) hf15 (fun _ h9 => h9) rfl dX5_fits_29 ?_
      refine lv_iload_n hx hb dX5_fits_32 rfl (lv_at hl 3 rfl) ?_
      refine q_iald hx hb hK hP 2 0 rfl rfl (vp_in_nI (by omega) (by decide)) j2_ (nI_clamp (by omega)) dX5_fits_33 ?_
      refine ro_i (va_runSN (As := [.int p1, .int 0, .int (hLe j2_)]) (rest := []) ⟨hx, hb, hml, hown, hts⟩ (c_X8_careForMany l D cI cC cG p1 0 (hLe j2_)) ⟨va_cnB 3 hts gX5_fits_X8_careForMany_n29 rfl rfl rfl (hN.at 11 rfl) hiniX8 (by decide +kernel) ⟨Nat.le_of_ble_eq_true rfl, Nat.le_of_ble_eq_true rfl⟩, hstX8_careForMany, trivial⟩ (q_preS hK hP hN [] rfl) rfl rfl hl.1 rfl (lv_room (Nat.le_of_ble_eq_true rfl)) dX5_fits_34 ⟨Nat.zero_le _, Nat.zero_le _⟩) hS hP (fun H locs hP hS => ?_)
      refine lv_aload_n hx hb dX5_fits_37 rfl (lv_at hl 0 rfl) ?_
      refine va_get (D := D) (ci := 5) (v := .ref h3) (C := RX5) (T := TX5) (N := 4) hx hb hts hinX5 hown hK hP 0 rfl rfl 2 (by decide) hf18 (fun _ h9 => h9) rfl dX5_fits_38 ?_
      refine lv_iload_n hx hb dX5_fits_41 rfl (lv_at hl 3 rfl) ?_
      refine q_iald hx hb hK hP 3 0 rfl rfl (vp_in_nI (by omega) (by decide)) j2_ (nI_clamp (by omega)) dX5_fits_42 ?_
      refine lv_icmp_eq (tgt := 48) hx hb dX5_fits_43 (by decide) (fun c_5 => ?_) (fun c_5 => ?_)
      · refine lv_iinc (v := (nI (j2_ + 1))) (lv' := [(3, .int (nI (j2_ + 1))), (0, .ref h0), (1, .int p0), (2, .int p1)]) hx hb dX5_fits_48 hl (k := 3) rfl (nI_1 _) (by decide) rfl (fun ls hl => ?_)
        refine lv_goto (tgt := 2) hx hb dX5_fits_51 (by decide) ?_
        exact ih2_ (j2_ + 1) (by omega) (by rw [← hv2_]; simp only [L_X5_fits_2, if_neg c_3, if_pos c_4, if_pos c_5]) _ _ hP hS _ (lv_sub hl [1, 2, 3, 0] rfl)
      refine lv_iconst (v := 0) hx hb dX5_fits_46 (by decide) ?_
      exact ro_zret hx hb hr (by rfl) hlocks hS (by rw [hr2_, ← hv2_]; simp only [L_X5_fits_2, if_neg c_3, if_pos c_4, if_neg c_5]) dX5_fits_47
  exact loop2_ 6 0 (by omega) rfl _ _ hP hS _ (lv_sub hl [1, 2, 3, 0] rfl)
def F_X5_possibleKinds_4 (x1 : Int32) (hZ : Int32) (hPe : Nat → Int32) (hLe : Nat → Int32) (hSh : Nat → Int32) (i0_ : Int32) : Nat → Int32
  | 0 => i0_
  | j4_ + 1 => (if (f_X5_fits hZ hPe hLe hSh x1 (nI j4_)) = 0 then (F_X5_possibleKinds_4 x1 hZ hPe hLe hSh i0_ j4_) else ((F_X5_possibleKinds_4 x1 hZ hPe hLe hSh i0_ j4_) ||| (1 <<< ((nI j4_) &&& 31))))
def f_X5_possibleKinds (hZ : Int32) (hPe : Nat → Int32) (hLe : Nat → Int32) (hSh : Nat → Int32) (p0 : Int32) : Int32 := (F_X5_possibleKinds_4 p0 hZ hPe hLe hSh 0 5)
abbrev rm_X5_possibleKinds : Room := { frames := 3, cells := 0, slots := 0, locals := 68 }
set_option maxRecDepth 100000 in
set_option maxHeartbeats 4000000 in
theorem c_X5_possibleKinds (l : Launch) (D : va_G) (cI cC cG : ClassId) (h0 : Nat) (h1 : Nat) (h2 : Nat) (h3 : Nat) (hZ : Int32) (hPe : Nat → Int32) (hLe : Nat → Int32) (hSh : Nat → Int32) (p0 : Int32) : RoI l yX5_possibleKinds wsX5_possibleKinds rm_X5_possibleKinds D (q_t cI cC cG) (wH cI cC cG h0 h1 h2 h3 hZ hPe hLe hSh) [.ref h0, .int p0] (f_X5_possibleKinds hZ hPe hLe hSh p0) := by
  refine ro_enter (cc := cX5_possibleKinds) (maxL := 4) (ret := (some .int)) (by decide) rfl (Nat.le_of_ble_eq_true rfl) ?_
  intro p e s m below meth c ls B hP hK hl
  obtain ⟨hx, hb, hr, hlocks, hml, hown, hts, hN⟩ := B
  have hS : va_S q_no s.heap s.heap [] := va_S.rf
  have hown : s.vm.findClass RX5 = some m.cls := hown
  have hl : lv_has ls 4 [(0, .ref h0), (1, .int p0)] := hl
  refine lv_iconst (v := 0) hx hb dX5_possibleKinds_0 (by decide) ?_
  refine lv_istore_n (lv' := [(2, .int 0), (0, .ref h0), (1, .int p0)]) hx hb dX5_possibleKinds_1 rfl hl (by decide) rfl (fun ls hl => ?_)
  refine lv_iconst (v := 0) hx hb dX5_possibleKinds_2 (by decide) ?_
  refine lv_istore_n (lv' := [(3, .int 0), (2, .int 0), (0, .ref h0), (1, .int p0)]) hx hb dX5_possibleKinds_3 rfl hl (by decide) rfl (fun ls hl => ?_)
  have K4_ : ∀ (H : Heap) (locs : List Loc), va_P D vwCl [(h0, .inr (5, [.ref h1, .ref h2, .ref h3, .int hZ])), (h1, .inl (cI, 6, .inl hPe)), (h2, .inl (cI, 6, .inl hLe)), (h3, .inl (cI, 6, .inl hSh))] H → va_S q_no s.heap H locs → ∀ ls : Array Slot, lv_has ls 4 [(2, .int (F_X5_possibleKinds_4 p0 hZ hPe hLe hSh 0 5))] → W p l e rm_X5_possibleKinds s m ([.ref h0, .int p0] : List Value).toArray below meth c H locs 0 0 (MQ below (q_Qi (f_X5_possibleKinds hZ hPe hLe hSh p0)) ([.ref h0, .int p0] : List Value).toArray s 0 0 q_no) (F0 m 30 ls []) := by
    intro H locs hP hS ls hl
    refine lv_iload_n hx hb dX5_possibleKinds_30 rfl (lv_at hl 0 rfl) ?_
    exact ro_iret hx hb hr hlocks hS (by simp only [f_X5_possibleKinds]) dX5_possibleKinds_31
  have loop4_ : ∀ (n4_ j4_ : Nat), j4_ + n4_ = 5 → ∀ (H : Heap) (locs : List Loc), va_P D vwCl [(h0, .inr (5, [.ref h1, .ref h2, .ref h3, .int hZ])), (h1, .inl (cI, 6, .inl hPe)), (h2, .inl (cI, 6, .inl hLe)), (h3, .inl (cI, 6, .inl hSh))] H → va_S q_no s.heap H locs → ∀ ls : Array Slot, lv_has ls 4 [(0, .ref h0), (1, .int p0), (2, .int (F_X5_possibleKinds_4 p0 hZ hPe hLe hSh 0 j4_)), (3, .int (nI j4_))] → W p l e rm_X5_possibleKinds s m ([.ref h0, .int p0] : List Value).toArray below meth c H locs 0 0 (MQ below (q_Qi (f_X5_possibleKinds hZ hPe hLe hSh p0)) ([.ref h0, .int p0] : List Value).toArray s 0 0 q_no) (F0 m 4 ls []) := by
    intro n4_
    induction n4_ with
    | zero =>
      intro j4_ hj4_ H locs hP hS ls hl
      obtain rfl : j4_ = 5 := by omega
      refine lv_iload_n hx hb dX5_possibleKinds_4 rfl (lv_at hl 3 rfl) ?_
      refine lv_iconst (v := 5) hx hb dX5_possibleKinds_5 (by decide) ?_
      refine lv_icmp_ge (tgt := 30) hx hb dX5_possibleKinds_6 (by decide) (fun c_1 => ?_) (fun c_1 => ?_)
      rotate_left
      · exact absurd (nI_le (Nat.le_refl 5) (by decide)) c_1
      exact K4_ _ _ hP hS _ (lv_sub hl [2] rfl)
    | succ n4_ ih4_ =>
      intro j4_ hj4_ H locs hP hS ls hl
      refine lv_iload_n hx hb dX5_possibleKinds_4 rfl (lv_at hl 3 rfl) ?_
      refine lv_iconst (v := 5) hx hb dX5_possibleKinds_5 (by decide) ?_
      refine lv_icmp_ge (tgt := 30) hx hb dX5_possibleKinds_6 (by decide) (fun c_2 => ?_) (fun c_2 => ?_)
      · exact absurd c_2 (nI_ge (b := 5) (by omega) (by decide))
      refine lv_aload_n hx hb dX5_possibleKinds_9 rfl (lv_at hl 0 rfl) ?_
      refine lv_iload_n hx hb dX5_possibleKinds_10 rfl (lv_at hl 1 rfl) ?_
      refine lv_iload_n hx hb dX5_possibleKinds_11 rfl (lv_at hl 3 rfl) ?_
      refine ro_i (va_runV (As := [.int p0, .int (nI j4_)]) (rest := []) ⟨hx, hb, hml, hown, hts⟩ (c_X5_fits l D cI cC cG h0 h1 h2 h3 hZ hPe hLe hSh p0 (nI j4_)) (cwV 2 hts gX5_possibleKinds_X5_fits rfl rfl rfl (by decide +kernel) ⟨Nat.le_of_ble_eq_true rfl, Nat.le_of_ble_eq_true rfl⟩) (q_preV hK hP hN [0, 1, 2, 3] rfl (ci := 5) (q0 := 0) rfl rfl) rfl rfl hl.1 rfl (lv_room (Nat.le_of_ble_eq_true rfl)) dX5_possibleKinds_12 ⟨Nat.zero_le _, Nat.zero_le _⟩) hS hP (fun H locs hP hS => ?_)
      refine lv_if_eq (tgt := 24) hx hb dX5_possibleKinds_15 (by decide) (fun c_3 => ?_) (fun c_3 => ?_)
      · refine lv_iinc (v := (nI (j4_ + 1))) (lv' := [(3, .int (nI (j4_ + 1))), (0, .ref h0), (1, .int p0), (2, .int (F_X5_possibleKinds_4 p0 hZ hPe hLe hSh 0 j4_))]) hx hb dX5_possibleKinds_24 hl (k := 3) rfl (nI_1 _) (by decide) rfl (fun ls hl => ?_)
        refine lv_goto (tgt := 4) hx hb dX5_possibleKinds_27 (by decide) ?_
        have e_4 : (F_X5_possibleKinds_4 p0 hZ hPe hLe hSh 0 (j4_ + 1)) = (F_X5_possibleKinds_4 p0 hZ hPe hLe hSh 0 j4_) := by simp only [F_X5_possibleKinds_4, if_pos c_3]
        exact ih4_ (j4_ + 1) (by omega) _ _ hP hS _ (by rw [e_4]; exact (lv_sub hl [1, 2, 3, 0] rfl))
      refine lv_iload_n hx hb dX5_possibleKinds_18 rfl (lv_at hl 2 rfl) ?_
      refine lv_iconst (v := 1) hx hb dX5_possibleKinds_19 (by decide) ?_
      refine lv_iload_n hx hb dX5_possibleKinds_20 rfl (lv_at hl 3 rfl) ?_
      refine lv_ishl hx hb dX5_possibleKinds_21 ?_
      refine lv_ior hx hb dX5_possibleKinds_22 ?_
      refine lv_istore_n (lv' := [(2, .int ((F_X5_possibleKinds_4 p0 hZ hPe hLe hSh 0 j4_) ||| (1 <<< ((nI j4_) &&& 31)))), (0, .ref h0), (1, .int p0), (3, .int (nI j4_))]) hx hb dX5_possibleKinds_23 rfl hl (by decide) rfl (fun ls hl => ?_)
      refine lv_iinc (v := (nI (j4_ + 1))) (lv' := [(3, .int (nI (j4_ + 1))), (2, .int ((F_X5_possibleKinds_4 p0 hZ hPe hLe hSh 0 j4_) ||| (1 <<< ((nI j4_) &&& 31)))), (0, .ref h0), (1, .int p0)]) hx hb dX5_possibleKinds_24 hl (k := 3) rfl (nI_1 _) (by decide) rfl (fun ls hl => ?_)
      refine lv_goto (tgt := 4) hx hb dX5_possibleKinds_27 (by decide) ?_
      have e_5 : (F_X5_possibleKinds_4 p0 hZ hPe hLe hSh 0 (j4_ + 1)) = ((F_X5_possibleKinds_4 p0 hZ hPe hLe hSh 0 j4_) ||| (1 <<< ((nI j4_) &&& 31))) := by simp only [F_X5_possibleKinds_4, if_neg c_3]
      exact ih4_ (j4_ + 1) (by omega) _ _ hP hS _ (by rw [e_5]; exact (lv_sub hl [2, 3, 1, 0] rfl))
  exact loop4_ 5 0 (by omega) _ _ hP hS _ (lv_sub hl [2, 3, 1, 0] rfl)
