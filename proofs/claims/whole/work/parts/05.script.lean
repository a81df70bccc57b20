abbrev wT (cI cC cG : ClassId) (t0 : Nat) (t1 : Nat) (tN : Int32) (tL : Nat → Int32) : va_W := [(t0, .inr (3, [.ref t1, .int tN])), (t1, .inl (cC, 200, .inl tL))]
def f_X3_size (tN : Int32) : Int32 := tN
abbrev rm_X3_size : Room := { frames := 0, cells := 0, slots := 0, locals := 0 }
set_option maxRecDepth 100000 in
set_option maxHeartbeats 4000000 in
theorem c_X3_size (l : Launch) (D : va_G) (cI cC cG : ClassId) (t0 : Nat) (t1 : Nat) (tN : Int32) (tL : Nat → Int32) : RoI l yX3_size wsX3_size rm_X3_size D (q_t cI cC cG) (wT cI cC cG t0 t1 tN tL) [.ref t0] (f_X3_size tN) := by
  refine ro_enter (cc := cX3_size) (maxL := 1) (ret := (some .int)) (by decide) rfl (Nat.le_of_ble_eq_true rfl) ?_
  intro p e s m below meth c ls B hP hK hl
  obtain ⟨hx, hb, hr, hlocks, hml, hown, hts, hN⟩ := B
  have hS : va_S q_no s.heap s.heap [] := va_S.rf
  have hown : s.vm.findClass RX3 = some m.cls := hown
  have hl : lv_has ls 1 [(0, .ref t0)] := hl
  have hf15 := hts (.fieldLink RX3 15 "OlderByABlush$Script" "length" "I") (by decide +kernel)
  have hinX3 : ∀ w ∈ u_ws RX3 TX3 2, w ∈ wsX3_size := by decide +kernel
  refine lv_aload_n hx hb dX3_size_0 rfl (lv_at hl 0 rfl) ?_
  refine va_get (D := D) (ci := 3) (v := .int tN) (C := RX3) (T := TX3) (N := 2) hx hb hts hinX3 hown hK hP 0 rfl rfl 1 (by decide) hf15 (fun _ h9 => h9) rfl dX3_size_1 ?_
  exact ro_iret hx hb hr hlocks hS (by simp only [f_X3_size]) dX3_size_4
def g_X3_clear_tN  : Int32 := 0
abbrev rm_X3_clear : Room := { frames := 0, cells := 0, slots := 0, locals := 0 }
set_option maxRecDepth 100000 in
set_option maxHeartbeats 4000000 in
theorem c_X3_clear (l : Launch) (D : va_G) (cI cC cG : ClassId) (t0 : Nat) (t1 : Nat) (tN : Int32) (tL : Nat → Int32) (sz : Nat) : RwV l yX3_clear wsX3_clear rm_X3_clear D (q_t cI cC cG) (wT cI cC cG t0 t1 tN tL) (wT cI cC cG t0 t1 g_X3_clear_tN tL) sz [.ref t0] := by
  refine rw_enter (cc := cX3_clear) (maxL := 1) (ret := none) (by decide) rfl (Nat.le_of_ble_eq_true rfl) ?_
  intro p e s m below meth c ls B hP hK hD hS hA hl
  obtain ⟨hx, hb, hr, hlocks, hml, hown, hts, hN⟩ := B
  have hown : s.vm.findClass RX3 = some m.cls := hown
  have hl : lv_has ls 1 [(0, .ref t0)] := hl
  have hf15 := hts (.fieldLink RX3 15 "OlderByABlush$Script" "length" "I") (by decide +kernel)
  have hinX3 : ∀ w ∈ u_ws RX3 TX3 2, w ∈ wsX3_clear := by decide +kernel
  refine lv_aload_n hx hb dX3_clear_0 rfl (lv_at hl 0 rfl) ?_
  refine lv_iconst (v := 0) hx hb dX3_clear_1 (by decide) ?_
  refine va_put (D := D) (ci := 3) (v := .int 0) (ty := .int) (C := RX3) (T := TX3) (N := 2) hx hb hts hinX3 tyX3 tyX3_ok nmX3 hown hK hP hD hS 0 rfl rfl 1 (by decide) hf15 (fun _ h9 => h9) rfl (by decide +kernel) rfl rfl (Nat.le_of_ble_eq_true rfl) dX3_clear_2 (fun H locs hP hD hS => ?_)
  have hP : va_P D vwCl [(t0, .inr (3, [.ref t1, .int 0])), (t1, .inl (cC, 200, .inl tL))] H := hP
  have hD : va_D (va_A (wT cI cC cG t0 t1 tN tL) sz) [(t0, .inr (3, [.ref t1, .int 0])), (t1, .inl (cC, 200, .inl tL))] := hD
  have e_1 : g_X3_clear_tN = 0 := by simp only [g_X3_clear_tN]
  exact rw_vret hx hb hr hlocks hP hD hS (by rw [e_1]) dX3_clear_5
def f_X3_add (tN : Int32) : Int32 := (if tN < 0 then 0 else (if tN < 200 then 1 else 0))
def g_X3_add_tN (tN : Int32) : Int32 := (if tN < 0 then tN else (if tN < 200 then (tN + 1) else tN))
def g_X3_add_tL (tN : Int32) (tL : Nat → Int32) (p0 : Int32) : Nat → Int32 := (if tN < 0 then tL else (if tN < 200 then (upd tL (Int32.toNatClampNeg tN) (vp_nar .char p0)) else tL))
abbrev rm_X3_add : Room := { frames := 0, cells := 0, slots := 0, locals := 0 }
set_option maxRecDepth 100000 in
set_option maxHeartbeats 4000000 in
theorem c_X3_add (l : Launch) (D : va_G) (cI cC cG : ClassId) (t0 : Nat) (t1 : Nat) (tN : Int32) (tL : Nat → Int32) (p0 : Int32) (sz : Nat) : RwI l yX3_add wsX3_add rm_X3_add D (q_t cI cC cG) (wT cI cC cG t0 t1 tN tL) (wT cI cC cG t0 t1 (g_X3_add_tN tN) (g_X3_add_tL tN tL p0)) sz [.ref t0, .int p0] (f_X3_add tN) := by
  refine rw_enter (cc := cX3_add) (maxL := 2) (ret := (some .boolean)) (by decide) rfl (Nat.le_of_ble_eq_true rfl) ?_
  intro p e s m below meth c ls B hP hK hD hS hA hl
  obtain ⟨hx, hb, hr, hlocks, hml, hown, hts, hN⟩ := B
  have hown : s.vm.findClass RX3 = some m.cls := hown
  have hl : lv_has ls 2 [(0, .ref t0), (1, .int p0)] := hl
  have hf15 := hts (.fieldLink RX3 15 "OlderByABlush$Script" "length" "I") (by decide +kernel)
  have hinX3 : ∀ w ∈ u_ws RX3 TX3 2, w ∈ wsX3_add := by decide +kernel
  have hf9 := hts (.fieldLink RX3 9 "OlderByABlush$Script" "letters" "[C") (by decide +kernel)
  refine lv_aload_n hx hb dX3_add_0 rfl (lv_at hl 0 rfl) ?_
  refine va_get (D := D) (ci := 3) (v := .int tN) (C := RX3) (T := TX3) (N := 2) hx hb hts hinX3 hown hK hP 0 rfl rfl 1 (by decide) hf15 (fun _ h9 => h9) rfl dX3_add_1 ?_
  refine lv_if_lt (tgt := 19) hx hb dX3_add_4 (by decide) (fun c_1 => ?_) (fun c_1 => ?_)
  · refine lv_iconst (v := 0) hx hb dX3_add_19 (by decide) ?_
    have e_2 : (g_X3_add_tN tN) = tN := by simp only [g_X3_add_tN, if_pos c_1]
    have e_3 : (g_X3_add_tL tN tL p0) = tL := by simp only [g_X3_add_tL, if_pos c_1]
    exact rw_zret hx hb hr (by rfl) hlocks hP hD hS (by simp only [f_X3_add, if_pos c_1]) (by rw [e_2, e_3]) dX3_add_20
  refine lv_aload_n hx hb dX3_add_7 rfl (lv_at hl 0 rfl) ?_
  refine va_get (D := D) (ci := 3) (v := .int tN) (C := RX3) (T := TX3) (N := 2) hx hb hts hinX3 hown hK hP 0 rfl rfl 1 (by decide) hf15 (fun _ h9 => h9) rfl dX3_add_8 ?_
  refine lv_aload_n hx hb dX3_add_11 rfl (lv_at hl 0 rfl) ?_
  refine va_get (D := D) (ci := 3) (v := .ref t1) (C := RX3) (T := TX3) (N := 2) hx hb hts hinX3 hown hK hP 0 rfl rfl 0 (by decide) hf9 (fun _ h9 => h9) rfl dX3_add_12 ?_
  refine va_alen (v := 200) hx hb hK hP 1 1 rfl rfl rfl dX3_add_15 ?_
  refine lv_icmp_lt (tgt := 21) hx hb dX3_add_16 (by decide) (fun c_4 => ?_) (fun c_4 => ?_)
  · refine lv_aload_n hx hb dX3_add_21 rfl (lv_at hl 0 rfl) ?_
    refine va_get (D := D) (ci := 3) (v := .ref t1) (C := RX3) (T := TX3) (N := 2) hx hb hts hinX3 hown hK hP 0 rfl rfl 0 (by decide) hf9 (fun _ h9 => h9) rfl dX3_add_22 ?_
    refine lv_aload_n hx hb dX3_add_25 rfl (lv_at hl 0 rfl) ?_
    refine va_get (D := D) (ci := 3) (v := .int tN) (C := RX3) (T := TX3) (N := 2) hx hb hts hinX3 hown hK hP 0 rfl rfl 1 (by decide) hf15 (fun _ h9 => h9) rfl dX3_add_26 ?_
    refine lv_iload_n hx hb dX3_add_29 rfl (lv_at hl 1 rfl) ?_
    refine q_cast hx hb hK hP hD hS 1 1 rfl rfl (in_cmp2 c_1 c_4) (Int32.toNatClampNeg tN) rfl dX3_add_30 (fun H locs hP hD hS => ?_)
    have hP : va_P D vwCl [(t0, .inr (3, [.ref t1, .int tN])), (t1, .inl (cC, 200, .inl (upd tL (Int32.toNatClampNeg tN) (vp_nar .char p0))))] H := hP
    have hD : va_D (va_A (wT cI cC cG t0 t1 tN tL) sz) [(t0, .inr (3, [.ref t1, .int tN])), (t1, .inl (cC, 200, .inl (upd tL (Int32.toNatClampNeg tN) (vp_nar .char p0))))] := hD
    refine lv_aload_n hx hb dX3_add_31 rfl (lv_at hl 0 rfl) ?_
    refine lv_dup hx hb dX3_add_32 rfl ?_
    refine va_get (D := D) (ci := 3) (v := .int tN) (C := RX3) (T := TX3) (N := 2) hx hb hts hinX3 hown hK hP 0 rfl rfl 1 (by decide) hf15 (fun _ h9 => h9) rfl dX3_add_33 ?_
    refine lv_iconst (v := 1) hx hb dX3_add_36 (by decide) ?_
    refine lv_iadd hx hb dX3_add_37 ?_
    refine va_put (D := D) (ci := 3) (v := .int (tN + 1)) (ty := .int) (C := RX3) (T := TX3) (N := 2) hx hb hts hinX3 tyX3 tyX3_ok nmX3 hown hK hP hD hS 0 rfl rfl 1 (by decide) hf15 (fun _ h9 => h9) rfl (by decide +kernel) rfl rfl (Nat.le_of_ble_eq_true rfl) dX3_add_38 (fun H locs hP hD hS => ?_)
    have hP : va_P D vwCl [(t0, .inr (3, [.ref t1, .int (tN + 1)])), (t1, .inl (cC, 200, .inl (upd tL (Int32.toNatClampNeg tN) (vp_nar .char p0))))] H := hP
    have hD : va_D (va_A (wT cI cC cG t0 t1 tN tL) sz) [(t0, .inr (3, [.ref t1, .int (tN + 1)])), (t1, .inl (cC, 200, .inl (upd tL (Int32.toNatClampNeg tN) (vp_nar .char p0))))] := hD
    refine lv_iconst (v := 1) hx hb dX3_add_41 (by decide) ?_
    have e_5 : (g_X3_add_tN tN) = (tN + 1) := by simp only [g_X3_add_tN, if_neg c_1, if_pos c_4]
    have e_6 : (g_X3_add_tL tN tL p0) = (upd tL (Int32.toNatClampNeg tN) (vp_nar .char p0)) := by simp only [g_X3_add_tL, if_neg c_1, if_pos c_4]
    exact rw_zret hx hb hr (by rfl) hlocks hP hD hS (by simp only [f_X3_add, if_neg c_1, if_pos c_4]) (by rw [e_5, e_6]) dX3_add_42
  refine lv_iconst (v := 0) hx hb dX3_add_19 (by decide) ?_
  have e_7 : (g_X3_add_tN tN) = tN := by simp only [g_X3_add_tN, if_neg c_1, if_neg c_4]
  have e_8 : (g_X3_add_tL tN tL p0) = tL := by simp only [g_X3_add_tL, if_neg c_1, if_neg c_4]
  exact rw_zret hx hb hr (by rfl) hlocks hP hD hS (by simp only [f_X3_add, if_neg c_1, if_neg c_4]) (by rw [e_7, e_8]) dX3_add_20
def f_X3_at (tN : Int32) (tL : Nat → Int32) (p0 : Int32) : Int32 := (if p0 < 0 then 0 else (if tN ≤ p0 then 0 else (if 200 ≤ p0 then 0 else (tL (Int32.toNatClampNeg p0)))))
abbrev rm_X3_at : Room := { frames := 0, cells := 0, slots := 0, locals := 0 }
set_option maxRecDepth 100000 in
set_option maxHeartbeats 4000000 in
theorem c_X3_at (l : Launch) (D : va_G) (cI cC cG : ClassId) (t0 : Nat) (t1 : Nat) (tN : Int32) (tL : Nat → Int32) (p0 : Int32) (hT : isC tL) : RoI l yX3_at wsX3_at rm_X3_at D (q_t cI cC cG) (wT cI cC cG t0 t1 tN tL) [.ref t0, .int p0] (f_X3_at tN tL p0) := by
  refine ro_enter (cc := cX3_at) (maxL := 2) (ret := (some .char)) (by decide) rfl (Nat.le_of_ble_eq_true rfl) ?_
  intro p e s m below meth c ls B hP hK hl
  obtain ⟨hx, hb, hr, hlocks, hml, hown, hts, hN⟩ := B
  have hS : va_S q_no s.heap s.heap [] := va_S.rf
  have hown : s.vm.findClass RX3 = some m.cls := hown
  have hl : lv_has ls 2 [(0, .ref t0), (1, .int p0)] := hl
  have hf15 := hts (.fieldLink RX3 15 "OlderByABlush$Script" "length" "I") (by decide +kernel)
  have hinX3 : ∀ w ∈ u_ws RX3 TX3 2, w ∈ wsX3_at := by decide +kernel
  have hf9 := hts (.fieldLink RX3 9 "OlderByABlush$Script" "letters" "[C") (by decide +kernel)
  refine lv_iload_n hx hb dX3_at_0 rfl (lv_at hl 1 rfl) ?_
  refine lv_if_lt (tgt := 30) hx hb dX3_at_1 (by decide) (fun c_1 => ?_) (fun c_1 => ?_)
  · refine lv_iconst (v := 0) hx hb dX3_at_30 (by decide) ?_
    exact ro_zret hx hb hr (by first | rfl | exact hT _) hlocks hS (by simp only [f_X3_at, if_pos c_1]) dX3_at_31
  refine lv_iload_n hx hb dX3_at_4 rfl (lv_at hl 1 rfl) ?_
  refine lv_aload_n hx hb dX3_at_5 rfl (lv_at hl 0 rfl) ?_
  refine va_get (D := D) (ci := 3) (v := .int tN) (C := RX3) (T := TX3) (N := 2) hx hb hts hinX3 hown hK hP 0 rfl rfl 1 (by decide) hf15 (fun _ h9 => h9) rfl dX3_at_6 ?_
  refine lv_icmp_ge (tgt := 30) hx hb dX3_at_9 (by decide) (fun c_2 => ?_) (fun c_2 => ?_)
  · refine lv_iconst (v := 0) hx hb dX3_at_30 (by decide) ?_
    exact ro_zret hx hb hr (by first | rfl | exact hT _) hlocks hS (by simp only [f_X3_at, if_neg c_1, if_pos c_2]) dX3_at_31
  refine lv_iload_n hx hb dX3_at_12 rfl (lv_at hl 1 rfl) ?_
  refine lv_aload_n hx hb dX3_at_13 rfl (lv_at hl 0 rfl) ?_
  refine va_get (D := D) (ci := 3) (v := .ref t1) (C := RX3) (T := TX3) (N := 2) hx hb hts hinX3 hown hK hP 0 rfl rfl 0 (by decide) hf9 (fun _ h9 => h9) rfl dX3_at_14 ?_
  refine va_alen (v := 200) hx hb hK hP 1 1 rfl rfl rfl dX3_at_17 ?_
  refine lv_icmp_ge (tgt := 30) hx hb dX3_at_18 (by decide) (fun c_3 => ?_) (fun c_3 => ?_)
  · refine lv_iconst (v := 0) hx hb dX3_at_30 (by decide) ?_
    exact ro_zret hx hb hr (by first | rfl | exact hT _) hlocks hS (by simp only [f_X3_at, if_neg c_1, if_neg c_2, if_pos c_3]) dX3_at_31
  refine lv_aload_n hx hb dX3_at_21 rfl (lv_at hl 0 rfl) ?_
  refine va_get (D := D) (ci := 3) (v := .ref t1) (C := RX3) (T := TX3) (N := 2) hx hb hts hinX3 hown hK hP 0 rfl rfl 0 (by decide) hf9 (fun _ h9 => h9) rfl dX3_at_22 ?_
  refine lv_iload_n hx hb dX3_at_25 rfl (lv_at hl 1 rfl) ?_
  refine q_cald hx hb hK hP 1 1 rfl rfl (in_cmp c_1 c_3) (Int32.toNatClampNeg p0) rfl dX3_at_26 ?_
  refine lv_goto (tgt := 31) hx hb dX3_at_27 (by decide) ?_
  exact ro_zret hx hb hr (by first | rfl | exact hT _) hlocks hS (by simp only [f_X3_at, if_neg c_1, if_neg c_2, if_neg c_3]) dX3_at_31
