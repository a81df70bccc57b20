abbrev wU8 (cI cC cG : ClassId) (u0 : Nat) (u1 : Nat) (ug0 : Nat) (ug1 : Nat) (ug2 : Nat) (ug3 : Nat) (ug4 : Nat) (ug5 : Nat) (ug6 : Nat) (ug7 : Nat) (uZ : Int32) (uR0 : Nat → Int32) (uR1 : Nat → Int32) (uR2 : Nat → Int32) (uR3 : Nat → Int32) (uR4 : Nat → Int32) (uR5 : Nat → Int32) (uR6 : Nat → Int32) (uR7 : Nat → Int32) : va_W := [(u0, .inr (4, [.ref u1, .int uZ])), (u1, .inl (cG, 8, .inr (.inr (.inr (.inr (q_g [ug0, ug1, ug2, ug3, ug4, ug5, ug6, ug7])))))), (ug0, .inl (cI, 15, .inl uR0)), (ug1, .inl (cI, 15, .inl uR1)), (ug2, .inl (cI, 15, .inl uR2)), (ug3, .inl (cI, 15, .inl uR3)), (ug4, .inl (cI, 15, .inl uR4)), (ug5, .inl (cI, 15, .inl uR5)), (ug6, .inl (cI, 15, .inl uR6)), (ug7, .inl (cI, 15, .inl uR7))]
abbrev wU8s (cI cC cG : ClassId) (u0 : Nat) (u1 : Nat) (ug0 : Nat) (ug1 : Nat) (ug2 : Nat) (ug3 : Nat) (ug4 : Nat) (ug5 : Nat) (ug6 : Nat) (ug7 : Nat) (s0 : Nat) (s1 : Nat) (v0 : Nat) (uZ : Int32) (uR0 : Nat → Int32) (uR1 : Nat → Int32) (uR2 : Nat → Int32) (uR3 : Nat → Int32) (uR4 : Nat → Int32) (uR5 : Nat → Int32) (uR6 : Nat → Int32) (uR7 : Nat → Int32) (row : Nat → Int32) : va_W := [(u0, .inr (4, [.ref u1, .int uZ])), (u1, .inl (cG, 8, .inr (.inr (.inr (.inr (q_g [ug0, ug1, ug2, ug3, ug4, ug5, ug6, ug7])))))), (ug0, .inl (cI, 15, .inl uR0)), (ug1, .inl (cI, 15, .inl uR1)), (ug2, .inl (cI, 15, .inl uR2)), (ug3, .inl (cI, 15, .inl uR3)), (ug4, .inl (cI, 15, .inl uR4)), (ug5, .inl (cI, 15, .inl uR5)), (ug6, .inl (cI, 15, .inl uR6)), (ug7, .inl (cI, 15, .inl uR7)), (s0, .inr (6, [.ref v0, .ref s1])), (s1, .inl (cI, 15, .inl row))]
def f_X4_size8 (uZ : Int32) : Int32 := uZ
abbrev rm_X4_size8 : Room := { frames := 0, cells := 0, slots := 0, locals := 0 }
set_option maxRecDepth 100000 in
set_option maxHeartbeats 4000000 in
theorem c_X4_size8 (l : Launch) (D : va_G) (cI cC cG : ClassId) (u0 : Nat) (u1 : Nat) (ug0 : Nat) (ug1 : Nat) (ug2 : Nat) (ug3 : Nat) (ug4 : Nat) (ug5 : Nat) (ug6 : Nat) (ug7 : Nat) (uZ : Int32) (uR0 : Nat → Int32) (uR1 : Nat → Int32) (uR2 : Nat → Int32) (uR3 : Nat → Int32) (uR4 : Nat → Int32) (uR5 : Nat → Int32) (uR6 : Nat → Int32) (uR7 : Nat → Int32) : RoI l yX4_size wsX4_size rm_X4_size8 D (q_t cI cC cG) (wU8 cI cC cG u0 u1 ug0 ug1 ug2 ug3 ug4 ug5 ug6 ug7 uZ uR0 uR1 uR2 uR3 uR4 uR5 uR6 uR7) [.ref u0] (f_X4_size8 uZ) := by
  refine ro_enter (cc := cX4_size) (maxL := 1) (ret := (some .int)) (by decide) rfl (Nat.le_of_ble_eq_true rfl) ?_
  intro p e s m below meth c ls B hP hK hl
  obtain ⟨hx, hb, hr, hlocks, hml, hown, hts, hN⟩ := B
  have hS : va_S q_no s.heap s.heap [] := va_S.rf
  have hown : s.vm.findClass RX4 = some m.cls := hown
  have hl : lv_has ls 1 [(0, .ref u0)] := hl
  have hf7 := hts (.fieldLink RX4 7 "OlderByABlush$Shelf" "height" "I") (by decide +kernel)
  have hinX4 : ∀ w ∈ u_ws RX4 TX4 2, w ∈ wsX4_size := by decide +kernel
  refine lv_aload_n hx hb dX4_size_0 rfl (lv_at hl 0 rfl) ?_
  refine va_get (D := D) (ci := 4) (v := .int uZ) (C := RX4) (T := TX4) (N := 2) hx hb hts hinX4 hown hK hP 0 rfl rfl 1 (by decide) hf7 (fun _ h9 => h9) rfl dX4_size_1 ?_
  exact ro_iret hx hb hr hlocks hS (by simp only [f_X4_size8]) dX4_size_4
def g_X4_clear8_uZ  : Int32 := 0
abbrev rm_X4_clear8 : Room := { frames := 0, cells := 0, slots := 0, locals := 0 }
set_option maxRecDepth 100000 in
set_option maxHeartbeats 4000000 in
theorem c_X4_clear8 (l : Launch) (D : va_G) (cI cC cG : ClassId) (u0 : Nat) (u1 : Nat) (ug0 : Nat) (ug1 : Nat) (ug2 : Nat) (ug3 : Nat) (ug4 : Nat) (ug5 : Nat) (ug6 : Nat) (ug7 : Nat) (uZ : Int32) (uR0 : Nat → Int32) (uR1 : Nat → Int32) (uR2 : Nat → Int32) (uR3 : Nat → Int32) (uR4 : Nat → Int32) (uR5 : Nat → Int32) (uR6 : Nat → Int32) (uR7 : Nat → Int32) (sz : Nat) : RwV l yX4_clear wsX4_clear rm_X4_clear8 D (q_t cI cC cG) (wU8 cI cC cG u0 u1 ug0 ug1 ug2 ug3 ug4 ug5 ug6 ug7 uZ uR0 uR1 uR2 uR3 uR4 uR5 uR6 uR7) (wU8 cI cC cG u0 u1 ug0 ug1 ug2 ug3 ug4 ug5 ug6 ug7 g_X4_clear8_uZ uR0 uR1 uR2 uR3 uR4 uR5 uR6 uR7) sz [.ref u0] := by
  refine rw_enter (cc := cX4_clear) (maxL := 1) (ret := none) (by decide) rfl (Nat.le_of_ble_eq_true rfl) ?_
  intro p e s m below meth c ls B hP hK hD hS hA hl
  obtain ⟨hx, hb, hr, hlocks, hml, hown, hts, hN⟩ := B
  have hown : s.vm.findClass RX4 = some m.cls := hown
  have hl : lv_has ls 1 [(0, .ref u0)] := hl
  have hf7 := hts (.fieldLink RX4 7 "OlderByABlush$Shelf" "height" "I") (by decide +kernel)
  have hinX4 : ∀ w ∈ u_ws RX4 TX4 2, w ∈ wsX4_clear := by decide +kernel
  refine lv_aload_n hx hb dX4_clear_0 rfl (lv_at hl 0 rfl) ?_
  refine lv_iconst (v := 0) hx hb dX4_clear_1 (by decide) ?_
  refine va_put (D := D) (ci := 4) (v := .int 0) (ty := .int) (C := RX4) (T := TX4) (N := 2) hx hb hts hinX4 tyX4 tyX4_ok nmX4 hown hK hP hD hS 0 rfl rfl 1 (by decide) hf7 (fun _ h9 => h9) rfl (by decide +kernel) rfl rfl (Nat.le_of_ble_eq_true rfl) dX4_clear_2 (fun H locs hP hD hS => ?_)
  have hP : va_P D vwCl [(u0, .inr (4, [.ref u1, .int 0])), (u1, .inl (cG, 8, .inr (.inr (.inr (.inr (q_g [ug0, ug1, ug2, ug3, ug4, ug5, ug6, ug7])))))), (ug0, .inl (cI, 15, .inl uR0)), (ug1, .inl (cI, 15, .inl uR1)), (ug2, .inl (cI, 15, .inl uR2)), (ug3, .inl (cI, 15, .inl uR3)), (ug4, .inl (cI, 15, .inl uR4)), (ug5, .inl (cI, 15, .inl uR5)), (ug6, .inl (cI, 15, .inl uR6)), (ug7, .inl (cI, 15, .inl uR7))] H := hP
  have hD : va_D (va_A (wU8 cI cC cG u0 u1 ug0 ug1 ug2 ug3 ug4 ug5 ug6 ug7 uZ uR0 uR1 uR2 uR3 uR4 uR5 uR6 uR7) sz) [(u0, .inr (4, [.ref u1, .int 0])), (u1, .inl (cG, 8, .inr (.inr (.inr (.inr (q_g [ug0, ug1, ug2, ug3, ug4, ug5, ug6, ug7])))))), (ug0, .inl (cI, 15, .inl uR0)), (ug1, .inl (cI, 15, .inl uR1)), (ug2, .inl (cI, 15, .inl uR2)), (ug3, .inl (cI, 15, .inl uR3)), (ug4, .inl (cI, 15, .inl uR4)), (ug5, .inl (cI, 15, .inl uR5)), (ug6, .inl (cI, 15, .inl uR6)), (ug7, .inl (cI, 15, .inl uR7))] := hD
  have e_1 : g_X4_clear8_uZ = 0 := by simp only [g_X4_clear8_uZ]
  exact rw_vret hx hb hr hlocks hP hD hS (by rw [e_1]) dX4_clear_5
abbrev wU2 (cI cC cG : ClassId) (u0 : Nat) (u1 : Nat) (ug0 : Nat) (ug1 : Nat) (uZ : Int32) (uR0 : Nat → Int32) (uR1 : Nat → Int32) : va_W := [(u0, .inr (4, [.ref u1, .int uZ])), (u1, .inl (cG, 2, .inr (.inr (.inr (.inr (q_g [ug0, ug1])))))), (ug0, .inl (cI, 15, .inl uR0)), (ug1, .inl (cI, 15, .inl uR1))]
abbrev wU2s (cI cC cG : ClassId) (u0 : Nat) (u1 : Nat) (ug0 : Nat) (ug1 : Nat) (s0 : Nat) (s1 : Nat) (v0 : Nat) (uZ : Int32) (uR0 : Nat → Int32) (uR1 : Nat → Int32) (row : Nat → Int32) : va_W := [(u0, .inr (4, [.ref u1, .int uZ])), (u1, .inl (cG, 2, .inr (.inr (.inr (.inr (q_g [ug0, ug1])))))), (ug0, .inl (cI, 15, .inl uR0)), (ug1, .inl (cI, 15, .inl uR1)), (s0, .inr (6, [.ref v0, .ref s1])), (s1, .inl (cI, 15, .inl row))]
def f_X4_size2 (uZ : Int32) : Int32 := uZ
abbrev rm_X4_size2 : Room := { frames := 0, cells := 0, slots := 0, locals := 0 }
set_option maxRecDepth 100000 in
set_option maxHeartbeats 4000000 in
theorem c_X4_size2 (l : Launch) (D : va_G) (cI cC cG : ClassId) (u0 : Nat) (u1 : Nat) (ug0 : Nat) (ug1 : Nat) (uZ : Int32) (uR0 : Nat → Int32) (uR1 : Nat → Int32) : RoI l yX4_size wsX4_size rm_X4_size2 D (q_t cI cC cG) (wU2 cI cC cG u0 u1 ug0 ug1 uZ uR0 uR1) [.ref u0] (f_X4_size2 uZ) := by
  refine ro_enter (cc := cX4_size) (maxL := 1) (ret := (some .int)) (by decide) rfl (Nat.le_of_ble_eq_true rfl) ?_
  intro p e s m below meth c ls B hP hK hl
  obtain ⟨hx, hb, hr, hlocks, hml, hown, hts, hN⟩ := B
  have hS : va_S q_no s.heap s.heap [] := va_S.rf
  have hown : s.vm.findClass RX4 = some m.cls := hown
  have hl : lv_has ls 1 [(0, .ref u0)] := hl
  have hf7 := hts (.fieldLink RX4 7 "OlderByABlush$Shelf" "height" "I") (by decide +kernel)
  have hinX4 : ∀ w ∈ u_ws RX4 TX4 2, w ∈ wsX4_size := by decide +kernel
  refine lv_aload_n hx hb dX4_size_0 rfl (lv_at hl 0 rfl) ?_
  refine va_get (D := D) (ci := 4) (v := .int uZ) (C := RX4) (T := TX4) (N := 2) hx hb hts hinX4 hown hK hP 0 rfl rfl 1 (by decide) hf7 (fun _ h9 => h9) rfl dX4_size_1 ?_
  exact ro_iret hx hb hr hlocks hS (by simp only [f_X4_size2]) dX4_size_4
def g_X4_clear2_uZ  : Int32 := 0
abbrev rm_X4_clear2 : Room := { frames := 0, cells := 0, slots := 0, locals := 0 }
set_option maxRecDepth 100000 in
set_option maxHeartbeats 4000000 in
theorem c_X4_clear2 (l : Launch) (D : va_G) (cI cC cG : ClassId) (u0 : Nat) (u1 : Nat) (ug0 : Nat) (ug1 : Nat) (uZ : Int32) (uR0 : Nat → Int32) (uR1 : Nat → Int32) (sz : Nat) : RwV l yX4_clear wsX4_clear rm_X4_clear2 D (q_t cI cC cG) (wU2 cI cC cG u0 u1 ug0 ug1 uZ uR0 uR1) (wU2 cI cC cG u0 u1 ug0 ug1 g_X4_clear2_uZ uR0 uR1) sz [.ref u0] := by
  refine rw_enter (cc := cX4_clear) (maxL := 1) (ret := none) (by decide) rfl (Nat.le_of_ble_eq_true rfl) ?_
  intro p e s m below meth c ls B hP hK hD hS hA hl
  obtain ⟨hx, hb, hr, hlocks, hml, hown, hts, hN⟩ := B
  have hown : s.vm.findClass RX4 = some m.cls := hown
  have hl : lv_has ls 1 [(0, .ref u0)] := hl
  have hf7 := hts (.fieldLink RX4 7 "OlderByABlush$Shelf" "height" "I") (by decide +kernel)
  have hinX4 : ∀ w ∈ u_ws RX4 TX4 2, w ∈ wsX4_clear := by decide +kernel
  refine lv_aload_n hx hb dX4_clear_0 rfl (lv_at hl 0 rfl) ?_
  refine lv_iconst (v := 0) hx hb dX4_clear_1 (by decide) ?_
  refine va_put (D := D) (ci := 4) (v := .int 0) (ty := .int) (C := RX4) (T := TX4) (N := 2) hx hb hts hinX4 tyX4 tyX4_ok nmX4 hown hK hP hD hS 0 rfl rfl 1 (by decide) hf7 (fun _ h9 => h9) rfl (by decide +kernel) rfl rfl (Nat.le_of_ble_eq_true rfl) dX4_clear_2 (fun H locs hP hD hS => ?_)
  have hP : va_P D vwCl [(u0, .inr (4, [.ref u1, .int 0])), (u1, .inl (cG, 2, .inr (.inr (.inr (.inr (q_g [ug0, ug1])))))), (ug0, .inl (cI, 15, .inl uR0)), (ug1, .inl (cI, 15, .inl uR1))] H := hP
  have hD : va_D (va_A (wU2 cI cC cG u0 u1 ug0 ug1 uZ uR0 uR1) sz) [(u0, .inr (4, [.ref u1, .int 0])), (u1, .inl (cG, 2, .inr (.inr (.inr (.inr (q_g [ug0, ug1])))))), (ug0, .inl (cI, 15, .inl uR0)), (ug1, .inl (cI, 15, .inl uR1))] := hD
  have e_1 : g_X4_clear2_uZ = 0 := by simp only [g_X4_clear2_uZ]
  exact rw_vret hx hb hr hlocks hP hD hS (by rw [e_1]) dX4_clear_5
def f_X4_push8 (uZ : Int32) : Int32 := (if uZ < 0 then 0 else (if uZ < 8 then 1 else 0))
def g_X4_push8_uZ (uZ : Int32) : Int32 := (if uZ < 0 then uZ else (if uZ < 8 then (uZ + 1) else uZ))
def g_X4_push8_uR0 (uZ : Int32) (uR0 : Nat → Int32) (row : Nat → Int32) : Nat → Int32 := (if uZ < 0 then uR0 else (if uZ < 8 then (if uZ = 0 then (g_X6_copyInto_cel row uR0) else uR0) else uR0))
def g_X4_push8_uR1 (uZ : Int32) (uR1 : Nat → Int32) (row : Nat → Int32) : Nat → Int32 := (if uZ < 0 then uR1 else (if uZ < 8 then (if uZ = 0 then uR1 else (if uZ = 1 then (g_X6_copyInto_cel row uR1) else uR1)) else uR1))
def g_X4_push8_uR2 (uZ : Int32) (uR2 : Nat → Int32) (row : Nat → Int32) : Nat → Int32 := (if uZ < 0 then uR2 else (if uZ < 8 then (if uZ = 0 then uR2 else (if uZ = 1 then uR2 else (if uZ = 2 then (g_X6_copyInto_cel row uR2) else uR2))) else uR2))
def g_X4_push8_uR3 (uZ : Int32) (uR3 : Nat → Int32) (row : Nat → Int32) : Nat → Int32 := (if uZ < 0 then uR3 else (if uZ < 8 then (if uZ = 0 then uR3 else (if uZ = 1 then uR3 else (if uZ = 2 then uR3 else (if uZ = 3 then (g_X6_copyInto_cel row uR3) else uR3)))) else uR3))
def g_X4_push8_uR4 (uZ : Int32) (uR4 : Nat → Int32) (row : Nat → Int32) : Nat → Int32 := (if uZ < 0 then uR4 else (if uZ < 8 then (if uZ = 0 then uR4 else (if uZ = 1 then uR4 else (if uZ = 2 then uR4 else (if uZ = 3 then uR4 else (if uZ = 4 then (g_X6_copyInto_cel row uR4) else uR4))))) else uR4))
def g_X4_push8_uR5 (uZ : Int32) (uR5 : Nat → Int32) (row : Nat → Int32) : Nat → Int32 := (if uZ < 0 then uR5 else (if uZ < 8 then (if uZ = 0 then uR5 else (if uZ = 1 then uR5 else (if uZ = 2 then uR5 else (if uZ = 3 then uR5 else (if uZ = 4 then uR5 else (if uZ = 5 then (g_X6_copyInto_cel row uR5) else uR5)))))) else uR5))
def g_X4_push8_uR6 (uZ : Int32) (uR6 : Nat → Int32) (row : Nat → Int32) : Nat → Int32 := (if uZ < 0 then uR6 else (if uZ < 8 then (if uZ = 0 then uR6 else (if uZ = 1 then uR6 else (if uZ = 2 then uR6 else (if uZ = 3 then uR6 else (if uZ = 4 then uR6 else (if uZ = 5 then uR6 else (if uZ = 6 then (g_X6_copyInto_cel row uR6) else uR6))))))) else uR6))
def g_X4_push8_uR7 (uZ : Int32) (uR7 : Nat → Int32) (row : Nat → Int32) : Nat → Int32 := (if uZ < 0 then uR7 else (if uZ < 8 then (if uZ = 0 then uR7 else (if uZ = 1 then uR7 else (if uZ = 2 then uR7 else (if uZ = 3 then uR7 else (if uZ = 4 then uR7 else (if uZ = 5 then uR7 else (if uZ = 6 then uR7 else (g_X6_copyInto_cel row uR7)))))))) else uR7))
abbrev rm_X4_push8 : Room := { frames := 1, cells := 0, slots := 0, locals := 22 }
set_option maxRecDepth 100000 in
set_option maxHeartbeats 4000000 in
theorem c_X4_push8 (l : Launch) (D : va_G) (cI cC cG : ClassId) (u0 : Nat) (u1 : Nat) (ug0 : Nat) (ug1 : Nat) (ug2 : Nat) (ug3 : Nat) (ug4 : Nat) (ug5 : Nat) (ug6 : Nat) (ug7 : Nat) (s0 : Nat) (s1 : Nat) (v0 : Nat) (uZ : Int32) (uR0 : Nat → Int32) (uR1 : Nat → Int32) (uR2 : Nat → Int32) (uR3 : Nat → Int32) (uR4 : Nat → Int32) (uR5 : Nat → Int32) (uR6 : Nat → Int32) (uR7 : Nat → Int32) (row : Nat → Int32) (sz : Nat) : RwI l yX4_push wsX4_push rm_X4_push8 D (q_t cI cC cG) (wU8s cI cC cG u0 u1 ug0 ug1 ug2 ug3 ug4 ug5 ug6 ug7 s0 s1 v0 uZ uR0 uR1 uR2 uR3 uR4 uR5 uR6 uR7 row) (wU8s cI cC cG u0 u1 ug0 ug1 ug2 ug3 ug4 ug5 ug6 ug7 s0 s1 v0 (g_X4_push8_uZ uZ) (g_X4_push8_uR0 uZ uR0 row) (g_X4_push8_uR1 uZ uR1 row) (g_X4_push8_uR2 uZ uR2 row) (g_X4_push8_uR3 uZ uR3 row) (g_X4_push8_uR4 uZ uR4 row) (g_X4_push8_uR5 uZ uR5 row) (g_X4_push8_uR6 uZ uR6 row) (g_X4_push8_uR7 uZ uR7 row) row) sz [.ref u0, .ref s0] (f_X4_push8 uZ) := by
  refine rw_enter (cc := cX4_push) (maxL := 2) (ret := (some .boolean)) (by decide) rfl (Nat.le_of_ble_eq_true rfl) ?_
  intro p e s m below meth c ls B hP hK hD hS hA hl
  obtain ⟨hx, hb, hr, hlocks, hml, hown, hts, hN⟩ := B
  have hown : s.vm.findClass RX4 = some m.cls := hown
  have hl : lv_has ls 2 [(0, .ref u0), (1, .ref s0)] := hl
  have hf7 := hts (.fieldLink RX4 7 "OlderByABlush$Shelf" "height" "I") (by decide +kernel)
  have hinX4 : ∀ w ∈ u_ws RX4 TX4 2, w ∈ wsX4_push := by decide +kernel
  have hf17 := hts (.fieldLink RX4 17 "OlderByABlush$Shelf" "rows" "[[I") (by decide +kernel)
  refine lv_aload_n hx hb dX4_push_0 rfl (lv_at hl 0 rfl) ?_
  refine va_get (D := D) (ci := 4) (v := .int uZ) (C := RX4) (T := TX4) (N := 2) hx hb hts hinX4 hown hK hP 0 rfl rfl 1 (by decide) hf7 (fun _ h9 => h9) rfl dX4_push_1 ?_
  refine lv_if_lt (tgt := 19) hx hb dX4_push_4 (by decide) (fun c_1 => ?_) (fun c_1 => ?_)
  · refine lv_iconst (v := 0) hx hb dX4_push_19 (by decide) ?_
    have e_2 : (g_X4_push8_uZ uZ) = uZ := by simp only [g_X4_push8_uZ, if_pos c_1]
    have e_3 : (g_X4_push8_uR0 uZ uR0 row) = uR0 := by simp only [g_X4_push8_uR0, if_pos c_1]
    have e_4 : (g_X4_push8_uR1 uZ uR1 row) = uR1 := by simp only [g_X4_push8_uR1, if_pos c_1]
    have e_5 : (g_X4_push8_uR2 uZ uR2 row) = uR2 := by simp only [g_X4_push8_uR2, if_pos c_1]
    have e_6 : (g_X4_push8_uR3 uZ uR3 row) = uR3 := by simp only [g_X4_push8_uR3, if_pos c_1]
    have e_7 : (g_X4_push8_uR4 uZ uR4 row) = uR4 := by simp only [g_X4_push8_uR4, if_pos c_1]
    have e_8 : (g_X4_push8_uR5 uZ uR5 row) = uR5 := by simp only [g_X4_push8_uR5, if_pos c_1]
    have e_9 : (g_X4_push8_uR6 uZ uR6 row) = uR6 := by simp only [g_X4_push8_uR6, if_pos c_1]
    have e_10 : (g_X4_push8_uR7 uZ uR7 row) = uR7 := by simp only [g_X4_push8_uR7, if_pos c_1]
    exact rw_zret hx hb hr (by rfl) hlocks hP hD hS (by simp only [f_X4_push8, if_pos c_1]) (by rw [e_2, e_3, e_4, e_5, e_6, e_7, e_8, e_9, e_10]) dX4_push_20
  refine lv_aload_n hx hb dX4_push_7 rfl (lv_at hl 0 rfl) ?_
  refine va_get (D := D) (ci := 4) (v := .int uZ) (C := RX4) (T := TX4) (N := 2) hx hb hts hinX4 hown hK hP 0 rfl rfl 1 (by decide) hf7 (fun _ h9 => h9) rfl dX4_push_8 ?_
  refine lv_aload_n hx hb dX4_push_11 rfl (lv_at hl 0 rfl) ?_
  refine va_get (D := D) (ci := 4) (v := .ref u1) (C := RX4) (T := TX4) (N := 2) hx hb hts hinX4 hown hK hP 0 rfl rfl 0 (by decide) hf17 (fun _ h9 => h9) rfl dX4_push_12 ?_
  refine va_alen (v := 8) hx hb hK hP 1 2 rfl rfl rfl dX4_push_15 ?_
  refine lv_icmp_lt (tgt := 21) hx hb dX4_push_16 (by decide) (fun c_11 => ?_) (fun c_11 => ?_)
  · refine lv_aload_n hx hb dX4_push_21 rfl (lv_at hl 1 rfl) ?_
    refine lv_aload_n hx hb dX4_push_22 rfl (lv_at hl 0 rfl) ?_
    refine va_get (D := D) (ci := 4) (v := .ref u1) (C := RX4) (T := TX4) (N := 2) hx hb hts hinX4 hown hK hP 0 rfl rfl 0 (by decide) hf17 (fun _ h9 => h9) rfl dX4_push_23 ?_
    refine lv_aload_n hx hb dX4_push_26 rfl (lv_at hl 0 rfl) ?_
    refine va_get (D := D) (ci := 4) (v := .int uZ) (C := RX4) (T := TX4) (N := 2) hx hb hts hinX4 hown hK hP 0 rfl rfl 1 (by decide) hf7 (fun _ h9 => h9) rfl dX4_push_27 ?_
    have hin30 : vp_in uZ 8 := (in_cmp2 c_1 c_11)
    by_cases c_12 : uZ = 0
    · refine q_aald hx hb hK hP 1 2 rfl rfl hin30 0 (by rw [c_12]; decide) rfl dX4_push_30 ?_
      refine rw_v (wr := [(u0, .inr (4, [.ref u1, .int uZ])), (u1, .inl (cG, 8, .inr (.inr (.inr (.inr (q_g [ug0, ug1, ug2, ug3, ug4, ug5, ug6, ug7])))))), (ug1, .inl (cI, 15, .inl uR1)), (ug2, .inl (cI, 15, .inl uR2)), (ug3, .inl (cI, 15, .inl uR3)), (ug4, .inl (cI, 15, .inl uR4)), (ug5, .inl (cI, 15, .inl uR5)), (ug6, .inl (cI, 15, .inl uR6)), (ug7, .inl (cI, 15, .inl uR7))]) (ws2 := [(u0, .inr (4, [.ref u1, .int uZ])), (u1, .inl (cG, 8, .inr (.inr (.inr (.inr (q_g [ug0, ug1, ug2, ug3, ug4, ug5, ug6, ug7])))))), (ug0, .inl (cI, 15, .inl (g_X6_copyInto_cel row uR0))), (ug1, .inl (cI, 15, .inl uR1)), (ug2, .inl (cI, 15, .inl uR2)), (ug3, .inl (cI, 15, .inl uR3)), (ug4, .inl (cI, 15, .inl uR4)), (ug5, .inl (cI, 15, .inl uR5)), (ug6, .inl (cI, 15, .inl uR6)), (ug7, .inl (cI, 15, .inl uR7)), (s0, .inr (6, [.ref v0, .ref s1])), (s1, .inl (cI, 15, .inl row))]) (va_runV (As := [.ref ug0]) (rest := []) ⟨hx, hb, hml, hown, hts⟩ (c_X6_copyInto l D cI cC cG s0 s1 ug0 v0 row uR0 s.heap.size) (cwV 1 hts gX4_push_X6_copyInto rfl rfl rfl (by decide +kernel) ⟨Nat.le_of_ble_eq_true rfl, Nat.le_of_ble_eq_true rfl⟩) (q_preWV hK hP hD hN [10, 11, 2] (by decide) rfl rfl (ci := 6) (q0 := 10) rfl rfl) rfl rfl hl.1 rfl (lv_room (Nat.le_of_ble_eq_true rfl)) dX4_push_31 ⟨Nat.zero_le _, Nat.zero_le _⟩) hS hA hP hD [10, 11, 2] [0, 1, 3, 4, 5, 6, 7, 8, 9] rfl rfl (by decide) (by decide) [0, 1, 11, 2, 3, 4, 5, 6, 7, 8, 9, 10] (by decide) rfl rfl (fun H locs hP hD hS => ?_)
      refine lv_aload_n hx hb dX4_push_34 rfl (lv_at hl 0 rfl) ?_
      refine lv_dup hx hb dX4_push_35 rfl ?_
      refine va_get (D := D) (ci := 4) (v := .int uZ) (C := RX4) (T := TX4) (N := 2) hx hb hts hinX4 hown hK hP 0 rfl rfl 1 (by decide) hf7 (fun _ h9 => h9) rfl dX4_push_36 ?_
      refine lv_iconst (v := 1) hx hb dX4_push_39 (by decide) ?_
      refine lv_iadd hx hb dX4_push_40 ?_
      refine va_put (D := D) (ci := 4) (v := .int (uZ + 1)) (ty := .int) (C := RX4) (T := TX4) (N := 2) hx hb hts hinX4 tyX4 tyX4_ok nmX4 hown hK hP hD hS 0 rfl rfl 1 (by decide) hf7 (fun _ h9 => h9) rfl (by decide +kernel) rfl rfl (Nat.le_of_ble_eq_true rfl) dX4_push_41 (fun H locs hP hD hS => ?_)
      have hP : va_P D vwCl [(u0, .inr (4, [.ref u1, .int (uZ + 1)])), (u1, .inl (cG, 8, .inr (.inr (.inr (.inr (q_g [ug0, ug1, ug2, ug3, ug4, ug5, ug6, ug7])))))), (ug0, .inl (cI, 15, .inl (g_X6_copyInto_cel row uR0))), (ug1, .inl (cI, 15, .inl uR1)), (ug2, .inl (cI, 15, .inl uR2)), (ug3, .inl (cI, 15, .inl uR3)), (ug4, .inl (cI, 15, .inl uR4)), (ug5, .inl (cI, 15, .inl uR5)), (ug6, .inl (cI, 15, .inl uR6)), (ug7, .inl (cI, 15, .inl uR7)), (s0, .inr (6, [.ref v0, .ref s1])), (s1, .inl (cI, 15, .inl row))] H := hP
      have hD : va_D (va_A (wU8s cI cC cG u0 u1 ug0 ug1 ug2 ug3 ug4 ug5 ug6 ug7 s0 s1 v0 uZ uR0 uR1 uR2 uR3 uR4 uR5 uR6 uR7 row) sz) [(u0, .inr (4, [.ref u1, .int (uZ + 1)])), (u1, .inl (cG, 8, .inr (.inr (.inr (.inr (q_g [ug0, ug1, ug2, ug3, ug4, ug5, ug6, ug7])))))), (ug0, .inl (cI, 15, .inl (g_X6_copyInto_cel row uR0))), (ug1, .inl (cI, 15, .inl uR1)), (ug2, .inl (cI, 15, .inl uR2)), (ug3, .inl (cI, 15, .inl uR3)), (ug4, .inl (cI, 15, .inl uR4)), (ug5, .inl (cI, 15, .inl uR5)), (ug6, .inl (cI, 15, .inl uR6)), (ug7, .inl (cI, 15, .inl uR7)), (s0, .inr (6, [.ref v0, .ref s1])), (s1, .inl (cI, 15, .inl row))] := hD
      refine lv_iconst (v := 1) hx hb dX4_push_44 (by decide) ?_
      have e_13 : (g_X4_push8_uZ uZ) = (uZ + 1) := by simp only [g_X4_push8_uZ, if_neg c_1, if_pos c_11, if_pos c_12]
      have e_14 : (g_X4_push8_uR0 uZ uR0 row) = (g_X6_copyInto_cel row uR0) := by simp only [g_X4_push8_uR0, if_neg c_1, if_pos c_11, if_pos c_12]
      have e_15 : (g_X4_push8_uR1 uZ uR1 row) = uR1 := by simp only [g_X4_push8_uR1, if_neg c_1, if_pos c_11, if_pos c_12]
      have e_16 : (g_X4_push8_uR2 uZ uR2 row) = uR2 := by simp only [g_X4_push8_uR2, if_neg c_1, if_pos c_11, if_pos c_12]
      have e_17 : (g_X4_push8_uR3 uZ uR3 row) = uR3 := by simp only [g_X4_push8_uR3, if_neg c_1, if_pos c_11, if_pos c_12]
      have e_18 : (g_X4_push8_uR4 uZ uR4 row) = uR4 := by simp only [g_X4_push8_uR4, if_neg c_1, if_pos c_11, if_pos c_12]
      have e_19 : (g_X4_push8_uR5 uZ uR5 row) = uR5 := by simp only [g_X4_push8_uR5, if_neg c_1, if_pos c_11, if_pos c_12]
      have e_20 : (g_X4_push8_uR6 uZ uR6 row) = uR6 := by simp only [g_X4_push8_uR6, if_neg c_1, if_pos c_11, if_pos c_12]
      have e_21 : (g_X4_push8_uR7 uZ uR7 row) = uR7 := by simp only [g_X4_push8_uR7, if_neg c_1, if_pos c_11, if_pos c_12]
      exact rw_zret hx hb hr (by rfl) hlocks hP hD hS (by simp only [f_X4_push8, if_neg c_1, if_pos c_11, if_pos c_12]) (by rw [e_13, e_14, e_15, e_16, e_17, e_18, e_19, e_20, e_21]) dX4_push_45
    by_cases c_22 : uZ = 1
    · refine q_aald hx hb hK hP 1 2 rfl rfl hin30 1 (by rw [c_22]; decide) rfl dX4_push_30 ?_
      refine rw_v (wr := [(u0, .inr (4, [.ref u1, .int uZ])), (u1, .inl (cG, 8, .inr (.inr (.inr (.inr (q_g [ug0, ug1, ug2, ug3, ug4, ug5, ug6, ug7])))))), (ug0, .inl (cI, 15, .inl uR0)), (ug2, .inl (cI, 15, .inl uR2)), (ug3, .inl (cI, 15, .inl uR3)), (ug4, .inl (cI, 15, .inl uR4)), (ug5, .inl (cI, 15, .inl uR5)), (ug6, .inl (cI, 15, .inl uR6)), (ug7, .inl (cI, 15, .inl uR7))]) (ws2 := [(u0, .inr (4, [.ref u1, .int uZ])), (u1, .inl (cG, 8, .inr (.inr (.inr (.inr (q_g [ug0, ug1, ug2, ug3, ug4, ug5, ug6, ug7])))))), (ug0, .inl (cI, 15, .inl uR0)), (ug1, .inl (cI, 15, .inl (g_X6_copyInto_cel row uR1))), (ug2, .inl (cI, 15, .inl uR2)), (ug3, .inl (cI, 15, .inl uR3)), (ug4, .inl (cI, 15, .inl uR4)), (ug5, .inl (cI, 15, .inl uR5)), (ug6, .inl (cI, 15, .inl uR6)), (ug7, .inl (cI, 15, .inl uR7)), (s0, .inr (6, [.ref v0, .ref s1])), (s1, .inl (cI, 15, .inl row))]) (va_runV (As := [.ref ug1]) (rest := []) ⟨hx, hb, hml, hown, hts⟩ (c_X6_copyInto l D cI cC cG s0 s1 ug1 v0 row uR1 s.heap.size) (cwV 1 hts gX4_push_X6_copyInto rfl rfl rfl (by decide +kernel) ⟨Nat.le_of_ble_eq_true rfl, Nat.le_of_ble_eq_true rfl⟩) (q_preWV hK hP hD hN [10, 11, 3] (by decide) rfl rfl (ci := 6) (q0 := 10) rfl rfl) rfl rfl hl.1 rfl (lv_room (Nat.le_of_ble_eq_true rfl)) dX4_push_31 ⟨Nat.zero_le _, Nat.zero_le _⟩) hS hA hP hD [10, 11, 3] [0, 1, 2, 4, 5, 6, 7, 8, 9] rfl rfl (by decide) (by decide) [0, 1, 2, 11, 3, 4, 5, 6, 7, 8, 9, 10] (by decide) rfl rfl (fun H locs hP hD hS => ?_)
      refine lv_aload_n hx hb dX4_push_34 rfl (lv_at hl 0 rfl) ?_
      refine lv_dup hx hb dX4_push_35 rfl ?_
      refine va_get (D := D) (ci := 4) (v := .int uZ) (C := RX4) (T := TX4) (N := 2) hx hb hts hinX4 hown hK hP 0 rfl rfl 1 (by decide) hf7 (fun _ h9 => h9) rfl dX4_push_36 ?_
      refine lv_iconst (v := 1) hx hb dX4_push_39 (by decide) ?_
      refine lv_iadd hx hb dX4_push_40 ?_
      refine va_put (D := D) (ci := 4) (v := .int (uZ + 1)) (ty := .int) (C := RX4) (T := TX4) (N := 2) hx hb hts hinX4 tyX4 tyX4_ok nmX4 hown hK hP hD hS 0 rfl rfl 1 (by decide) hf7 (fun _ h9 => h9) rfl (by decide +kernel) rfl rfl (Nat.le_of_ble_eq_true rfl) dX4_push_41 (fun H locs hP hD hS => ?_)
      have hP : va_P D vwCl [(u0, .inr (4, [.ref u1, .int (uZ + 1)])), (u1, .inl (cG, 8, .inr (.inr (.inr (.inr (q_g [ug0, ug1, ug2, ug3, ug4, ug5, ug6, ug7])))))), (ug0, .inl (cI, 15, .inl uR0)), (ug1, .inl (cI, 15, .inl (g_X6_copyInto_cel row uR1))), (ug2, .inl (cI, 15, .inl uR2)), (ug3, .inl (cI, 15, .inl uR3)), (ug4, .inl (cI, 15, .inl uR4)), (ug5, .inl (cI, 15, .inl uR5)), (ug6, .inl (cI, 15, .inl uR6)), (ug7, .inl (cI, 15, .inl uR7)), (s0, .inr (6, [.ref v0, .ref s1])), (s1, .inl (cI, 15, .inl row))] H := hP
      have hD : va_D (va_A (wU8s cI cC cG u0 u1 ug0 ug1 ug2 ug3 ug4 ug5 ug6 ug7 s0 s1 v0 uZ uR0 uR1 uR2 uR3 uR4 uR5 uR6 uR7 row) sz) [(u0, .inr (4, [.ref u1, .int (uZ + 1)])), (u1, .inl (cG, 8, .inr (.inr (.inr (.inr (q_g [ug0, ug1, ug2, ug3, ug4, ug5, ug6, ug7])))))), (ug0, .inl (cI, 15, .inl uR0)), (ug1, .inl (cI, 15, .inl (g_X6_copyInto_cel row uR1))), (ug2, .inl (cI, 15, .inl uR2)), (ug3, .inl (cI, 15, .inl uR3)), (ug4, .inl (cI, 15, .inl uR4)), (ug5, .inl (cI, 15, .inl uR5)), (ug6, .inl (cI, 15, .inl uR6)), (ug7, .inl (cI, 15, .inl uR7)), (s0, .inr (6, [.ref v0, .ref s1])), (s1, .inl (cI, 15, .inl row))] := hD
      refine lv_iconst (v := 1) hx hb dX4_push_44 (by decide) ?_
      have e_23 : (g_X4_push8_uZ uZ) = (uZ + 1) := by simp only [g_X4_push8_uZ, if_neg c_1, if_pos c_11, if_neg c_12, if_pos c_22]
      have e_24 : (g_X4_push8_uR0 uZ uR0 row) = uR0 := by simp only [g_X4_push8_uR0, if_neg c_1, if_pos c_11, if_neg c_12, if_pos c_22]
      have e_25 : (g_X4_push8_uR1 uZ uR1 row) = (g_X6_copyInto_cel row uR1) := by simp only [g_X4_push8_uR1, if_neg c_1, if_pos c_11, if_neg c_12, if_pos c_22]
      have e_26 : (g_X4_push8_uR2 uZ uR2 row) = uR2 := by simp only [g_X4_push8_uR2, if_neg c_1, if_pos c_11, if_neg c_12, if_pos c_22]
      have e_27 : (g_X4_push8_uR3 uZ uR3 row) = uR3 := by simp only [g_X4_push8_uR3, if_neg c_1, if_pos c_11, if_neg c_12, if_pos c_22]
      have e_28 : (g_X4_push8_uR4 uZ uR4 row) = uR4 := by simp only [g_X4_push8_uR4, if_neg c_1, if_pos c_11, if_neg c_12, if_pos c_22]
      have e_29 : (g_X4_push8_uR5 uZ uR5 row) = uR5 := by simp only [g_X4_push8_uR5, if_neg c_1, if_pos c_11, if_neg c_12, if_pos c_22]
      have e_30 : (g_X4_push8_uR6 uZ uR6 row) = uR6 := by simp only [g_X4_push8_uR6, if_neg c_1, if_pos c_11, if_neg c_12, if_pos c_22]
      have e_31 : (g_X4_push8_uR7 uZ uR7 row) = uR7 := by simp only [g_X4_push8_uR7, if_neg c_1, if_pos c_11, if_neg c_12, if_pos c_22]
      exact rw_zret hx hb hr (by rfl) hlocks hP hD hS (by simp only [f_X4_push8, if_neg c_1, if_pos c_11, if_neg c_12, if_pos c_22]) (by rw [e_23, e_24, e_25, e_26, e_27, e_28, e_29, e_30, e_31]) dX4_push_45
    by_cases c_32 : uZ = 2
    · refine q_aald hx hb hK hP 1 2 rfl rfl hin30 2 (by rw [c_32]; decide) rfl dX4_push_30 ?_
      refine rw_v (wr := [(u0, .inr (4, [.ref u1, .int uZ])), (u1, .inl (cG, 8, .inr (.inr (.inr (.inr (q_g [ug0, ug1, ug2, ug3, ug4, ug5, ug6, ug7])))))), (ug0, .inl (cI, 15, .inl uR0)), (ug1, .inl (cI, 15, .inl uR1)), (ug3, .inl (cI, 15, .inl uR3)), (ug4, .inl (cI, 15, .inl uR4)), (ug5, .inl (cI, 15, .inl uR5)), (ug6, .inl (cI, 15, .inl uR6)), (ug7, .inl (cI, 15, .inl uR7))]) (ws2 := [(u0, .inr (4, [.ref u1, .int uZ])), (u1, .inl (cG, 8, .inr (.inr (.inr (.inr (q_g [ug0, ug1, ug2, ug3, ug4, ug5, ug6, ug7])))))), (ug0, .inl (cI, 15, .inl uR0)), (ug1, .inl (cI, 15, .inl uR1)), (ug2, .inl (cI, 15, .inl (g_X6_copyInto_cel row uR2))), (ug3, .inl (cI, 15, .inl uR3)), (ug4, .inl (cI, 15, .inl uR4)), (ug5, .inl (cI, 15, .inl uR5)), (ug6, .inl (cI, 15, .inl uR6)), (ug7, .inl (cI, 15, .inl uR7)), (s0, .inr (6, [.ref v0, .ref s1])), (s1, .inl (cI, 15, .inl row))]) (va_runV (As := [.ref ug2]) (rest := []) ⟨hx, hb, hml, hown, hts⟩ (c_X6_copyInto l D cI cC cG s0 s1 ug2 v0 row uR2 s.heap.size) (cwV 1 hts gX4_push_X6_copyInto rfl rfl rfl (by decide +kernel) ⟨Nat.le_of_ble_eq_true rfl, Nat.le_of_ble_eq_true rfl⟩) (q_preWV hK hP hD hN [10, 11, 4] (by decide) rfl rfl (ci := 6) (q0 := 10) rfl rfl) rfl rfl hl.1 rfl (lv_room (Nat.le_of_ble_eq_true rfl)) dX4_push_31 ⟨Nat.zero_le _, Nat.zero_le _⟩) hS hA hP hD [10, 11, 4] [0, 1, 2, 3, 5, 6, 7, 8, 9] rfl rfl (by decide) (by decide) [0, 1, 2, 3, 11, 4, 5, 6, 7, 8, 9, 10] (by decide) rfl rfl (fun H locs hP hD hS => ?_)
      refine lv_aload_n hx hb dX4_push_34 rfl (lv_at hl 0 rfl) ?_
      refine lv_dup hx hb dX4_push_35 rfl ?_
      refine va_get (D := D) (ci := 4) (v := .int uZ) (C := RX4) (T := TX4) (N := 2) hx hb hts hinX4 hown hK hP 0 rfl rfl 1 (by decide) hf7 (fun _ h9 => h9) rfl dX4_push_36 ?_
      refine lv_iconst (v := 1) hx hb dX4_push_39 (by decide) ?_
      refine lv_iadd hx hb dX4_push_40 ?_
      refine va_put (D := D) (ci := 4) (v := .int (uZ + 1)) (ty := .int) (C := RX4) (T := TX4) (N := 2) hx hb hts hinX4 tyX4 tyX4_ok nmX4 hown hK hP hD hS 0 rfl rfl 1 (by decide) hf7 (fun _ h9 => h9) rfl (by decide +kernel) rfl rfl (Nat.le_of_ble_eq_true rfl) dX4_push_41 (fun H locs hP hD hS => ?_)
      have hP : va_P D vwCl [(u0, .inr (4, [.ref u1, .int (uZ + 1)])), (u1, .inl (cG, 8, .inr (.inr (.inr (.inr (q_g [ug0, ug1, ug2, ug3, ug4, ug5, ug6, ug7])))))), (ug0, .inl (cI, 15, .inl uR0)), (ug1, .inl (cI, 15, .inl uR1)), (ug2, .inl (cI, 15, .inl (g_X6_copyInto_cel row uR2))), (ug3, .inl (cI, 15, .inl uR3)), (ug4, .inl (cI, 15, .inl uR4)), (ug5, .inl (cI, 15, .inl uR5)), (ug6, .inl (cI, 15, .inl uR6)), (ug7, .inl (cI, 15, .inl uR7)), (s0, .inr (6, [.ref v0, .ref s1])), (s1, .inl (cI, 15, .inl row))] H := hP
      have hD : va_D (va_A (wU8s cI cC cG u0 u1 ug0 ug1 ug2 ug3 ug4 ug5 ug6 ug7 s0 s1 v0 uZ uR0 uR1 uR2 uR3 uR4 uR5 uR6 uR7 row) sz) [(u0, .inr (4, [.ref u1, .int (uZ + 1)])), (u1, .inl (cG, 8, .inr (.inr (.inr (.inr (q_g [ug0, ug1, ug2, ug3, ug4, ug5, ug6, ug7])))))), (ug0, .inl (cI, 15, .inl uR0)), (ug1, .inl (cI, 15, .inl uR1)), (ug2, .inl (cI, 15, .inl (g_X6_copyInto_cel row uR2))), (ug3, .inl (cI, 15, .inl uR3)), (ug4, .inl (cI, 15, .inl uR4)), (ug5, .inl (cI, 15, .inl uR5)), (ug6, .inl (cI, 15, .inl uR6)), (ug7, .inl (cI, 15, .inl uR7)), (s0, .inr (6, [.ref v0, .ref s1])), (s1, .inl (cI, 15, .inl row))] := hD
      refine lv_iconst (v := 1) hx hb dX4_push_44 (by decide) ?_
      have e_33 : (g_X4_push8_uZ uZ) = (uZ + 1) := by simp only [g_X4_push8_uZ, if_neg c_1, if_pos c_11, if_neg c_12, if_neg c_22, if_pos c_32]
      have e_34 : (g_X4_push8_uR0 uZ uR0 row) = uR0 := by simp only [g_X4_push8_uR0, if_neg c_1, if_pos c_11, if_neg c_12, if_neg c_22, if_pos c_32]
      have e_35 : (g_X4_push8_uR1 uZ uR1 row) = uR1 := by simp only [g_X4_push8_uR1, if_neg c_1, if_pos c_11, if_neg c_12, if_neg c_22, if_pos c_32]
      have e_36 : (g_X4_push8_uR2 uZ uR2 row) = (g_X6_copyInto_cel row uR2) := by simp only [g_X4_push8_uR2, if_neg c_1, if_pos c_11, if_neg c_12, if_neg c_22, if_pos c_32]
      have e_37 : (g_X4_push8_uR3 uZ uR3 row) = uR3 := by simp only [g_X4_push8_uR3, if_neg c_1, if_pos c_11, if_neg c_12, if_neg c_22, if_pos c_32]
      have e_38 : (g_X4_push8_uR4 uZ uR4 row) = uR4 := by simp only [g_X4_push8_uR4, if_neg c_1, if_pos c_11, if_neg c_12, if_neg c_22, if_pos c_32]
      have e_39 : (g_X4_push8_uR5 uZ uR5 row) = uR5 := by simp only [g_X4_push8_uR5, if_neg c_1, if_pos c_11, if_neg c_12, if_neg c_22, if_pos c_32]
      have e_40 : (g_X4_push8_uR6 uZ uR6 row) = uR6 := by simp only [g_X4_push8_uR6, if_neg c_1, if_pos c_11, if_neg c_12, if_neg c_22, if_pos c_32]
      have e_41 : (g_X4_push8_uR7 uZ uR7 row) = uR7 := by simp only [g_X4_push8_uR7, if_neg c_1, if_pos c_11, if_neg c_12, if_neg c_22, if_pos c_32]
      exact rw_zret hx hb hr (by rfl) hlocks hP hD hS (by simp only [f_X4_push8, if_neg c_1, if_pos c_11, if_neg c_12, if_neg c_22, if_pos c_32]) (by rw [e_33, e_34, e_35, e_36, e_37, e_38, e_39, e_40, e_41]) dX4_push_45
    by_cases c_42 : uZ = 3
    · refine q_aald hx hb hK hP 1 2 rfl rfl hin30 3 (by rw [c_42]; decide) rfl dX4_push_30 ?_
      refine rw_v (wr := [(u0, .inr (4, [.ref u1, .int uZ])), (u1, .inl (cG, 8, .inr (.inr (.inr (.inr (q_g [ug0, ug1, ug2, ug3, ug4, ug5, ug6, ug7])))))), (ug0, .inl (cI, 15, .inl uR0)), (ug1, .inl (cI, 15, .inl uR1)), (ug2, .inl (cI, 15, .inl uR2)), (ug4, .inl (cI, 15, .inl uR4)), (ug5, .inl (cI, 15, .inl uR5)), (ug6, .inl (cI, 15, .inl uR6)), (ug7, .inl (cI, 15, .inl uR7))]) (ws2 := [(u0, .inr (4, [.ref u1, .int uZ])), (u1, .inl (cG, 8, .inr (.inr (.inr (.inr (q_g [ug0, ug1, ug2, ug3, ug4, ug5, ug6, ug7])))))), (ug0, .inl (cI, 15, .inl uR0)), (ug1, .inl (cI, 15, .inl uR1)), (ug2, .inl (cI, 15, .inl uR2)), (ug3, .inl (cI, 15, .inl (g_X6_copyInto_cel row uR3))), (ug4, .inl (cI, 15, .inl uR4)), (ug5, .inl (cI, 15, .inl uR5)), (ug6, .inl (cI, 15, .inl uR6)), (ug7, .inl (cI, 15, .inl uR7)), (s0, .inr (6, [.ref v0, .ref s1])), (s1, .inl (cI, 15, .inl row))]) (va_runV (As := [.ref ug3]) (rest := []) ⟨hx, hb, hml, hown, hts⟩ (c_X6_copyInto l D cI cC cG s0 s1 ug3 v0 row uR3 s.heap.size) (cwV 1 hts gX4_push_X6_copyInto rfl rfl rfl (by decide +kernel) ⟨Nat.le_of_ble_eq_true rfl, Nat.le_of_ble_eq_true rfl⟩) (q_preWV hK hP hD hN [10, 11, 5] (by decide) rfl rfl (ci := 6) (q0 := 10) rfl rfl) rfl rfl hl.1 rfl (lv_room (Nat.le_of_ble_eq_true rfl)) dX4_push_31 ⟨Nat.zero_le _, Nat.zero_le _⟩) hS hA hP hD [10, 11, 5] [0, 1, 2, 3, 4, 6, 7, 8, 9] rfl rfl (by decide) (by decide) [0, 1, 2, 3, 4, 11, 5, 6, 7, 8, 9, 10] (by decide) rfl rfl (fun H locs hP hD hS => ?_)
      refine lv_aload_n hx hb dX4_push_34 rfl (lv_at hl 0 rfl) ?_
      refine lv_dup hx hb dX4_push_35 rfl ?_
      refine va_get (D := D) (ci := 4) (v := .int uZ) (C := RX4) (T := TX4) (N := 2) hx hb hts hinX4 hown hK hP 0 rfl rfl 1 (by decide) hf7 (fun _ h9 => h9) rfl dX4_push_36 ?_
      refine lv_iconst (v := 1) hx hb dX4_push_39 (by decide) ?_
      refine lv_iadd hx hb dX4_push_40 ?_
      refine va_put (D := D) (ci := 4) (v := .int (uZ + 1)) (ty := .int) (C := RX4) (T := TX4) (N := 2) hx hb hts hinX4 tyX4 tyX4_ok nmX4 hown hK hP hD hS 0 rfl rfl 1 (by decide) hf7 (fun _ h9 => h9) rfl (by decide +kernel) rfl rfl (Nat.le_of_ble_eq_true rfl) dX4_push_41 (fun H locs hP hD hS => ?_)
      have hP : va_P D vwCl [(u0, .inr (4, [.ref u1, .int (uZ + 1)])), (u1, .inl (cG, 8, .inr (.inr (.inr (.inr (q_g [ug0, ug1, ug2, ug3, ug4, ug5, ug6, ug7])))))), (ug0, .inl (cI, 15, .inl uR0)), (ug1, .inl (cI, 15, .inl uR1)), (ug2, .inl (cI, 15, .inl uR2)), (ug3, .inl (cI, 15, .inl (g_X6_copyInto_cel row uR3))), (ug4, .inl (cI, 15, .inl uR4)), (ug5, .inl (cI, 15, .inl uR5)), (ug6, .inl (cI, 15, .inl uR6)), (ug7, .inl (cI, 15, .inl uR7)), (s0, .inr (6, [.ref v0, .ref s1])), (s1, .inl (cI, 15, .inl row))] H := hP
      have hD : va_D (va_A (wU8s cI cC cG u0 u1 ug0 ug1 ug2 ug3 ug4 ug5 ug6 ug7 s0 s1 v0 uZ uR0 uR1 uR2 uR3 uR4 uR5 uR6 uR7 row) sz) [(u0, .inr (4, [.ref u1, .int (uZ + 1)])), (u1, .inl (cG, 8, .inr (.inr (.inr (.inr (q_g [ug0, ug1, ug2, ug3, ug4, ug5, ug6, ug7])))))), (ug0, .inl (cI, 15, .inl uR0)), (ug1, .inl (cI, 15, .inl uR1)), (ug2, .inl (cI, 15, .inl uR2)), (ug3, .inl (cI, 15, .inl (g_X6_copyInto_cel row uR3))), (ug4, .inl (cI, 15, .inl uR4)), (ug5, .inl (cI, 15, .inl uR5)), (ug6, .inl (cI, 15, .inl uR6)), (ug7, .inl (cI, 15, .inl uR7)), (s0, .inr (6, [.ref v0, .ref s1])), (s1, .inl (cI, 15, .inl row))] := hD
      refine lv_iconst (v := 1) hx hb dX4_push_44 (by decide) ?_
      have e_43 : (g_X4_push8_uZ uZ) = (uZ + 1) := by simp only [g_X4_push8_uZ, if_neg c_1, if_pos c_11, if_neg c_12, if_neg c_22, if_neg c_32, if_pos c_42]
      have e_44 : (g_X4_push8_uR0 uZ uR0 row) = uR0 := by simp only [g_X4_push8_uR0, if_neg c_1, if_pos c_11, if_neg c_12, if_neg c_22, if_neg c_32, if_pos c_42]
      have e_45 : (g_X4_push8_uR1 uZ uR1 row) = uR1 := by simp only [g_X4_push8_uR1, if_neg c_1, if_pos c_11, if_neg c_12, if_neg c_22, if_neg c_32, if_pos c_42]
      have e_46 : (g_X4_push8_uR2 uZ uR2 row) = uR2 := by simp only [g_X4_push8_uR2, if_neg c_1, if_pos c_11, if_neg c_12, if_neg c_22, if_neg c_32, if_pos c_42]
      have e_47 : (g_X4_push8_uR3 uZ uR3 row) = (g_X6_copyInto_cel row uR3) := by simp only [g_X4_push8_uR3, if_neg c_1, if_pos c_11, if_neg c_12, if_neg c_22, if_neg c_32, if_pos c_42]
      have e_48 : (g_X4_push8_uR4 uZ uR4 row) = uR4 := by simp only [g_X4_push8_uR4, if_neg c_1, if_pos c_11, if_neg c_12, if_neg c_22, if_neg c_32, if_pos c_42]
      have e_49 : (g_X4_push8_uR5 uZ uR5 row) = uR5 := by simp only [g_X4_push8_uR5, if_neg c_1, if_pos c_11, if_neg c_12, if_neg c_22, if_neg c_32, if_pos c_42]
      have e_50 : (g_X4_push8_uR6 uZ uR6 row) = uR6 := by simp only [g_X4_push8_uR6, if_neg c_1, if_pos c_11, if_neg c_12, if_neg c_22, if_neg c_32, if_pos c_42]
      have e_51 : (g_X4_push8_uR7 uZ uR7 row) = uR7 := by simp only [g_X4_push8_uR7, if_neg c_1, if_pos c_11, if_neg c_12, if_neg c_22, if_neg c_32, if_pos c_42]
      exact rw_zret hx hb hr (by rfl) hlocks hP hD hS (by simp only [f_X4_push8, if_neg c_1, if_pos c_11, if_neg c_12, if_neg c_22, if_neg c_32, if_pos c_42]) (by rw [e_43, e_44, e_45, e_46, e_47, e_48, e_49, e_50, e_51]) dX4_push_45
    by_cases c_52 : uZ = 4
    · refine q_aald hx hb hK hP 1 2 rfl rfl hin30 4 (by rw [c_52]; decide) rfl dX4_push_30 ?_
      refine rw_v (wr := [(u0, .inr (4, [.ref u1, .int uZ])), (u1, .inl (cG, 8, .inr (.inr (.inr (.inr (q_g [ug0, ug1, ug2, ug3, ug4, ug5, ug6, ug7])))))), (ug0, .inl (cI, 15, .inl uR0)), (ug1, .inl (cI, 15, .inl uR1)), (ug2, .inl (cI, 15, .inl uR2)), (ug3, .inl (cI, 15, .inl uR3)), (ug5, .inl (cI, 15, .inl uR5)), (ug6, .inl (cI, 15, .inl uR6)), (ug7, .inl (cI, 15, .inl uR7))]) (ws2 := [(u0, .inr (4, [.ref u1, .int uZ])), (u1, .inl (cG, 8, .inr (.inr (.inr (.inr (q_g [ug0, ug1, ug2, ug3, ug4, ug5, ug6, ug7])))))), (ug0, .inl (cI, 15, .inl uR0)), (ug1, .inl (cI, 15, .inl uR1)), (ug2, .inl (cI, 15, .inl uR2)), (ug3, .inl (cI, 15, .inl uR3)), (ug4, .inl (cI, 15, .inl (g_X6_copyInto_cel row uR4))), (ug5, .inl (cI, 15, .inl uR5)), (ug6, .inl (cI, 15, .inl uR6)), (ug7, .inl (cI, 15, .inl uR7)), (s0, .inr (6, [.ref v0, .ref s1])), (s1, .inl (cI, 15, .inl row))]) (va_runV (As := [.ref ug4]) (rest := []) ⟨hx, hb, hml, hown, hts⟩ (c_X6_copyInto l D cI cC cG s0 s1 ug4 v0 row uR4 s.heap.size) (cwV 1 hts gX4_push_X6_copyInto rfl rfl rfl (by decide +kernel) ⟨Nat.le_of_ble_eq_true rfl, Nat.le_of_ble_eq_true rfl⟩) (q_preWV hK hP hD hN [10, 11, 6] (by decide) rfl rfl (ci := 6) (q0 := 10) rfl rfl) rfl rfl hl.1 rfl (lv_room (Nat.le_of_ble_eq_true rfl)) dX4_push_31 ⟨Nat.zero_le _, Nat.zero_le _⟩) hS hA hP hD [10, 11, 6] [0, 1, 2, 3, 4, 5, 7, 8, 9] rfl rfl (by decide) (by decide) [0, 1, 2, 3, 4, 5, 11, 6, 7, 8, 9, 10] (by decide) rfl rfl (fun H locs hP hD hS => ?_)
      refine lv_aload_n hx hb dX4_push_34 rfl (lv_at hl 0 rfl) ?_
      refine lv_dup hx hb dX4_push_35 rfl ?_
      refine va_get (D := D) (ci := 4) (v := .int uZ) (C := RX4) (T := TX4) (N := 2) hx hb hts hinX4 hown hK hP 0 rfl rfl 1 (by decide) hf7 (fun _ h9 => h9) rfl dX4_push_36 ?_
      refine lv_iconst (v := 1) hx hb dX4_push_39 (by decide) ?_
      refine lv_iadd hx hb dX4_push_40 ?_
      refine va_put (D := D) (ci := 4) (v := .int (uZ + 1)) (ty := .int) (C := RX4) (T := TX4) (N := 2) hx hb hts hinX4 tyX4 tyX4_ok nmX4 hown hK hP hD hS 0 rfl rfl 1 (by decide) hf7 (fun _ h9 => h9) rfl (by decide +kernel) rfl rfl (Nat.le_of_ble_eq_true rfl) dX4_push_41 (fun H locs hP hD hS => ?_)
      have hP : va_P D vwCl [(u0, .inr (4, [.ref u1, .int (uZ + 1)])), (u1, .inl (cG, 8, .inr (.inr (.inr (.inr (q_g [ug0, ug1, ug2, ug3, ug4, ug5, ug6, ug7])))))), (ug0, .inl (cI, 15, .inl uR0)), (ug1, .inl (cI, 15, .inl uR1)), (ug2, .inl (cI, 15, .inl uR2)), (ug3, .inl (cI, 15, .inl uR3)), (ug4, .inl (cI, 15, .inl (g_X6_copyInto_cel row uR4))), (ug5, .inl (cI, 15, .inl uR5)), (ug6, .inl (cI, 15, .inl uR6)), (ug7, .inl (cI, 15, .inl uR7)), (s0, .inr (6, [.ref v0, .ref s1])), (s1, .inl (cI, 15, .inl row))] H := hP
      have hD : va_D (va_A (wU8s cI cC cG u0 u1 ug0 ug1 ug2 ug3 ug4 ug5 ug6 ug7 s0 s1 v0 uZ uR0 uR1 uR2 uR3 uR4 uR5 uR6 uR7 row) sz) [(u0, .inr (4, [.ref u1, .int (uZ + 1)])), (u1, .inl (cG, 8, .inr (.inr (.inr (.inr (q_g [ug0, ug1, ug2, ug3, ug4, ug5, ug6, ug7])))))), (ug0, .inl (cI, 15, .inl uR0)), (ug1, .inl (cI, 15, .inl uR1)), (ug2, .inl (cI, 15, .inl uR2)), (ug3, .inl (cI, 15, .inl uR3)), (ug4, .inl (cI, 15, .inl (g_X6_copyInto_cel row uR4))), (ug5, .inl (cI, 15, .inl uR5)), (ug6, .inl (cI, 15, .inl uR6)), (ug7, .inl (cI, 15, .inl uR7)), (s0, .inr (6, [.ref v0, .ref s1])), (s1, .inl (cI, 15, .inl row))] := hD
      refine lv_iconst (v := 1) hx hb dX4_push_44 (by decide) ?_
      have e_53 : (g_X4_push8_uZ uZ) = (uZ + 1) := by simp only [g_X4_push8_uZ, if_neg c_1, if_pos c_11, if_neg c_12, if_neg c_22, if_neg c_32, if_neg c_42, if_pos c_52]
      have e_54 : (g_X4_push8_uR0 uZ uR0 row) = uR0 := by simp only [g_X4_push8_uR0, if_neg c_1, if_pos c_11, if_neg c_12, if_neg c_22, if_neg c_32, if_neg c_42, if_pos c_52]
      have e_55 : (g_X4_push8_uR1 uZ uR1 row) = uR1 := by simp only [g_X4_push8_uR1, if_neg c_1, if_pos c_11, if_neg c_12, if_neg c_22, if_neg c_32, if_neg c_42, if_pos c_52]
      have e_56 : (g_X4_push8_uR2 uZ uR2 row) = uR2 := by simp only [g_X4_push8_uR2, if_neg c_1, if_pos c_11, if_neg c_12, if_neg c_22, if_neg c_32, if_neg c_42, if_pos c_52]
      have e_57 : (g_X4_push8_uR3 uZ uR3 row) = uR3 := by simp only [g_X4_push8_uR3, if_neg c_1, if_pos c_11, if_neg c_12, if_neg c_22, if_neg c_32, if_neg c_42, if_pos c_52]
      have e_58 : (g_X4_push8_uR4 uZ uR4 row) = (g_X6_copyInto_cel row uR4) := by simp only [g_X4_push8_uR4, if_neg c_1, if_pos c_11, if_neg c_12, if_neg c_22, if_neg c_32, if_neg c_42, if_pos c_52]
      have e_59 : (g_X4_push8_uR5 uZ uR5 row) = uR5 := by simp only [g_X4_push8_uR5, if_neg c_1, if_pos c_11, if_neg c_12, if_neg c_22, if_neg c_32, if_neg c_42, if_pos c_52]
      have e_60 : (g_X4_push8_uR6 uZ uR6 row) = uR6 := by simp only [g_X4_push8_uR6, if_neg c_1, if_pos c_11, if_neg c_12, if_neg c_22, if_neg c_32, if_neg c_42, if_pos c_52]
      have e_61 : (g_X4_push8_uR7 uZ uR7 row) = uR7 := by simp only [g_X4_push8_uR7, if_neg c_1, if_pos c_11, if_neg c_12, if_neg c_22, if_neg c_32, if_neg c_42, if_pos c_52]
      exact rw_zret hx hb hr (by rfl) hlocks hP hD hS (by simp only [f_X4_push8, if_neg c_1, if_pos c_11, if_neg c_12, if_neg c_22, if_neg c_32, if_neg c_42, if_pos c_52]) (by rw [e_53, e_54, e_55, e_56, e_57, e_58, e_59, e_60, e_61]) dX4_push_45
    by_cases c_62 : uZ = 5
    · refine q_aald hx hb hK hP 1 2 rfl rfl hin30 5 (by rw [c_62]; decide) rfl dX4_push_30 ?_
      refine rw_v (wr := [(u0, .inr (4, [.ref u1, .int uZ])), (u1, .inl (cG, 8, .inr (.inr (.inr (.inr (q_g [ug0, ug1, ug2, ug3, ug4, ug5, ug6, ug7])))))), (ug0, .inl (cI, 15, .inl uR0)), (ug1, .inl (cI, 15, .inl uR1)), (ug2, .inl (cI, 15, .inl uR2)), (ug3, .inl (cI, 15, .inl uR3)), (ug4, .inl (cI, 15, .inl uR4)), (ug6, .inl (cI, 15, .inl uR6)), (ug7, .inl (cI, 15, .inl uR7))]) (ws2 := [(u0, .inr (4, [.ref u1, .int uZ])), (u1, .inl (cG, 8, .inr (.inr (.inr (.inr (q_g [ug0, ug1, ug2, ug3, ug4, ug5, ug6, ug7])))))), (ug0, .inl (cI, 15, .inl uR0)), (ug1, .inl (cI, 15, .inl uR1)), (ug2, .inl (cI, 15, .inl uR2)), (ug3, .inl (cI, 15, .inl uR3)), (ug4, .inl (cI, 15, .inl uR4)), (ug5, .inl (cI, 15, .inl (g_X6_copyInto_cel row uR5))), (ug6, .inl (cI, 15, .inl uR6)), (ug7, .inl (cI, 15, .inl uR7)), (s0, .inr (6, [.ref v0, .ref s1])), (s1, .inl (cI, 15, .inl row))]) (va_runV (As := [.ref ug5]) (rest := []) ⟨hx, hb, hml, hown, hts⟩ (c_X6_copyInto l D cI cC cG s0 s1 ug5 v0 row uR5 s.heap.size) (cwV 1 hts gX4_push_X6_copyInto rfl rfl rfl (by decide +kernel) ⟨Nat.le_of_ble_eq_true rfl, Nat.le_of_ble_eq_true rfl⟩) (q_preWV hK hP hD hN [10, 11, 7] (by decide) rfl rfl (ci := 6) (q0 := 10) rfl rfl) rfl rfl hl.1 rfl (lv_room (Nat.le_of_ble_eq_true rfl)) dX4_push_31 ⟨Nat.zero_le _, Nat.zero_le _⟩) hS hA hP hD [10, 11, 7] [0, 1, 2, 3, 4, 5, 6, 8, 9] rfl rfl (by decide) (by decide) [0, 1, 2, 3, 4, 5, 6, 11, 7, 8, 9, 10] (by decide) rfl rfl (fun H locs hP hD hS => ?_)
      refine lv_aload_n hx hb dX4_push_34 rfl (lv_at hl 0 rfl) ?_
      refine lv_dup hx hb dX4_push_35 rfl ?_
      refine va_get (D := D) (ci := 4) (v := .int uZ) (C := RX4) (T := TX4) (N := 2) hx hb hts hinX4 hown hK hP 0 rfl rfl 1 (by decide) hf7 (fun _ h9 => h9) rfl dX4_push_36 ?_
      refine lv_iconst (v := 1) hx hb dX4_push_39 (by decide) ?_
      refine lv_iadd hx hb dX4_push_40 ?_
      refine va_put (D := D) (ci := 4) (v := .int (uZ + 1)) (ty := .int) (C := RX4) (T := TX4) (N := 2) hx hb hts hinX4 tyX4 tyX4_ok nmX4 hown hK hP hD hS 0 rfl rfl 1 (by decide) hf7 (fun _ h9 => h9) rfl (by decide +kernel) rfl rfl (Nat.le_of_ble_eq_true rfl) dX4_push_41 (fun H locs hP hD hS => ?_)
      have hP : va_P D vwCl [(u0, .inr (4, [.ref u1, .int (uZ + 1)])), (u1, .inl (cG, 8, .inr (.inr (.inr (.inr (q_g [ug0, ug1, ug2, ug3, ug4, ug5, ug6, ug7])))))), (ug0, .inl (cI, 15, .inl uR0)), (ug1, .inl (cI, 15, .inl uR1)), (ug2, .inl (cI, 15, .inl uR2)), (ug3, .inl (cI, 15, .inl uR3)), (ug4, .inl (cI, 15, .inl uR4)), (ug5, .inl (cI, 15, .inl (g_X6_copyInto_cel row uR5))), (ug6, .inl (cI, 15, .inl uR6)), (ug7, .inl (cI, 15, .inl uR7)), (s0, .inr (6, [.ref v0, .ref s1])), (s1, .inl (cI, 15, .inl row))] H := hP
      have hD : va_D (va_A (wU8s cI cC cG u0 u1 ug0 ug1 ug2 ug3 ug4 ug5 ug6 ug7 s0 s1 v0 uZ uR0 uR1 uR2 uR3 uR4 uR5 uR6 uR7 row) sz) [(u0, .inr (4, [.ref u1, .int (uZ + 1)])), (u1, .inl (cG, 8, .inr (.inr (.inr (.inr (q_g [ug0, ug1, ug2, ug3, ug4, ug5, ug6, ug7])))))), (ug0, .inl (cI, 15, .inl uR0)), (ug1, .inl (cI, 15, .inl uR1)), (ug2, .inl (cI, 15, .inl uR2)), (ug3, .inl (cI, 15, .inl uR3)), (ug4, .inl (cI, 15, .inl uR4)), (ug5, .inl (cI, 15, .inl (g_X6_copyInto_cel row uR5))), (ug6, .inl (cI, 15, .inl uR6)), (ug7, .inl (cI, 15, .inl uR7)), (s0, .inr (6, [.ref v0, .ref s1])), (s1, .inl (cI, 15, .inl row))] := hD
      refine lv_iconst (v := 1) hx hb dX4_push_44 (by decide) ?_
      have e_63 : (g_X4_push8_uZ uZ) = (uZ + 1) := by simp only [g_X4_push8_uZ, if_neg c_1, if_pos c_11, if_neg c_12, if_neg c_22, if_neg c_32, if_neg c_42, if_neg c_52, if_pos c_62]
      have e_64 : (g_X4_push8_uR0 uZ uR0 row) = uR0 := by simp only [g_X4_push8_uR0, if_neg c_1, if_pos c_11, if_neg c_12, if_neg c_22, if_neg c_32, if_neg c_42, if_neg c_52, if_pos c_62]
      have e_65 : (g_X4_push8_uR1 uZ uR1 row) = uR1 := by simp only [g_X4_push8_uR1, if_neg c_1, if_pos c_11, if_neg c_12, if_neg c_22, if_neg c_32, if_neg c_42, if_neg c_52, if_pos c_62]
      have e_66 : (g_X4_push8_uR2 uZ uR2 row) = uR2 := by simp only [g_X4_push8_uR2, if_neg c_1, if_pos c_11, if_neg c_12, if_neg c_22, if_neg c_32, if_neg c_42, if_neg c_52, if_pos c_62]
      have e_67 : (g_X4_push8_uR3 uZ uR3 row) = uR3 := by simp only [g_X4_push8_uR3, if_neg c_1, if_pos c_11, if_neg c_12, if_neg c_22, if_neg c_32, if_neg c_42, if_neg c_52, if_pos c_62]
      have e_68 : (g_X4_push8_uR4 uZ uR4 row) = uR4 := by simp only [g_X4_push8_uR4, if_neg c_1, if_pos c_11, if_neg c_12, if_neg c_22, if_neg c_32, if_neg c_42, if_neg c_52, if_pos c_62]
      have e_69 : (g_X4_push8_uR5 uZ uR5 row) = (g_X6_copyInto_cel row uR5) := by simp only [g_X4_push8_uR5, if_neg c_1, if_pos c_11, if_neg c_12, if_neg c_22, if_neg c_32, if_neg c_42, if_neg c_52, if_pos c_62]
      have e_70 : (g_X4_push8_uR6 uZ uR6 row) = uR6 := by simp only [g_X4_push8_uR6, if_neg c_1, if_pos c_11, if_neg c_12, if_neg c_22, if_neg c_32, if_neg c_42, if_neg c_52, if_pos c_62]
      have e_71 : (g_X4_push8_uR7 uZ uR7 row) = uR7 := by simp only [g_X4_push8_uR7, if_neg c_1, if_pos c_11, if_neg c_12, if_neg c_22, if_neg c_32, if_neg c_42, if_neg c_52, if_pos c_62]
      exact rw_zret hx hb hr (by rfl) hlocks hP hD hS (by simp only [f_X4_push8, if_neg c_1, if_pos c_11, if_neg c_12, if_neg c_22, if_neg c_32, if_neg c_42, if_neg c_52, if_pos c_62]) (by rw [e_63, e_64, e_65, e_66, e_67, e_68, e_69, e_70, e_71]) dX4_push_45
    by_cases c_72 : uZ = 6
    · refine q_aald hx hb hK hP 1 2 rfl rfl hin30 6 (by rw [c_72]; decide) rfl dX4_push_30 ?_
      refine rw_v (wr := [(u0, .inr (4, [.ref u1, .int uZ])), (u1, .inl (cG, 8, .inr (.inr (.inr (.inr (q_g [ug0, ug1, ug2, ug3, ug4, ug5, ug6, ug7])))))), (ug0, .inl (cI, 15, .inl uR0)), (ug1, .inl (cI, 15, .inl uR1)), (ug2, .inl (cI, 15, .inl uR2)), (ug3, .inl (cI, 15, .inl uR3)), (ug4, .inl (cI, 15, .inl uR4)), (ug5, .inl (cI, 15, .inl uR5)), (ug7, .inl (cI, 15, .inl uR7))]) (ws2 := [(u0, .inr (4, [.ref u1, .int uZ])), (u1, .inl (cG, 8, .inr (.inr (.inr (.inr (q_g [ug0, ug1, ug2, ug3, ug4, ug5, ug6, ug7])))))), (ug0, .inl (cI, 15, .inl uR0)), (ug1, .inl (cI, 15, .inl uR1)), (ug2, .inl (cI, 15, .inl uR2)), (ug3, .inl (cI, 15, .inl uR3)), (ug4, .inl (cI, 15, .inl uR4)), (ug5, .inl (cI, 15, .inl uR5)), (ug6, .inl (cI, 15, .inl (g_X6_copyInto_cel row uR6))), (ug7, .inl (cI, 15, .inl uR7)), (s0, .inr (6, [.ref v0, .ref s1])), (s1, .inl (cI, 15, .inl row))]) (va_runV (As := [.ref ug6]) (rest := []) ⟨hx, hb, hml, hown, hts⟩ (c_X6_copyInto l D cI cC cG s0 s1 ug6 v0 row uR6 s.heap.size) (cwV 1 hts gX4_push_X6_copyInto rfl rfl rfl (by decide +kernel) ⟨Nat.le_of_ble_eq_true rfl, Nat.le_of_ble_eq_true rfl⟩) (q_preWV hK hP hD hN [10, 11, 8] (by decide) rfl rfl (ci := 6) (q0 := 10) rfl rfl) rfl rfl hl.1 rfl (lv_room (Nat.le_of_ble_eq_true rfl)) dX4_push_31 ⟨Nat.zero_le _, Nat.zero_le _⟩) hS hA hP hD [10, 11, 8] [0, 1, 2, 3, 4, 5, 6, 7, 9] rfl rfl (by decide) (by decide) [0, 1, 2, 3, 4, 5, 6, 7, 11, 8, 9, 10] (by decide) rfl rfl (fun H locs hP hD hS => ?_)
      refine lv_aload_n hx hb dX4_push_34 rfl (lv_at hl 0 rfl) ?_
      refine lv_dup hx hb dX4_push_35 rfl ?_
      refine va_get (D := D) (ci := 4) (v := .int uZ) (C := RX4) (T := TX4) (N := 2) hx hb hts hinX4 hown hK hP 0 rfl rfl 1 (by decide) hf7 (fun _ h9 => h9) rfl dX4_push_36 ?_
      refine lv_iconst (v := 1) hx hb dX4_push_39 (by decide) ?_
      refine lv_iadd hx hb dX4_push_40 ?_
      refine va_put (D := D) (ci := 4) (v := .int (uZ + 1)) (ty := .int) (C := RX4) (T := TX4) (N := 2) hx hb hts hinX4 tyX4 tyX4_ok nmX4 hown hK hP hD hS 0 rfl rfl 1 (by decide) hf7 (fun _ h9 => h9) rfl (by decide +kernel) rfl rfl (Nat.le_of_ble_eq_true rfl) dX4_push_41 (fun H locs hP hD hS => ?_)
      have hP : va_P D vwCl [(u0, .inr (4, [.ref u1, .int (uZ + 1)])), (u1, .inl (cG, 8, .inr (.inr (.inr (.inr (q_g [ug0, ug1, ug2, ug3, ug4, ug5, ug6, ug7])))))), (ug0, .inl (cI, 15, .inl uR0)), (ug1, .inl (cI, 15, .inl uR1)), (ug2, .inl (cI, 15, .inl uR2)), (ug3, .inl (cI, 15, .inl uR3)), (ug4, .inl (cI, 15, .inl uR4)), (ug5, .inl (cI, 15, .inl uR5)), (ug6, .inl (cI, 15, .inl (g_X6_copyInto_cel row uR6))), (ug7, .inl (cI, 15, .inl uR7)), (s0, .inr (6, [.ref v0, .ref s1])), (s1, .inl (cI, 15, .inl row))] H := hP
      have hD : va_D (va_A (wU8s cI cC cG u0 u1 ug0 ug1 ug2 ug3 ug4 ug5 ug6 ug7 s0 s1 v0 uZ uR0 uR1 uR2 uR3 uR4 uR5 uR6 uR7 row) sz) [(u0, .inr (4, [.ref u1, .int (uZ + 1)])), (u1, .inl (cG, 8, .inr (.inr (.inr (.inr (q_g [ug0, ug1, ug2, ug3, ug4, ug5, ug6, ug7])))))), (ug0, .inl (cI, 15, .inl uR0)), (ug1, .inl (cI, 15, .inl uR1)), (ug2, .inl (cI, 15, .inl uR2)), (ug3, .inl (cI, 15, .inl uR3)), (ug4, .inl (cI, 15, .inl uR4)), (ug5, .inl (cI, 15, .inl uR5)), (ug6, .inl (cI, 15, .inl (g_X6_copyInto_cel row uR6))), (ug7, .inl (cI, 15, .inl uR7)), (s0, .inr (6, [.ref v0, .ref s1])), (s1, .inl (cI, 15, .inl row))] := hD
      refine lv_iconst (v := 1) hx hb dX4_push_44 (by decide) ?_
      have e_73 : (g_X4_push8_uZ uZ) = (uZ + 1) := by simp only [g_X4_push8_uZ, if_neg c_1, if_pos c_11, if_neg c_12, if_neg c_22, if_neg c_32, if_neg c_42, if_neg c_52, if_neg c_62, if_pos c_72]
      have e_74 : (g_X4_push8_uR0 uZ uR0 row) = uR0 := by simp only [g_X4_push8_uR0, if_neg c_1, if_pos c_11, if_neg c_12, if_neg c_22, if_neg c_32, if_neg c_42, if_neg c_52, if_neg c_62, if_pos c_72]
      have e_75 : (g_X4_push8_uR1 uZ uR1 row) = uR1 := by simp only [g_X4_push8_uR1, if_neg c_1, if_pos c_11, if_neg c_12, if_neg c_22, if_neg c_32, if_neg c_42, if_neg c_52, if_neg c_62, if_pos c_72]
      have e_76 : (g_X4_push8_uR2 uZ uR2 row) = uR2 := by simp only [g_X4_push8_uR2, if_neg c_1, if_pos c_11, if_neg c_12, if_neg c_22, if_neg c_32, if_neg c_42, if_neg c_52, if_neg c_62, if_pos c_72]
      have e_77 : (g_X4_push8_uR3 uZ uR3 row) = uR3 := by simp only [g_X4_push8_uR3, if_neg c_1, if_pos c_11, if_neg c_12, if_neg c_22, if_neg c_32, if_neg c_42, if_neg c_52, if_neg c_62, if_pos c_72]
      have e_78 : (g_X4_push8_uR4 uZ uR4 row) = uR4 := by simp only [g_X4_push8_uR4, if_neg c_1, if_pos c_11, if_neg c_12, if_neg c_22, if_neg c_32, if_neg c_42, if_neg c_52, if_neg c_62, if_pos c_72]
      have e_79 : (g_X4_push8_uR5 uZ uR5 row) = uR5 := by simp only [g_X4_push8_uR5, if_neg c_1, if_pos c_11, if_neg c_12, if_neg c_22, if_neg c_32, if_neg c_42, if_neg c_52, if_neg c_62, if_pos c_72]
      have e_80 : (g_X4_push8_uR6 uZ uR6 row) = (g_X6_copyInto_cel row uR6) := by simp only [g_X4_push8_uR6, if_neg c_1, if_pos c_11, if_neg c_12, if_neg c_22, if_neg c_32, if_neg c_42, if_neg c_52, if_neg c_62, if_pos c_72]
      have e_81 : (g_X4_push8_uR7 uZ uR7 row) = uR7 := by simp only [g_X4_push8_uR7, if_neg c_1, if_pos c_11, if_neg c_12, if_neg c_22, if_neg c_32, if_neg c_42, if_neg c_52, if_neg c_62, if_pos c_72]
      exact rw_zret hx hb hr (by rfl) hlocks hP hD hS (by simp only [f_X4_push8, if_neg c_1, if_pos c_11, if_neg c_12, if_neg c_22, if_neg c_32, if_neg c_42, if_neg c_52, if_neg c_62, if_pos c_72]) (by rw [e_73, e_74, e_75, e_76, e_77, e_78, e_79, e_80, e_81]) dX4_push_45
    have c_82 : uZ = 7 := last8 hin30 c_12 c_22 c_32 c_42 c_52 c_62 c_72
    refine q_aald hx hb hK hP 1 2 rfl rfl hin30 7 (by rw [c_82]; decide) rfl dX4_push_30 ?_
    refine rw_v (wr := [(u0, .inr (4, [.ref u1, .int uZ])), (u1, .inl (cG, 8, .inr (.inr (.inr (.inr (q_g [ug0, ug1, ug2, ug3, ug4, ug5, ug6, ug7])))))), (ug0, .inl (cI, 15, .inl uR0)), (ug1, .inl (cI, 15, .inl uR1)), (ug2, .inl (cI, 15, .inl uR2)), (ug3, .inl (cI, 15, .inl uR3)), (ug4, .inl (cI, 15, .inl uR4)), (ug5, .inl (cI, 15, .inl uR5)), (ug6, .inl (cI, 15, .inl uR6))]) (ws2 := [(u0, .inr (4, [.ref u1, .int uZ])), (u1, .inl (cG, 8, .inr (.inr (.inr (.inr (q_g [ug0, ug1, ug2, ug3, ug4, ug5, ug6, ug7])))))), (ug0, .inl (cI, 15, .inl uR0)), (ug1, .inl (cI, 15, .inl uR1)), (ug2, .inl (cI, 15, .inl uR2)), (ug3, .inl (cI, 15, .inl uR3)), (ug4, .inl (cI, 15, .inl uR4)), (ug5, .inl (cI, 15, .inl uR5)), (ug6, .inl (cI, 15, .inl uR6)), (ug7, .inl (cI, 15, .inl (g_X6_copyInto_cel row uR7))), (s0, .inr (6, [.ref v0, .ref s1])), (s1, .inl (cI, 15, .inl row))]) (va_runV (As := [.ref ug7]) (rest := []) ⟨hx, hb, hml, hown, hts⟩ (c_X6_copyInto l D cI cC cG s0 s1 ug7 v0 row uR7 s.heap.size) (cwV 1 hts gX4_push_X6_copyInto rfl rfl rfl (by decide +kernel) ⟨Nat.le_of_ble_eq_true rfl, Nat.le_of_ble_eq_true rfl⟩) (q_preWV hK hP hD hN [10, 11, 9] (by decide) rfl rfl (ci := 6) (q0 := 10) rfl rfl) rfl rfl hl.1 rfl (lv_room (Nat.le_of_ble_eq_true rfl)) dX4_push_31 ⟨Nat.zero_le _, Nat.zero_le _⟩) hS hA hP hD [10, 11, 9] [0, 1, 2, 3, 4, 5, 6, 7, 8] rfl rfl (by decide) (by decide) [0, 1, 2, 3, 4, 5, 6, 7, 8, 11, 9, 10] (by decide) rfl rfl (fun H locs hP hD hS => ?_)
    refine lv_aload_n hx hb dX4_push_34 rfl (lv_at hl 0 rfl) ?_
    refine lv_dup hx hb dX4_push_35 rfl ?_
    refine va_get (D := D) (ci := 4) (v := .int uZ) (C := RX4) (T := TX4) (N := 2) hx hb hts hinX4 hown hK hP 0 rfl rfl 1 (by decide) hf7 (fun _ h9 => h9) rfl dX4_push_36 ?_
    refine lv_iconst (v := 1) hx hb dX4_push_39 (by decide) ?_
    refine lv_iadd hx hb dX4_push_40 ?_
    refine va_put (D := D) (ci := 4) (v := .int (uZ + 1)) (ty := .int) (C := RX4) (T := TX4) (N := 2) hx hb hts hinX4 tyX4 tyX4_ok nmX4 hown hK hP hD hS 0 rfl rfl 1 (by decide) hf7 (fun _ h9 => h9) rfl (by decide +kernel) rfl rfl (Nat.le_of_ble_eq_true rfl) dX4_push_41 (fun H locs hP hD hS => ?_)
    have hP : va_P D vwCl [(u0, .inr (4, [.ref u1, .int (uZ + 1)])), (u1, .inl (cG, 8, .inr (.inr (.inr (.inr (q_g [ug0, ug1, ug2, ug3, ug4, ug5, ug6, ug7])))))), (ug0, .inl (cI, 15, .inl uR0)), (ug1, .inl (cI, 15, .inl uR1)), (ug2, .inl (cI, 15, .inl uR2)), (ug3, .inl (cI, 15, .inl uR3)), (ug4, .inl (cI, 15, .inl uR4)), (ug5, .inl (cI, 15, .inl uR5)), (ug6, .inl (cI, 15, .inl uR6)), (ug7, .inl (cI, 15, .inl (g_X6_copyInto_cel row uR7))), (s0, .inr (6, [.ref v0, .ref s1])), (s1, .inl (cI, 15, .inl row))] H := hP
    have hD : va_D (va_A (wU8s cI cC cG u0 u1 ug0 ug1 ug2 ug3 ug4 ug5 ug6 ug7 s0 s1 v0 uZ uR0 uR1 uR2 uR3 uR4 uR5 uR6 uR7 row) sz) [(u0, .inr (4, [.ref u1, .int (uZ + 1)])), (u1, .inl (cG, 8, .inr (.inr (.inr (.inr (q_g [ug0, ug1, ug2, ug3, ug4, ug5, ug6, ug7])))))), (ug0, .inl (cI, 15, .inl uR0)), (ug1, .inl (cI, 15, .inl uR1)), (ug2, .inl (cI, 15, .inl uR2)), (ug3, .inl (cI, 15, .inl uR3)), (ug4, .inl (cI, 15, .inl uR4)), (ug5, .inl (cI, 15, .inl uR5)), (ug6, .inl (cI, 15, .inl uR6)), (ug7, .inl (cI, 15, .inl (g_X6_copyInto_cel row uR7))), (s0, .inr (6, [.ref v0, .ref s1])), (s1, .inl (cI, 15, .inl row))] := hD
    refine lv_iconst (v := 1) hx hb dX4_push_44 (by decide) ?_
    have e_83 : (g_X4_push8_uZ uZ) = (uZ + 1) := by simp only [g_X4_push8_uZ, if_neg c_1, if_pos c_11, if_neg c_12, if_neg c_22, if_neg c_32, if_neg c_42, if_neg c_52, if_neg c_62, if_neg c_72]
    have e_84 : (g_X4_push8_uR0 uZ uR0 row) = uR0 := by simp only [g_X4_push8_uR0, if_neg c_1, if_pos c_11, if_neg c_12, if_neg c_22, if_neg c_32, if_neg c_42, if_neg c_52, if_neg c_62, if_neg c_72]
    have e_85 : (g_X4_push8_uR1 uZ uR1 row) = uR1 := by simp only [g_X4_push8_uR1, if_neg c_1, if_pos c_11, if_neg c_12, if_neg c_22, if_neg c_32, if_neg c_42, if_neg c_52, if_neg c_62, if_neg c_72]
    have e_86 : (g_X4_push8_uR2 uZ uR2 row) = uR2 := by simp only [g_X4_push8_uR2, if_neg c_1, if_pos c_11, if_neg c_12, if_neg c_22, if_neg c_32, if_neg c_42, if_neg c_52, if_neg c_62, if_neg c_72]
    have e_87 : (g_X4_push8_uR3 uZ uR3 row) = uR3 := by simp only [g_X4_push8_uR3, if_neg c_1, if_pos c_11, if_neg c_12, if_neg c_22, if_neg c_32, if_neg c_42, if_neg c_52, if_neg c_62, if_neg c_72]
    have e_88 : (g_X4_push8_uR4 uZ uR4 row) = uR4 := by simp only [g_X4_push8_uR4, if_neg c_1, if_pos c_11, if_neg c_12, if_neg c_22, if_neg c_32, if_neg c_42, if_neg c_52, if_neg c_62, if_neg c_72]
    have e_89 : (g_X4_push8_uR5 uZ uR5 row) = uR5 := by simp only [g_X4_push8_uR5, if_neg c_1, if_pos c_11, if_neg c_12, if_neg c_22, if_neg c_32, if_neg c_42, if_neg c_52, if_neg c_62, if_neg c_72]
    have e_90 : (g_X4_push8_uR6 uZ uR6 row) = uR6 := by simp only [g_X4_push8_uR6, if_neg c_1, if_pos c_11, if_neg c_12, if_neg c_22, if_neg c_32, if_neg c_42, if_neg c_52, if_neg c_62, if_neg c_72]
    have e_91 : (g_X4_push8_uR7 uZ uR7 row) = (g_X6_copyInto_cel row uR7) := by simp only [g_X4_push8_uR7, if_neg c_1, if_pos c_11, if_neg c_12, if_neg c_22, if_neg c_32, if_neg c_42, if_neg c_52, if_neg c_62, if_neg c_72]
    exact rw_zret hx hb hr (by rfl) hlocks hP hD hS (by simp only [f_X4_push8, if_neg c_1, if_pos c_11, if_neg c_12, if_neg c_22, if_neg c_32, if_neg c_42, if_neg c_52, if_neg c_62, if_neg c_72]) (by rw [e_83, e_84, e_85, e_86, e_87, e_88, e_89, e_90, e_91]) dX4_push_45
  refine lv_iconst (v := 0) hx hb dX4_push_19 (by decide) ?_
  have e_92 : (g_X4_push8_uZ uZ) = uZ := by simp only [g_X4_push8_uZ, if_neg c_1, if_neg c_11]
  have e_93 : (g_X4_push8_uR0 uZ uR0 row) = uR0 := by simp only [g_X4_push8_uR0, if_neg c_1, if_neg c_11]
  have e_94 : (g_X4_push8_uR1 uZ uR1 row) = uR1 := by simp only [g_X4_push8_uR1, if_neg c_1, if_neg c_11]
  have e_95 : (g_X4_push8_uR2 uZ uR2 row) = uR2 := by simp only [g_X4_push8_uR2, if_neg c_1, if_neg c_11]
  have e_96 : (g_X4_push8_uR3 uZ uR3 row) = uR3 := by simp only [g_X4_push8_uR3, if_neg c_1, if_neg c_11]
  have e_97 : (g_X4_push8_uR4 uZ uR4 row) = uR4 := by simp only [g_X4_push8_uR4, if_neg c_1, if_neg c_11]
  have e_98 : (g_X4_push8_uR5 uZ uR5 row) = uR5 := by simp only [g_X4_push8_uR5, if_neg c_1, if_neg c_11]
  have e_99 : (g_X4_push8_uR6 uZ uR6 row) = uR6 := by simp only [g_X4_push8_uR6, if_neg c_1, if_neg c_11]
  have e_100 : (g_X4_push8_uR7 uZ uR7 row) = uR7 := by simp only [g_X4_push8_uR7, if_neg c_1, if_neg c_11]
  exact rw_zret hx hb hr (by rfl) hlocks hP hD hS (by simp only [f_X4_push8, if_neg c_1, if_neg c_11]) (by rw [e_92, e_93, e_94, e_95, e_96, e_97, e_98, e_99, e_100]) dX4_push_20
def f_X4_pop8 (uZ : Int32) : Int32 := (if uZ ≤ 0 then 0 else (if uZ ≤ 8 then 1 else 0))
def g_X4_pop8_uZ (uZ : Int32) : Int32 := (if uZ ≤ 0 then uZ else (if uZ ≤ 8 then (uZ - 1) else uZ))
def g_X4_pop8_row (uZ : Int32) (uR0 : Nat → Int32) (uR1 : Nat → Int32) (uR2 : Nat → Int32) (uR3 : Nat → Int32) (uR4 : Nat → Int32) (uR5 : Nat → Int32) (uR6 : Nat → Int32) (uR7 : Nat → Int32) (row : Nat → Int32) : Nat → Int32 := (if uZ ≤ 0 then row else (if uZ ≤ 8 then (if (uZ - 1) = 0 then (g_X6_copyFrom_row row uR0) else (if (uZ - 1) = 1 then (g_X6_copyFrom_row row uR1) else (if (uZ - 1) = 2 then (g_X6_copyFrom_row row uR2) else (if (uZ - 1) = 3 then (g_X6_copyFrom_row row uR3) else (if (uZ - 1) = 4 then (g_X6_copyFrom_row row uR4) else (if (uZ - 1) = 5 then (g_X6_copyFrom_row row uR5) else (if (uZ - 1) = 6 then (g_X6_copyFrom_row row uR6) else (g_X6_copyFrom_row row uR7)))))))) else row))
abbrev rm_X4_pop8 : Room := { frames := 1, cells := 0, slots := 0, locals := 22 }
set_option maxRecDepth 100000 in
set_option maxHeartbeats 4000000 in
theorem c_X4_pop8 (l : Launch) (D : va_G) (cI cC cG : ClassId) (u0 : Nat) (u1 : Nat) (ug0 : Nat) (ug1 : Nat) (ug2 : Nat) (ug3 : Nat) (ug4 : Nat) (ug5 : Nat) (ug6 : Nat) (ug7 : Nat) (s0 : Nat) (s1 : Nat) (v0 : Nat) (uZ : Int32) (uR0 : Nat → Int32) (uR1 : Nat → Int32) (uR2 : Nat → Int32) (uR3 : Nat → Int32) (uR4 : Nat → Int32) (uR5 : Nat → Int32) (uR6 : Nat → Int32) (uR7 : Nat → Int32) (row : Nat → Int32) (sz : Nat) : RwI l yX4_pop wsX4_pop rm_X4_pop8 D (q_t cI cC cG) (wU8s cI cC cG u0 u1 ug0 ug1 ug2 ug3 ug4 ug5 ug6 ug7 s0 s1 v0 uZ uR0 uR1 uR2 uR3 uR4 uR5 uR6 uR7 row) (wU8s cI cC cG u0 u1 ug0 ug1 ug2 ug3 ug4 ug5 ug6 ug7 s0 s1 v0 (g_X4_pop8_uZ uZ) uR0 uR1 uR2 uR3 uR4 uR5 uR6 uR7 (g_X4_pop8_row uZ uR0 uR1 uR2 uR3 uR4 uR5 uR6 uR7 row)) sz [.ref u0, .ref s0] (f_X4_pop8 uZ) := by
  refine rw_enter (cc := cX4_pop) (maxL := 2) (ret := (some .boolean)) (by decide) rfl (Nat.le_of_ble_eq_true rfl) ?_
  intro p e s m below meth c ls B hP hK hD hS hA hl
  obtain ⟨hx, hb, hr, hlocks, hml, hown, hts, hN⟩ := B
  have hown : s.vm.findClass RX4 = some m.cls := hown
  have hl : lv_has ls 2 [(0, .ref u0), (1, .ref s0)] := hl
  have hf7 := hts (.fieldLink RX4 7 "OlderByABlush$Shelf" "height" "I") (by decide +kernel)
  have hinX4 : ∀ w ∈ u_ws RX4 TX4 2, w ∈ wsX4_pop := by decide +kernel
  have hf17 := hts (.fieldLink RX4 17 "OlderByABlush$Shelf" "rows" "[[I") (by decide +kernel)
  refine lv_aload_n hx hb dX4_pop_0 rfl (lv_at hl 0 rfl) ?_
  refine va_get (D := D) (ci := 4) (v := .int uZ) (C := RX4) (T := TX4) (N := 2) hx hb hts hinX4 hown hK hP 0 rfl rfl 1 (by decide) hf7 (fun _ h9 => h9) rfl dX4_pop_1 ?_
  refine lv_if_le (tgt := 19) hx hb dX4_pop_4 (by decide) (fun c_1 => ?_) (fun c_1 => ?_)
  · refine lv_iconst (v := 0) hx hb dX4_pop_19 (by decide) ?_
    have e_2 : (g_X4_pop8_uZ uZ) = uZ := by simp only [g_X4_pop8_uZ, if_pos c_1]
    have e_3 : (g_X4_pop8_row uZ uR0 uR1 uR2 uR3 uR4 uR5 uR6 uR7 row) = row := by simp only [g_X4_pop8_row, if_pos c_1]
    exact rw_zret hx hb hr (by rfl) hlocks hP hD hS (by simp only [f_X4_pop8, if_pos c_1]) (by rw [e_2, e_3]) dX4_pop_20
  refine lv_aload_n hx hb dX4_pop_7 rfl (lv_at hl 0 rfl) ?_
  refine va_get (D := D) (ci := 4) (v := .int uZ) (C := RX4) (T := TX4) (N := 2) hx hb hts hinX4 hown hK hP 0 rfl rfl 1 (by decide) hf7 (fun _ h9 => h9) rfl dX4_pop_8 ?_
  refine lv_aload_n hx hb dX4_pop_11 rfl (lv_at hl 0 rfl) ?_
  refine va_get (D := D) (ci := 4) (v := .ref u1) (C := RX4) (T := TX4) (N := 2) hx hb hts hinX4 hown hK hP 0 rfl rfl 0 (by decide) hf17 (fun _ h9 => h9) rfl dX4_pop_12 ?_
  refine va_alen (v := 8) hx hb hK hP 1 2 rfl rfl rfl dX4_pop_15 ?_
  refine lv_icmp_le (tgt := 21) hx hb dX4_pop_16 (by decide) (fun c_4 => ?_) (fun c_4 => ?_)
  · refine lv_aload_n hx hb dX4_pop_21 rfl (lv_at hl 0 rfl) ?_
    refine lv_dup hx hb dX4_pop_22 rfl ?_
    refine va_get (D := D) (ci := 4) (v := .int uZ) (C := RX4) (T := TX4) (N := 2) hx hb hts hinX4 hown hK hP 0 rfl rfl 1 (by decide) hf7 (fun _ h9 => h9) rfl dX4_pop_23 ?_
    refine lv_iconst (v := 1) hx hb dX4_pop_26 (by decide) ?_
    refine lv_isub hx hb dX4_pop_27 ?_
    refine va_put (D := D) (ci := 4) (v := .int (uZ - 1)) (ty := .int) (C := RX4) (T := TX4) (N := 2) hx hb hts hinX4 tyX4 tyX4_ok nmX4 hown hK hP hD hS 0 rfl rfl 1 (by decide) hf7 (fun _ h9 => h9) rfl (by decide +kernel) rfl rfl (Nat.le_of_ble_eq_true rfl) dX4_pop_28 (fun H locs hP hD hS => ?_)
    have hP : va_P D vwCl [(u0, .inr (4, [.ref u1, .int (uZ - 1)])), (u1, .inl (cG, 8, .inr (.inr (.inr (.inr (q_g [ug0, ug1, ug2, ug3, ug4, ug5, ug6, ug7])))))), (ug0, .inl (cI, 15, .inl uR0)), (ug1, .inl (cI, 15, .inl uR1)), (ug2, .inl (cI, 15, .inl uR2)), (ug3, .inl (cI, 15, .inl uR3)), (ug4, .inl (cI, 15, .inl uR4)), (ug5, .inl (cI, 15, .inl uR5)), (ug6, .inl (cI, 15, .inl uR6)), (ug7, .inl (cI, 15, .inl uR7)), (s0, .inr (6, [.ref v0, .ref s1])), (s1, .inl (cI, 15, .inl row))] H := hP
    have hD : va_D (va_A (wU8s cI cC cG u0 u1 ug0 ug1 ug2 ug3 ug4 ug5 ug6 ug7 s0 s1 v0 uZ uR0 uR1 uR2 uR3 uR4 uR5 uR6 uR7 row) sz) [(u0, .inr (4, [.ref u1, .int (uZ - 1)])), (u1, .inl (cG, 8, .inr (.inr (.inr (.inr (q_g [ug0, ug1, ug2, ug3, ug4, ug5, ug6, ug7])))))), (ug0, .inl (cI, 15, .inl uR0)), (ug1, .inl (cI, 15, .inl uR1)), (ug2, .inl (cI, 15, .inl uR2)), (ug3, .inl (cI, 15, .inl uR3)), (ug4, .inl (cI, 15, .inl uR4)), (ug5, .inl (cI, 15, .inl uR5)), (ug6, .inl (cI, 15, .inl uR6)), (ug7, .inl (cI, 15, .inl uR7)), (s0, .inr (6, [.ref v0, .ref s1])), (s1, .inl (cI, 15, .inl row))] := hD
    refine lv_aload_n hx hb dX4_pop_31 rfl (lv_at hl 1 rfl) ?_
    refine lv_aload_n hx hb dX4_pop_32 rfl (lv_at hl 0 rfl) ?_
    refine va_get (D := D) (ci := 4) (v := .ref u1) (C := RX4) (T := TX4) (N := 2) hx hb hts hinX4 hown hK hP 0 rfl rfl 0 (by decide) hf17 (fun _ h9 => h9) rfl dX4_pop_33 ?_
    refine lv_aload_n hx hb dX4_pop_36 rfl (lv_at hl 0 rfl) ?_
    refine va_get (D := D) (ci := 4) (v := .int (uZ - 1)) (C := RX4) (T := TX4) (N := 2) hx hb hts hinX4 hown hK hP 0 rfl rfl 1 (by decide) hf7 (fun _ h9 => h9) rfl dX4_pop_37 ?_
    have hin40 : vp_in (uZ - 1) 8 := (in_pop (n := 8) c_1 c_4 (by decide))
    by_cases c_5 : (uZ - 1) = 0
    · refine q_aald hx hb hK hP 1 2 rfl rfl hin40 0 (by rw [c_5]; decide) rfl dX4_pop_40 ?_
      refine rw_v (wr := [(u0, .inr (4, [.ref u1, .int (uZ - 1)])), (u1, .inl (cG, 8, .inr (.inr (.inr (.inr (q_g [ug0, ug1, ug2, ug3, ug4, ug5, ug6, ug7])))))), (ug1, .inl (cI, 15, .inl uR1)), (ug2, .inl (cI, 15, .inl uR2)), (ug3, .inl (cI, 15, .inl uR3)), (ug4, .inl (cI, 15, .inl uR4)), (ug5, .inl (cI, 15, .inl uR5)), (ug6, .inl (cI, 15, .inl uR6)), (ug7, .inl (cI, 15, .inl uR7))]) (ws2 := [(u0, .inr (4, [.ref u1, .int (uZ - 1)])), (u1, .inl (cG, 8, .inr (.inr (.inr (.inr (q_g [ug0, ug1, ug2, ug3, ug4, ug5, ug6, ug7])))))), (ug0, .inl (cI, 15, .inl uR0)), (ug1, .inl (cI, 15, .inl uR1)), (ug2, .inl (cI, 15, .inl uR2)), (ug3, .inl (cI, 15, .inl uR3)), (ug4, .inl (cI, 15, .inl uR4)), (ug5, .inl (cI, 15, .inl uR5)), (ug6, .inl (cI, 15, .inl uR6)), (ug7, .inl (cI, 15, .inl uR7)), (s0, .inr (6, [.ref v0, .ref s1])), (s1, .inl (cI, 15, .inl (g_X6_copyFrom_row row uR0)))]) (va_runV (As := [.ref ug0]) (rest := []) ⟨hx, hb, hml, hown, hts⟩ (c_X6_copyFrom l D cI cC cG s0 s1 ug0 v0 row uR0 H.size) (cwV 1 hts gX4_pop_X6_copyFrom rfl rfl rfl (by decide +kernel) ⟨Nat.le_of_ble_eq_true rfl, Nat.le_of_ble_eq_true rfl⟩) (q_preWV hK hP hD hN [10, 11, 2] (by decide) rfl rfl (ci := 6) (q0 := 10) rfl rfl) rfl rfl hl.1 rfl (lv_room (Nat.le_of_ble_eq_true rfl)) dX4_pop_41 ⟨Nat.zero_le _, Nat.zero_le _⟩) hS hA hP hD [10, 11, 2] [0, 1, 3, 4, 5, 6, 7, 8, 9] rfl rfl (by decide) (by decide) [0, 1, 11, 2, 3, 4, 5, 6, 7, 8, 9, 10] (by decide) rfl rfl (fun H locs hP hD hS => ?_)
      refine lv_iconst (v := 1) hx hb dX4_pop_44 (by decide) ?_
      have e_6 : (g_X4_pop8_uZ uZ) = (uZ - 1) := by simp only [g_X4_pop8_uZ, if_neg c_1, if_pos c_4, if_pos c_5]
      have e_7 : (g_X4_pop8_row uZ uR0 uR1 uR2 uR3 uR4 uR5 uR6 uR7 row) = (g_X6_copyFrom_row row uR0) := by simp only [g_X4_pop8_row, if_neg c_1, if_pos c_4, if_pos c_5]
      exact rw_zret hx hb hr (by rfl) hlocks hP hD hS (by simp only [f_X4_pop8, if_neg c_1, if_pos c_4, if_pos c_5]) (by rw [e_6, e_7]) dX4_pop_45
    by_cases c_8 : (uZ - 1) = 1
    · refine q_aald hx hb hK hP 1 2 rfl rfl hin40 1 (by rw [c_8]; decide) rfl dX4_pop_40 ?_
      refine rw_v (wr := [(u0, .inr (4, [.ref u1, .int (uZ - 1)])), (u1, .inl (cG, 8, .inr (.inr (.inr (.inr (q_g [ug0, ug1, ug2, ug3, ug4, ug5, ug6, ug7])))))), (ug0, .inl (cI, 15, .inl uR0)), (ug2, .inl (cI, 15, .inl uR2)), (ug3, .inl (cI, 15, .inl uR3)), (ug4, .inl (cI, 15, .inl uR4)), (ug5, .inl (cI, 15, .inl uR5)), (ug6, .inl (cI, 15, .inl uR6)), (ug7, .inl (cI, 15, .inl uR7))]) (ws2 := [(u0, .inr (4, [.ref u1, .int (uZ - 1)])), (u1, .inl (cG, 8, .inr (.inr (.inr (.inr (q_g [ug0, ug1, ug2, ug3, ug4, ug5, ug6, ug7])))))), (ug0, .inl (cI, 15, .inl uR0)), (ug1, .inl (cI, 15, .inl uR1)), (ug2, .inl (cI, 15, .inl uR2)), (ug3, .inl (cI, 15, .inl uR3)), (ug4, .inl (cI, 15, .inl uR4)), (ug5, .inl (cI, 15, .inl uR5)), (ug6, .inl (cI, 15, .inl uR6)), (ug7, .inl (cI, 15, .inl uR7)), (s0, .inr (6, [.ref v0, .ref s1])), (s1, .inl (cI, 15, .inl (g_X6_copyFrom_row row uR1)))]) (va_runV (As := [.ref ug1]) (rest := []) ⟨hx, hb, hml, hown, hts⟩ (c_X6_copyFrom l D cI cC cG s0 s1 ug1 v0 row uR1 H.size) (cwV 1 hts gX4_pop_X6_copyFrom rfl rfl rfl (by decide +kernel) ⟨Nat.le_of_ble_eq_true rfl, Nat.le_of_ble_eq_true rfl⟩) (q_preWV hK hP hD hN [10, 11, 3] (by decide) rfl rfl (ci := 6) (q0 := 10) rfl rfl) rfl rfl hl.1 rfl (lv_room (Nat.le_of_ble_eq_true rfl)) dX4_pop_41 ⟨Nat.zero_le _, Nat.zero_le _⟩) hS hA hP hD [10, 11, 3] [0, 1, 2, 4, 5, 6, 7, 8, 9] rfl rfl (by decide) (by decide) [0, 1, 2, 11, 3, 4, 5, 6, 7, 8, 9, 10] (by decide) rfl rfl (fun H locs hP hD hS => ?_)
      refine lv_iconst (v := 1) hx hb dX4_pop_44 (by decide) ?_
      have e_9 : (g_X4_pop8_uZ uZ) = (uZ - 1) := by simp only [g_X4_pop8_uZ, if_neg c_1, if_pos c_4, if_neg c_5, if_pos c_8]
      have e_10 : (g_X4_pop8_row uZ uR0 uR1 uR2 uR3 uR4 uR5 uR6 uR7 row) = (g_X6_copyFrom_row row uR1) := by simp only [g_X4_pop8_row, if_neg c_1, if_pos c_4, if_neg c_5, if_pos c_8]
      exact rw_zret hx hb hr (by rfl) hlocks hP hD hS (by simp only [f_X4_pop8, if_neg c_1, if_pos c_4, if_neg c_5, if_pos c_8]) (by rw [e_9, e_10]) dX4_pop_45
    by_cases c_11 : (uZ - 1) = 2
    · refine q_aald hx hb hK hP 1 2 rfl rfl hin40 2 (by rw [c_11]; decide) rfl dX4_pop_40 ?_
      refine rw_v (wr := [(u0, .inr (4, [.ref u1, .int (uZ - 1)])), (u1, .inl (cG, 8, .inr (.inr (.inr (.inr (q_g [ug0, ug1, ug2, ug3, ug4, ug5, ug6, ug7])))))), (ug0, .inl (cI, 15, .inl uR0)), (ug1, .inl (cI, 15, .inl uR1)), (ug3, .inl (cI, 15, .inl uR3)), (ug4, .inl (cI, 15, .inl uR4)), (ug5, .inl (cI, 15, .inl uR5)), (ug6, .inl (cI, 15, .inl uR6)), (ug7, .inl (cI, 15, .inl uR7))]) (ws2 := [(u0, .inr (4, [.ref u1, .int (uZ - 1)])), (u1, .inl (cG, 8, .inr (.inr (.inr (.inr (q_g [ug0, ug1, ug2, ug3, ug4, ug5, ug6, ug7])))))), (ug0, .inl (cI, 15, .inl uR0)), (ug1, .inl (cI, 15, .inl uR1)), (ug2, .inl (cI, 15, .inl uR2)), (ug3, .inl (cI, 15, .inl uR3)), (ug4, .inl (cI, 15, .inl uR4)), (ug5, .inl (cI, 15, .inl uR5)), (ug6, .inl (cI, 15, .inl uR6)), (ug7, .inl (cI, 15, .inl uR7)), (s0, .inr (6, [.ref v0, .ref s1])), (s1, .inl (cI, 15, .inl (g_X6_copyFrom_row row uR2)))]) (va_runV (As := [.ref ug2]) (rest := []) ⟨hx, hb, hml, hown, hts⟩ (c_X6_copyFrom l D cI cC cG s0 s1 ug2 v0 row uR2 H.size) (cwV 1 hts gX4_pop_X6_copyFrom rfl rfl rfl (by decide +kernel) ⟨Nat.le_of_ble_eq_true rfl, Nat.le_of_ble_eq_true rfl⟩) (q_preWV hK hP hD hN [10, 11, 4] (by decide) rfl rfl (ci := 6) (q0 := 10) rfl rfl) rfl rfl hl.1 rfl (lv_room (Nat.le_of_ble_eq_true rfl)) dX4_pop_41 ⟨Nat.zero_le _, Nat.zero_le _⟩) hS hA hP hD [10, 11, 4] [0, 1, 2, 3, 5, 6, 7, 8, 9] rfl rfl (by decide) (by decide) [0, 1, 2, 3, 11, 4, 5, 6, 7, 8, 9, 10] (by decide) rfl rfl (fun H locs hP hD hS => ?_)
      refine lv_iconst (v := 1) hx hb dX4_pop_44 (by decide) ?_
      have e_12 : (g_X4_pop8_uZ uZ) = (uZ - 1) := by simp only [g_X4_pop8_uZ, if_neg c_1, if_pos c_4, if_neg c_5, if_neg c_8, if_pos c_11]
      have e_13 : (g_X4_pop8_row uZ uR0 uR1 uR2 uR3 uR4 uR5 uR6 uR7 row) = (g_X6_copyFrom_row row uR2) := by simp only [g_X4_pop8_row, if_neg c_1, if_pos c_4, if_neg c_5, if_neg c_8, if_pos c_11]
      exact rw_zret hx hb hr (by rfl) hlocks hP hD hS (by simp only [f_X4_pop8, if_neg c_1, if_pos c_4, if_neg c_5, if_neg c_8, if_pos c_11]) (by rw [e_12, e_13]) dX4_pop_45
    by_cases c_14 : (uZ - 1) = 3
    · refine q_aald hx hb hK hP 1 2 rfl rfl hin40 3 (by rw [c_14]; decide) rfl dX4_pop_40 ?_
      refine rw_v (wr := [(u0, .inr (4, [.ref u1, .int (uZ - 1)])), (u1, .inl (cG, 8, .inr (.inr (.inr (.inr (q_g [ug0, ug1, ug2, ug3, ug4, ug5, ug6, ug7])))))), (ug0, .inl (cI, 15, .inl uR0)), (ug1, .inl (cI, 15, .inl uR1)), (ug2, .inl (cI, 15, .inl uR2)), (ug4, .inl (cI, 15, .inl uR4)), (ug5, .inl (cI, 15, .inl uR5)), (ug6, .inl (cI, 15, .inl uR6)), (ug7, .inl (cI, 15, .inl uR7))]) (ws2 := [(u0, .inr (4, [.ref u1, .int (uZ - 1)])), (u1, .inl (cG, 8, .inr (.inr (.inr (.inr (q_g [ug0, ug1, ug2, ug3, ug4, ug5, ug6, ug7])))))), (ug0, .inl (cI, 15, .inl uR0)), (ug1, .inl (cI, 15, .inl uR1)), (ug2, .inl (cI, 15, .inl uR2)), (ug3, .inl (cI, 15, .inl uR3)), (ug4, .inl (cI, 15, .inl uR4)), (ug5, .inl (cI, 15, .inl uR5)), (ug6, .inl (cI, 15, .inl uR6)), (ug7, .inl (cI, 15, .inl uR7)), (s0, .inr (6, [.ref v0, .ref s1])), (s1, .inl (cI, 15, .inl (g_X6_copyFrom_row row uR3)))]) (va_runV (As := [.ref ug3]) (rest := []) ⟨hx, hb, hml, hown, hts⟩ (c_X6_copyFrom l D cI cC cG s0 s1 ug3 v0 row uR3 H.size) (cwV 1 hts gX4_pop_X6_copyFrom rfl rfl rfl (by decide +kernel) ⟨Nat.le_of_ble_eq_true rfl, Nat.le_of_ble_eq_true rfl⟩) (q_preWV hK hP hD hN [10, 11, 5] (by decide) rfl rfl (ci := 6) (q0 := 10) rfl rfl) rfl rfl hl.1 rfl (lv_room (Nat.le_of_ble_eq_true rfl)) dX4_pop_41 ⟨Nat.zero_le _, Nat.zero_le _⟩) hS hA hP hD [10, 11, 5] [0, 1, 2, 3, 4, 6, 7, 8, 9] rfl rfl (by decide) (by decide) [0, 1, 2, 3, 4, 11, 5, 6, 7, 8, 9, 10] (by decide) rfl rfl (fun H locs hP hD hS => ?_)
      refine lv_iconst (v := 1) hx hb dX4_pop_44 (by decide) ?_
      have e_15 : (g_X4_pop8_uZ uZ) = (uZ - 1) := by simp only [g_X4_pop8_uZ, if_neg c_1, if_pos c_4, if_neg c_5, if_neg c_8, if_neg c_11, if_pos c_14]
      have e_16 : (g_X4_pop8_row uZ uR0 uR1 uR2 uR3 uR4 uR5 uR6 uR7 row) = (g_X6_copyFrom_row row uR3) := by simp only [g_X4_pop8_row, if_neg c_1, if_pos c_4, if_neg c_5, if_neg c_8, if_neg c_11, if_pos c_14]
      exact rw_zret hx hb hr (by rfl) hlocks hP hD hS (by simp only [f_X4_pop8, if_neg c_1, if_pos c_4, if_neg c_5, if_neg c_8, if_neg c_11, if_pos c_14]) (by rw [e_15, e_16]) dX4_pop_45
    by_cases c_17 : (uZ - 1) = 4
    · refine q_aald hx hb hK hP 1 2 rfl rfl hin40 4 (by rw [c_17]; decide) rfl dX4_pop_40 ?_
      refine rw_v (wr := [(u0, .inr (4, [.ref u1, .int (uZ - 1)])), (u1, .inl (cG, 8, .inr (.inr (.inr (.inr (q_g [ug0, ug1, ug2, ug3, ug4, ug5, ug6, ug7])))))), (ug0, .inl (cI, 15, .inl uR0)), (ug1, .inl (cI, 15, .inl uR1)), (ug2, .inl (cI, 15, .inl uR2)), (ug3, .inl (cI, 15, .inl uR3)), (ug5, .inl (cI, 15, .inl uR5)), (ug6, .inl (cI, 15, .inl uR6)), (ug7, .inl (cI, 15, .inl uR7))]) (ws2 := [(u0, .inr (4, [.ref u1, .int (uZ - 1)])), (u1, .inl (cG, 8, .inr (.inr (.inr (.inr (q_g [ug0, ug1, ug2, ug3, ug4, ug5, ug6, ug7])))))), (ug0, .inl (cI, 15, .inl uR0)), (ug1, .inl (cI, 15, .inl uR1)), (ug2, .inl (cI, 15, .inl uR2)), (ug3, .inl (cI, 15, .inl uR3)), (ug4, .inl (cI, 15, .inl uR4)), (ug5, .inl (cI, 15, .inl uR5)), (ug6, .inl (cI, 15, .inl uR6)), (ug7, .inl (cI, 15, .inl uR7)), (s0, .inr (6, [.ref v0, .ref s1])), (s1, .inl (cI, 15, .inl (g_X6_copyFrom_row row uR4)))]) (va_runV (As := [.ref ug4]) (rest := []) ⟨hx, hb, hml, hown, hts⟩ (c_X6_copyFrom l D cI cC cG s0 s1 ug4 v0 row uR4 H.size) (cwV 1 hts gX4_pop_X6_copyFrom rfl rfl rfl (by decide +kernel) ⟨Nat.le_of_ble_eq_true rfl, Nat.le_of_ble_eq_true rfl⟩) (q_preWV hK hP hD hN [10, 11, 6] (by decide) rfl rfl (ci := 6) (q0 := 10) rfl rfl) rfl rfl hl.1 rfl (lv_room (Nat.le_of_ble_eq_true rfl)) dX4_pop_41 ⟨Nat.zero_le _, Nat.zero_le _⟩) hS hA hP hD [10, 11, 6] [0, 1, 2, 3, 4, 5, 7, 8, 9] rfl rfl (by decide) (by decide) [0, 1, 2, 3, 4, 5, 11, 6, 7, 8, 9, 10] (by decide) rfl rfl (fun H locs hP hD hS => ?_)
      refine lv_iconst (v := 1) hx hb dX4_pop_44 (by decide) ?_
      have e_18 : (g_X4_pop8_uZ uZ) = (uZ - 1) := by simp only [g_X4_pop8_uZ, if_neg c_1, if_pos c_4, if_neg c_5, if_neg c_8, if_neg c_11, if_neg c_14, if_pos c_17]
      have e_19 : (g_X4_pop8_row uZ uR0 uR1 uR2 uR3 uR4 uR5 uR6 uR7 row) = (g_X6_copyFrom_row row uR4) := by simp only [g_X4_pop8_row, if_neg c_1, if_pos c_4, if_neg c_5, if_neg c_8, if_neg c_11, if_neg c_14, if_pos c_17]
      exact rw_zret hx hb hr (by rfl) hlocks hP hD hS (by simp only [f_X4_pop8, if_neg c_1, if_pos c_4, if_neg c_5, if_neg c_8, if_neg c_11, if_neg c_14, if_pos c_17]) (by rw [e_18, e_19]) dX4_pop_45
    by_cases c_20 : (uZ - 1) = 5
    · refine q_aald hx hb hK hP 1 2 rfl rfl hin40 5 (by rw [c_20]; decide) rfl dX4_pop_40 ?_
      refine rw_v (wr := [(u0, .inr (4, [.ref u1, .int (uZ - 1)])), (u1, .inl (cG, 8, .inr (.inr (.inr (.inr (q_g [ug0, ug1, ug2, ug3, ug4, ug5, ug6, ug7])))))), (ug0, .inl (cI, 15, .inl uR0)), (ug1, .inl (cI, 15, .inl uR1)), (ug2, .inl (cI, 15, .inl uR2)), (ug3, .inl (cI, 15, .inl uR3)), (ug4, .inl (cI, 15, .inl uR4)), (ug6, .inl (cI, 15, .inl uR6)), (ug7, .inl (cI, 15, .inl uR7))]) (ws2 := [(u0, .inr (4, [.ref u1, .int (uZ - 1)])), (u1, .inl (cG, 8, .inr (.inr (.inr (.inr (q_g [ug0, ug1, ug2, ug3, ug4, ug5, ug6, ug7])))))), (ug0, .inl (cI, 15, .inl uR0)), (ug1, .inl (cI, 15, .inl uR1)), (ug2, .inl (cI, 15, .inl uR2)), (ug3, .inl (cI, 15, .inl uR3)), (ug4, .inl (cI, 15, .inl uR4)), (ug5, .inl (cI, 15, .inl uR5)), (ug6, .inl (cI, 15, .inl uR6)), (ug7, .inl (cI, 15, .inl uR7)), (s0, .inr (6, [.ref v0, .ref s1])), (s1, .inl (cI, 15, .inl (g_X6_copyFrom_row row uR5)))]) (va_runV (As := [.ref ug5]) (rest := []) ⟨hx, hb, hml, hown, hts⟩ (c_X6_copyFrom l D cI cC cG s0 s1 ug5 v0 row uR5 H.size) (cwV 1 hts gX4_pop_X6_copyFrom rfl rfl rfl (by decide +kernel) ⟨Nat.le_of_ble_eq_true rfl, Nat.le_of_ble_eq_true rfl⟩) (q_preWV hK hP hD hN [10, 11, 7] (by decide) rfl rfl (ci := 6) (q0 := 10) rfl rfl) rfl rfl hl.1 rfl (lv_room (Nat.le_of_ble_eq_true rfl)) dX4_pop_41 ⟨Nat.zero_le _, Nat.zero_le _⟩) hS hA hP hD [10, 11, 7] [0, 1, 2, 3, 4, 5, 6, 8, 9] rfl rfl (by decide) (by decide) [0, 1, 2, 3, 4, 5, 6, 11, 7, 8, 9, 10] (by decide) rfl rfl (fun H locs hP hD hS => ?_)
      refine lv_iconst (v := 1) hx hb dX4_pop_44 (by decide) ?_
      have e_21 : (g_X4_pop8_uZ uZ) = (uZ - 1) := by simp only [g_X4_pop8_uZ, if_neg c_1, if_pos c_4, if_neg c_5, if_neg c_8, if_neg c_11, if_neg c_14, if_neg c_17, if_pos c_20]
      have e_22 : (g_X4_pop8_row uZ uR0 uR1 uR2 uR3 uR4 uR5 uR6 uR7 row) = (g_X6_copyFrom_row row uR5) := by simp only [g_X4_pop8_row, if_neg c_1, if_pos c_4, if_neg c_5, if_neg c_8, if_neg c_11, if_neg c_14, if_neg c_17, if_pos c_20]
      exact rw_zret hx hb hr (by rfl) hlocks hP hD hS (by simp only [f_X4_pop8, if_neg c_1, if_pos c_4, if_neg c_5, if_neg c_8, if_neg c_11, if_neg c_14, if_neg c_17, if_pos c_20]) (by rw [e_21, e_22]) dX4_pop_45
    by_cases c_23 : (uZ - 1) = 6
    · refine q_aald hx hb hK hP 1 2 rfl rfl hin40 6 (by rw [c_23]; decide) rfl dX4_pop_40 ?_
      refine rw_v (wr := [(u0, .inr (4, [.ref u1, .int (uZ - 1)])), (u1, .inl (cG, 8, .inr (.inr (.inr (.inr (q_g [ug0, ug1, ug2, ug3, ug4, ug5, ug6, ug7])))))), (ug0, .inl (cI, 15, .inl uR0)), (ug1, .inl (cI, 15, .inl uR1)), (ug2, .inl (cI, 15, .inl uR2)), (ug3, .inl (cI, 15, .inl uR3)), (ug4, .inl (cI, 15, .inl uR4)), (ug5, .inl (cI, 15, .inl uR5)), (ug7, .inl (cI, 15, .inl uR7))]) (ws2 := [(u0, .inr (4, [.ref u1, .int (uZ - 1)])), (u1, .inl (cG, 8, .inr (.inr (.inr (.inr (q_g [ug0, ug1, ug2, ug3, ug4, ug5, ug6, ug7])))))), (ug0, .inl (cI, 15, .inl uR0)), (ug1, .inl (cI, 15, .inl uR1)), (ug2, .inl (cI, 15, .inl uR2)), (ug3, .inl (cI, 15, .inl uR3)), (ug4, .inl (cI, 15, .inl uR4)), (ug5, .inl (cI, 15, .inl uR5)), (ug6, .inl (cI, 15, .inl uR6)), (ug7, .inl (cI, 15, .inl uR7)), (s0, .inr (6, [.ref v0, .ref s1])), (s1, .inl (cI, 15, .inl (g_X6_copyFrom_row row uR6)))]) (va_runV (As := [.ref ug6]) (rest := []) ⟨hx, hb, hml, hown, hts⟩ (c_X6_copyFrom l D cI cC cG s0 s1 ug6 v0 row uR6 H.size) (cwV 1 hts gX4_pop_X6_copyFrom rfl rfl rfl (by decide +kernel) ⟨Nat.le_of_ble_eq_true rfl, Nat.le_of_ble_eq_true rfl⟩) (q_preWV hK hP hD hN [10, 11, 8] (by decide) rfl rfl (ci := 6) (q0 := 10) rfl rfl) rfl rfl hl.1 rfl (lv_room (Nat.le_of_ble_eq_true rfl)) dX4_pop_41 ⟨Nat.zero_le _, Nat.zero_le _⟩) hS hA hP hD [10, 11, 8] [0, 1, 2, 3, 4, 5, 6, 7, 9] rfl rfl (by decide) (by decide) [0, 1, 2, 3, 4, 5, 6, 7, 11, 8, 9, 10] (by decide) rfl rfl (fun H locs hP hD hS => ?_)
      refine lv_iconst (v := 1) hx hb dX4_pop_44 (by decide) ?_
      have e_24 : (g_X4_pop8_uZ uZ) = (uZ - 1) := by simp only [g_X4_pop8_uZ, if_neg c_1, if_pos c_4, if_neg c_5, if_neg c_8, if_neg c_11, if_neg c_14, if_neg c_17, if_neg c_20, if_pos c_23]
      have e_25 : (g_X4_pop8_row uZ uR0 uR1 uR2 uR3 uR4 uR5 uR6 uR7 row) = (g_X6_copyFrom_row row uR6) := by simp only [g_X4_pop8_row, if_neg c_1, if_pos c_4, if_neg c_5, if_neg c_8, if_neg c_11, if_neg c_14, if_neg c_17, if_neg c_20, if_pos c_23]
      exact rw_zret hx hb hr (by rfl) hlocks hP hD hS (by simp only [f_X4_pop8, if_neg c_1, if_pos c_4, if_neg c_5, if_neg c_8, if_neg c_11, if_neg c_14, if_neg c_17, if_neg c_20, if_pos c_23]) (by rw [e_24, e_25]) dX4_pop_45
    have c_26 : (uZ - 1) = 7 := last8 hin40 c_5 c_8 c_11 c_14 c_17 c_20 c_23
    refine q_aald hx hb hK hP 1 2 rfl rfl hin40 7 (by rw [c_26]; decide) rfl dX4_pop_40 ?_
    refine rw_v (wr := [(u0, .inr (4, [.ref u1, .int (uZ - 1)])), (u1, .inl (cG, 8, .inr (.inr (.inr (.inr (q_g [ug0, ug1, ug2, ug3, ug4, ug5, ug6, ug7])))))), (ug0, .inl (cI, 15, .inl uR0)), (ug1, .inl (cI, 15, .inl uR1)), (ug2, .inl (cI, 15, .inl uR2)), (ug3, .inl (cI, 15, .inl uR3)), (ug4, .inl (cI, 15, .inl uR4)), (ug5, .inl (cI, 15, .inl uR5)), (ug6, .inl (cI, 15, .inl uR6))]) (ws2 := [(u0, .inr (4, [.ref u1, .int (uZ - 1)])), (u1, .inl (cG, 8, .inr (.inr (.inr (.inr (q_g [ug0, ug1, ug2, ug3, ug4, ug5, ug6, ug7])))))), (ug0, .inl (cI, 15, .inl uR0)), (ug1, .inl (cI, 15, .inl uR1)), (ug2, .inl (cI, 15, .inl uR2)), (ug3, .inl (cI, 15, .inl uR3)), (ug4, .inl (cI, 15, .inl uR4)), (ug5, .inl (cI, 15, .inl uR5)), (ug6, .inl (cI, 15, .inl uR6)), (ug7, .inl (cI, 15, .inl uR7)), (s0, .inr (6, [.ref v0, .ref s1])), (s1, .inl (cI, 15, .inl (g_X6_copyFrom_row row uR7)))]) (va_runV (As := [.ref ug7]) (rest := []) ⟨hx, hb, hml, hown, hts⟩ (c_X6_copyFrom l D cI cC cG s0 s1 ug7 v0 row uR7 H.size) (cwV 1 hts gX4_pop_X6_copyFrom rfl rfl rfl (by decide +kernel) ⟨Nat.le_of_ble_eq_true rfl, Nat.le_of_ble_eq_true rfl⟩) (q_preWV hK hP hD hN [10, 11, 9] (by decide) rfl rfl (ci := 6) (q0 := 10) rfl rfl) rfl rfl hl.1 rfl (lv_room (Nat.le_of_ble_eq_true rfl)) dX4_pop_41 ⟨Nat.zero_le _, Nat.zero_le _⟩) hS hA hP hD [10, 11, 9] [0, 1, 2, 3, 4, 5, 6, 7, 8] rfl rfl (by decide) (by decide) [0, 1, 2, 3, 4, 5, 6, 7, 8, 11, 9, 10] (by decide) rfl rfl (fun H locs hP hD hS => ?_)
    refine lv_iconst (v := 1) hx hb dX4_pop_44 (by decide) ?_
    have e_27 : (g_X4_pop8_uZ uZ) = (uZ - 1) := by simp only [g_X4_pop8_uZ, if_neg c_1, if_pos c_4, if_neg c_5, if_neg c_8, if_neg c_11, if_neg c_14, if_neg c_17, if_neg c_20, if_neg c_23]
    have e_28 : (g_X4_pop8_row uZ uR0 uR1 uR2 uR3 uR4 uR5 uR6 uR7 row) = (g_X6_copyFrom_row row uR7) := by simp only [g_X4_pop8_row, if_neg c_1, if_pos c_4, if_neg c_5, if_neg c_8, if_neg c_11, if_neg c_14, if_neg c_17, if_neg c_20, if_neg c_23]
    exact rw_zret hx hb hr (by rfl) hlocks hP hD hS (by simp only [f_X4_pop8, if_neg c_1, if_pos c_4, if_neg c_5, if_neg c_8, if_neg c_11, if_neg c_14, if_neg c_17, if_neg c_20, if_neg c_23]) (by rw [e_27, e_28]) dX4_pop_45
  refine lv_iconst (v := 0) hx hb dX4_pop_19 (by decide) ?_
  have e_29 : (g_X4_pop8_uZ uZ) = uZ := by simp only [g_X4_pop8_uZ, if_neg c_1, if_neg c_4]
  have e_30 : (g_X4_pop8_row uZ uR0 uR1 uR2 uR3 uR4 uR5 uR6 uR7 row) = row := by simp only [g_X4_pop8_row, if_neg c_1, if_neg c_4]
  exact rw_zret hx hb hr (by rfl) hlocks hP hD hS (by simp only [f_X4_pop8, if_neg c_1, if_neg c_4]) (by rw [e_29, e_30]) dX4_pop_20
def f_X4_push2 (uZ : Int32) : Int32 := (if uZ < 0 then 0 else (if uZ < 2 then 1 else 0))
def g_X4_push2_uZ (uZ : Int32) : Int32 := (if uZ < 0 then uZ else (if uZ < 2 then (uZ + 1) else uZ))
def g_X4_push2_uR0 (uZ : Int32) (uR0 : Nat → Int32) (row : Nat → Int32) : Nat → Int32 := (if uZ < 0 then uR0 else (if uZ < 2 then (if uZ = 0 then (g_X6_copyInto_cel row uR0) else uR0) else uR0))
def g_X4_push2_uR1 (uZ : Int32) (uR1 : Nat → Int32) (row : Nat → Int32) : Nat → Int32 := (if uZ < 0 then uR1 else (if uZ < 2 then (if uZ = 0 then uR1 else (g_X6_copyInto_cel row uR1)) else uR1))
abbrev rm_X4_push2 : Room := { frames := 1, cells := 0, slots := 0, locals := 22 }
set_option maxRecDepth 100000 in
set_option maxHeartbeats 4000000 in
theorem c_X4_push2 (l : Launch) (D : va_G) (cI cC cG : ClassId) (u0 : Nat) (u1 : Nat) (ug0 : Nat) (ug1 : Nat) (s0 : Nat) (s1 : Nat) (v0 : Nat) (uZ : Int32) (uR0 : Nat → Int32) (uR1 : Nat → Int32) (row : Nat → Int32) (sz : Nat) : RwI l yX4_push wsX4_push rm_X4_push2 D (q_t cI cC cG) (wU2s cI cC cG u0 u1 ug0 ug1 s0 s1 v0 uZ uR0 uR1 row) (wU2s cI cC cG u0 u1 ug0 ug1 s0 s1 v0 (g_X4_push2_uZ uZ) (g_X4_push2_uR0 uZ uR0 row) (g_X4_push2_uR1 uZ uR1 row) row) sz [.ref u0, .ref s0] (f_X4_push2 uZ) := by
  refine rw_enter (cc := cX4_push) (maxL := 2) (ret := (some .boolean)) (by decide) rfl (Nat.le_of_ble_eq_true rfl) ?_
  intro p e s m below meth c ls B hP hK hD hS hA hl
  obtain ⟨hx, hb, hr, hlocks, hml, hown, hts, hN⟩ := B
  have hown : s.vm.findClass RX4 = some m.cls := hown
  have hl : lv_has ls 2 [(0, .ref u0), (1, .ref s0)] := hl
  have hf7 := hts (.fieldLink RX4 7 "OlderByABlush$Shelf" "height" "I") (by decide +kernel)
  have hinX4 : ∀ w ∈ u_ws RX4 TX4 2, w ∈ wsX4_push := by decide +kernel
  have hf17 := hts (.fieldLink RX4 17 "OlderByABlush$Shelf" "rows" "[[I") (by decide +kernel)
  refine lv_aload_n hx hb dX4_push_0 rfl (lv_at hl 0 rfl) ?_
  refine va_get (D := D) (ci := 4) (v := .int uZ) (C := RX4) (T := TX4) (N := 2) hx hb hts hinX4 hown hK hP 0 rfl rfl 1 (by decide) hf7 (fun _ h9 => h9) rfl dX4_push_1 ?_
  refine lv_if_lt (tgt := 19) hx hb dX4_push_4 (by decide) (fun c_1 => ?_) (fun c_1 => ?_)
  · refine lv_iconst (v := 0) hx hb dX4_push_19 (by decide) ?_
    have e_2 : (g_X4_push2_uZ uZ) = uZ := by simp only [g_X4_push2_uZ, if_pos c_1]
    have e_3 : (g_X4_push2_uR0 uZ uR0 row) = uR0 := by simp only [g_X4_push2_uR0, if_pos c_1]
    have e_4 : (g_X4_push2_uR1 uZ uR1 row) = uR1 := by simp only [g_X4_push2_uR1, if_pos c_1]
    exact rw_zret hx hb hr (by rfl) hlocks hP hD hS (by simp only [f_X4_push2, if_pos c_1]) (by rw [e_2, e_3, e_4]) dX4_push_20
  refine lv_aload_n hx hb dX4_push_7 rfl (lv_at hl 0 rfl) ?_
  refine va_get (D := D) (ci := 4) (v := .int uZ) (C := RX4) (T := TX4) (N := 2) hx hb hts hinX4 hown hK hP 0 rfl rfl 1 (by decide) hf7 (fun _ h9 => h9) rfl dX4_push_8 ?_
  refine lv_aload_n hx hb dX4_push_11 rfl (lv_at hl 0 rfl) ?_
  refine va_get (D := D) (ci := 4) (v := .ref u1) (C := RX4) (T := TX4) (N := 2) hx hb hts hinX4 hown hK hP 0 rfl rfl 0 (by decide) hf17 (fun _ h9 => h9) rfl dX4_push_12 ?_
  refine va_alen (v := 2) hx hb hK hP 1 2 rfl rfl rfl dX4_push_15 ?_
  refine lv_icmp_lt (tgt := 21) hx hb dX4_push_16 (by decide) (fun c_5 => ?_) (fun c_5 => ?_)
  · refine lv_aload_n hx hb dX4_push_21 rfl (lv_at hl 1 rfl) ?_
    refine lv_aload_n hx hb dX4_push_22 rfl (lv_at hl 0 rfl) ?_
    refine va_get (D := D) (ci := 4) (v := .ref u1) (C := RX4) (T := TX4) (N := 2) hx hb hts hinX4 hown hK hP 0 rfl rfl 0 (by decide) hf17 (fun _ h9 => h9) rfl dX4_push_23 ?_
    refine lv_aload_n hx hb dX4_push_26 rfl (lv_at hl 0 rfl) ?_
    refine va_get (D := D) (ci := 4) (v := .int uZ) (C := RX4) (T := TX4) (N := 2) hx hb hts hinX4 hown hK hP 0 rfl rfl 1 (by decide) hf7 (fun _ h9 => h9) rfl dX4_push_27 ?_
    have hin30 : vp_in uZ 2 := (in_cmp2 c_1 c_5)
    by_cases c_6 : uZ = 0
    · refine q_aald hx hb hK hP 1 2 rfl rfl hin30 0 (by rw [c_6]; decide) rfl dX4_push_30 ?_
      refine rw_v (wr := [(u0, .inr (4, [.ref u1, .int uZ])), (u1, .inl (cG, 2, .inr (.inr (.inr (.inr (q_g [ug0, ug1])))))), (ug1, .inl (cI, 15, .inl uR1))]) (ws2 := [(u0, .inr (4, [.ref u1, .int uZ])), (u1, .inl (cG, 2, .inr (.inr (.inr (.inr (q_g [ug0, ug1])))))), (ug0, .inl (cI, 15, .inl (g_X6_copyInto_cel row uR0))), (ug1, .inl (cI, 15, .inl uR1)), (s0, .inr (6, [.ref v0, .ref s1])), (s1, .inl (cI, 15, .inl row))]) (va_runV (As := [.ref ug0]) (rest := []) ⟨hx, hb, hml, hown, hts⟩ (c_X6_copyInto l D cI cC cG s0 s1 ug0 v0 row uR0 s.heap.size) (cwV 1 hts gX4_push_X6_copyInto rfl rfl rfl (by decide +kernel) ⟨Nat.le_of_ble_eq_true rfl, Nat.le_of_ble_eq_true rfl⟩) (q_preWV hK hP hD hN [4, 5, 2] (by decide) rfl rfl (ci := 6) (q0 := 4) rfl rfl) rfl rfl hl.1 rfl (lv_room (Nat.le_of_ble_eq_true rfl)) dX4_push_31 ⟨Nat.zero_le _, Nat.zero_le _⟩) hS hA hP hD [4, 5, 2] [0, 1, 3] rfl rfl (by decide) (by decide) [0, 1, 5, 2, 3, 4] (by decide) rfl rfl (fun H locs hP hD hS => ?_)
      refine lv_aload_n hx hb dX4_push_34 rfl (lv_at hl 0 rfl) ?_
      refine lv_dup hx hb dX4_push_35 rfl ?_
      refine va_get (D := D) (ci := 4) (v := .int uZ) (C := RX4) (T := TX4) (N := 2) hx hb hts hinX4 hown hK hP 0 rfl rfl 1 (by decide) hf7 (fun _ h9 => h9) rfl dX4_push_36 ?_
      refine lv_iconst (v := 1) hx hb dX4_push_39 (by decide) ?_
      refine lv_iadd hx hb dX4_push_40 ?_
      refine va_put (D := D) (ci := 4) (v := .int (uZ + 1)) (ty := .int) (C := RX4) (T := TX4) (N := 2) hx hb hts hinX4 tyX4 tyX4_ok nmX4 hown hK hP hD hS 0 rfl rfl 1 (by decide) hf7 (fun _ h9 => h9) rfl (by decide +kernel) rfl rfl (Nat.le_of_ble_eq_true rfl) dX4_push_41 (fun H locs hP hD hS => ?_)
      have hP : va_P D vwCl [(u0, .inr (4, [.ref u1, .int (uZ + 1)])), (u1, .inl (cG, 2, .inr (.inr (.inr (.inr (q_g [ug0, ug1])))))), (ug0, .inl (cI, 15, .inl (g_X6_copyInto_cel row uR0))), (ug1, .inl (cI, 15, .inl uR1)), (s0, .inr (6, [.ref v0, .ref s1])), (s1, .inl (cI, 15, .inl row))] H := hP
      have hD : va_D (va_A (wU2s cI cC cG u0 u1 ug0 ug1 s0 s1 v0 uZ uR0 uR1 row) sz) [(u0, .inr (4, [.ref u1, .int (uZ + 1)])), (u1, .inl (cG, 2, .inr (.inr (.inr (.inr (q_g [ug0, ug1])))))), (ug0, .inl (cI, 15, .inl (g_X6_copyInto_cel row uR0))), (ug1, .inl (cI, 15, .inl uR1)), (s0, .inr (6, [.ref v0, .ref s1])), (s1, .inl (cI, 15, .inl row))] := hD
      refine lv_iconst (v := 1) hx hb dX4_push_44 (by decide) ?_
      have e_7 : (g_X4_push2_uZ uZ) = (uZ + 1) := by simp only [g_X4_push2_uZ, if_neg c_1, if_pos c_5, if_pos c_6]
      have e_8 : (g_X4_push2_uR0 uZ uR0 row) = (g_X6_copyInto_cel row uR0) := by simp only [g_X4_push2_uR0, if_neg c_1, if_pos c_5, if_pos c_6]
      have e_9 : (g_X4_push2_uR1 uZ uR1 row) = uR1 := by simp only [g_X4_push2_uR1, if_neg c_1, if_pos c_5, if_pos c_6]
      exact rw_zret hx hb hr (by rfl) hlocks hP hD hS (by simp only [f_X4_push2, if_neg c_1, if_pos c_5, if_pos c_6]) (by rw [e_7, e_8, e_9]) dX4_push_45
    have c_10 : uZ = 1 := last2 hin30 c_6
    refine q_aald hx hb hK hP 1 2 rfl rfl hin30 1 (by rw [c_10]; decide) rfl dX4_push_30 ?_
    refine rw_v (wr := [(u0, .inr (4, [.ref u1, .int uZ])), (u1, .inl (cG, 2, .inr (.inr (.inr (.inr (q_g [ug0, ug1])))))), (ug0, .inl (cI, 15, .inl uR0))]) (ws2 := [(u0, .inr (4, [.ref u1, .int uZ])), (u1, .inl (cG, 2, .inr (.inr (.inr (.inr (q_g [ug0, ug1])))))), (ug0, .inl (cI, 15, .inl uR0)), (ug1, .inl (cI, 15, .inl (g_X6_copyInto_cel row uR1))), (s0, .inr (6, [.ref v0, .ref s1])), (s1, .inl (cI, 15, .inl row))]) (va_runV (As := [.ref ug1]) (rest := []) ⟨hx, hb, hml, hown, hts⟩ (c_X6_copyInto l D cI cC cG s0 s1 ug1 v0 row uR1 s.heap.size) (cwV 1 hts gX4_push_X6_copyInto rfl rfl rfl (by decide +kernel) ⟨Nat.le_of_ble_eq_true rfl, Nat.le_of_ble_eq_true rfl⟩) (q_preWV hK hP hD hN [4, 5, 3] (by decide) rfl rfl (ci := 6) (q0 := 4) rfl rfl) rfl rfl hl.1 rfl (lv_room (Nat.le_of_ble_eq_true rfl)) dX4_push_31 ⟨Nat.zero_le _, Nat.zero_le _⟩) hS hA hP hD [4, 5, 3] [0, 1, 2] rfl rfl (by decide) (by decide) [0, 1, 2, 5, 3, 4] (by decide) rfl rfl (fun H locs hP hD hS => ?_)
    refine lv_aload_n hx hb dX4_push_34 rfl (lv_at hl 0 rfl) ?_
    refine lv_dup hx hb dX4_push_35 rfl ?_
    refine va_get (D := D) (ci := 4) (v := .int uZ) (C := RX4) (T := TX4) (N := 2) hx hb hts hinX4 hown hK hP 0 rfl rfl 1 (by decide) hf7 (fun _ h9 => h9) rfl dX4_push_36 ?_
    refine lv_iconst (v := 1) hx hb dX4_push_39 (by decide) ?_
    refine lv_iadd hx hb dX4_push_40 ?_
    refine va_put (D := D) (ci := 4) (v := .int (uZ + 1)) (ty := .int) (C := RX4) (T := TX4) (N := 2) hx hb hts hinX4 tyX4 tyX4_ok nmX4 hown hK hP hD hS 0 rfl rfl 1 (by decide) hf7 (fun _ h9 => h9) rfl (by decide +kernel) rfl rfl (Nat.le_of_ble_eq_true rfl) dX4_push_41 (fun H locs hP hD hS => ?_)
    have hP : va_P D vwCl [(u0, .inr (4, [.ref u1, .int (uZ + 1)])), (u1, .inl (cG, 2, .inr (.inr (.inr (.inr (q_g [ug0, ug1])))))), (ug0, .inl (cI, 15, .inl uR0)), (ug1, .inl (cI, 15, .inl (g_X6_copyInto_cel row uR1))), (s0, .inr (6, [.ref v0, .ref s1])), (s1, .inl (cI, 15, .inl row))] H := hP
    have hD : va_D (va_A (wU2s cI cC cG u0 u1 ug0 ug1 s0 s1 v0 uZ uR0 uR1 row) sz) [(u0, .inr (4, [.ref u1, .int (uZ + 1)])), (u1, .inl (cG, 2, .inr (.inr (.inr (.inr (q_g [ug0, ug1])))))), (ug0, .inl (cI, 15, .inl uR0)), (ug1, .inl (cI, 15, .inl (g_X6_copyInto_cel row uR1))), (s0, .inr (6, [.ref v0, .ref s1])), (s1, .inl (cI, 15, .inl row))] := hD
    refine lv_iconst (v := 1) hx hb dX4_push_44 (by decide) ?_
    have e_11 : (g_X4_push2_uZ uZ) = (uZ + 1) := by simp only [g_X4_push2_uZ, if_neg c_1, if_pos c_5, if_neg c_6]
    have e_12 : (g_X4_push2_uR0 uZ uR0 row) = uR0 := by simp only [g_X4_push2_uR0, if_neg c_1, if_pos c_5, if_neg c_6]
    have e_13 : (g_X4_push2_uR1 uZ uR1 row) = (g_X6_copyInto_cel row uR1) := by simp only [g_X4_push2_uR1, if_neg c_1, if_pos c_5, if_neg c_6]
    exact rw_zret hx hb hr (by rfl) hlocks hP hD hS (by simp only [f_X4_push2, if_neg c_1, if_pos c_5, if_neg c_6]) (by rw [e_11, e_12, e_13]) dX4_push_45
  refine lv_iconst (v := 0) hx hb dX4_push_19 (by decide) ?_
  have e_14 : (g_X4_push2_uZ uZ) = uZ := by simp only [g_X4_push2_uZ, if_neg c_1, if_neg c_5]
  have e_15 : (g_X4_push2_uR0 uZ uR0 row) = uR0 := by simp only [g_X4_push2_uR0, if_neg c_1, if_neg c_5]
  have e_16 : (g_X4_push2_uR1 uZ uR1 row) = uR1 := by simp only [g_X4_push2_uR1, if_neg c_1, if_neg c_5]
  exact rw_zret hx hb hr (by rfl) hlocks hP hD hS (by simp only [f_X4_push2, if_neg c_1, if_neg c_5]) (by rw [e_14, e_15, e_16]) dX4_push_20
def f_X4_pop2 (uZ : Int32) : Int32 := (if uZ ≤ 0 then 0 else (if uZ ≤ 2 then 1 else 0))
def g_X4_pop2_uZ (uZ : Int32) : Int32 := (if uZ ≤ 0 then uZ else (if uZ ≤ 2 then (uZ - 1) else uZ))
def g_X4_pop2_row (uZ : Int32) (uR0 : Nat → Int32) (uR1 : Nat → Int32) (row : Nat → Int32) : Nat → Int32 := (if uZ ≤ 0 then row else (if uZ ≤ 2 then (if (uZ - 1) = 0 then (g_X6_copyFrom_row row uR0) else (g_X6_copyFrom_row row uR1)) else row))
abbrev rm_X4_pop2 : Room := { frames := 1, cells := 0, slots := 0, locals := 22 }
set_option maxRecDepth 100000 in
set_option maxHeartbeats 4000000 in
theorem c_X4_pop2 (l : Launch) (D : va_G) (cI cC cG : ClassId) (u0 : Nat) (u1 : Nat) (ug0 : Nat) (ug1 : Nat) (s0 : Nat) (s1 : Nat) (v0 : Nat) (uZ : Int32) (uR0 : Nat → Int32) (uR1 : Nat → Int32) (row : Nat → Int32) (sz : Nat) : RwI l yX4_pop wsX4_pop rm_X4_pop2 D (q_t cI cC cG) (wU2s cI cC cG u0 u1 ug0 ug1 s0 s1 v0 uZ uR0 uR1 row) (wU2s cI cC cG u0 u1 ug0 ug1 s0 s1 v0 (g_X4_pop2_uZ uZ) uR0 uR1 (g_X4_pop2_row uZ uR0 uR1 row)) sz [.ref u0, .ref s0] (f_X4_pop2 uZ) := by
  refine rw_enter (cc := cX4_pop) (maxL := 2) (ret := (some .boolean)) (by decide) rfl (Nat.le_of_ble_eq_true rfl) ?_
  intro p e s m below meth c ls B hP hK hD hS hA hl
  obtain ⟨hx, hb, hr, hlocks, hml, hown, hts, hN⟩ := B
  have hown : s.vm.findClass RX4 = some m.cls := hown
  have hl : lv_has ls 2 [(0, .ref u0), (1, .ref s0)] := hl
  have hf7 := hts (.fieldLink RX4 7 "OlderByABlush$Shelf" "height" "I") (by decide +kernel)
  have hinX4 : ∀ w ∈ u_ws RX4 TX4 2, w ∈ wsX4_pop := by decide +kernel
  have hf17 := hts (.fieldLink RX4 17 "OlderByABlush$Shelf" "rows" "[[I") (by decide +kernel)
  refine lv_aload_n hx hb dX4_pop_0 rfl (lv_at hl 0 rfl) ?_
  refine va_get (D := D) (ci := 4) (v := .int uZ) (C := RX4) (T := TX4) (N := 2) hx hb hts hinX4 hown hK hP 0 rfl rfl 1 (by decide) hf7 (fun _ h9 => h9) rfl dX4_pop_1 ?_
  refine lv_if_le (tgt := 19) hx hb dX4_pop_4 (by decide) (fun c_1 => ?_) (fun c_1 => ?_)
  · refine lv_iconst (v := 0) hx hb dX4_pop_19 (by decide) ?_
    have e_2 : (g_X4_pop2_uZ uZ) = uZ := by simp only [g_X4_pop2_uZ, if_pos c_1]
    have e_3 : (g_X4_pop2_row uZ uR0 uR1 row) = row := by simp only [g_X4_pop2_row, if_pos c_1]
    exact rw_zret hx hb hr (by rfl) hlocks hP hD hS (by simp only [f_X4_pop2, if_pos c_1]) (by rw [e_2, e_3]) dX4_pop_20
  refine lv_aload_n hx hb dX4_pop_7 rfl (lv_at hl 0 rfl) ?_
  refine va_get (D := D) (ci := 4) (v := .int uZ) (C := RX4) (T := TX4) (N := 2) hx hb hts hinX4 hown hK hP 0 rfl rfl 1 (by decide) hf7 (fun _ h9 => h9) rfl dX4_pop_8 ?_
  refine lv_aload_n hx hb dX4_pop_11 rfl (lv_at hl 0 rfl) ?_
  refine va_get (D := D) (ci := 4) (v := .ref u1) (C := RX4) (T := TX4) (N := 2) hx hb hts hinX4 hown hK hP 0 rfl rfl 0 (by decide) hf17 (fun _ h9 => h9) rfl dX4_pop_12 ?_
  refine va_alen (v := 2) hx hb hK hP 1 2 rfl rfl rfl dX4_pop_15 ?_
  refine lv_icmp_le (tgt := 21) hx hb dX4_pop_16 (by decide) (fun c_4 => ?_) (fun c_4 => ?_)
  · refine lv_aload_n hx hb dX4_pop_21 rfl (lv_at hl 0 rfl) ?_
    refine lv_dup hx hb dX4_pop_22 rfl ?_
    refine va_get (D := D) (ci := 4) (v := .int uZ) (C := RX4) (T := TX4) (N := 2) hx hb hts hinX4 hown hK hP 0 rfl rfl 1 (by decide) hf7 (fun _ h9 => h9) rfl dX4_pop_23 ?_
    refine lv_iconst (v := 1) hx hb dX4_pop_26 (by decide) ?_
    refine lv_isub hx hb dX4_pop_27 ?_
    refine va_put (D := D) (ci := 4) (v := .int (uZ - 1)) (ty := .int) (C := RX4) (T := TX4) (N := 2) hx hb hts hinX4 tyX4 tyX4_ok nmX4 hown hK hP hD hS 0 rfl rfl 1 (by decide) hf7 (fun _ h9 => h9) rfl (by decide +kernel) rfl rfl (Nat.le_of_ble_eq_true rfl) dX4_pop_28 (fun H locs hP hD hS => ?_)
    have hP : va_P D vwCl [(u0, .inr (4, [.ref u1, .int (uZ - 1)])), (u1, .inl (cG, 2, .inr (.inr (.inr (.inr (q_g [ug0, ug1])))))), (ug0, .inl (cI, 15, .inl uR0)), (ug1, .inl (cI, 15, .inl uR1)), (s0, .inr (6, [.ref v0, .ref s1])), (s1, .inl (cI, 15, .inl row))] H := hP
    have hD : va_D (va_A (wU2s cI cC cG u0 u1 ug0 ug1 s0 s1 v0 uZ uR0 uR1 row) sz) [(u0, .inr (4, [.ref u1, .int (uZ - 1)])), (u1, .inl (cG, 2, .inr (.inr (.inr (.inr (q_g [ug0, ug1])))))), (ug0, .inl (cI, 15, .inl uR0)), (ug1, .inl (cI, 15, .inl uR1)), (s0, .inr (6, [.ref v0, .ref s1])), (s1, .inl (cI, 15, .inl row))] := hD
    refine lv_aload_n hx hb dX4_pop_31 rfl (lv_at hl 1 rfl) ?_
    refine lv_aload_n hx hb dX4_pop_32 rfl (lv_at hl 0 rfl) ?_
    refine va_get (D := D) (ci := 4) (v := .ref u1) (C := RX4) (T := TX4) (N := 2) hx hb hts hinX4 hown hK hP 0 rfl rfl 0 (by decide) hf17 (fun _ h9 => h9) rfl dX4_pop_33 ?_
    refine lv_aload_n hx hb dX4_pop_36 rfl (lv_at hl 0 rfl) ?_
    refine va_get (D := D) (ci := 4) (v := .int (uZ - 1)) (C := RX4) (T := TX4) (N := 2) hx hb hts hinX4 hown hK hP 0 rfl rfl 1 (by decide) hf7 (fun _ h9 => h9) rfl dX4_pop_37 ?_
    have hin40 : vp_in (uZ - 1) 2 := (in_pop (n := 2) c_1 c_4 (by decide))
    by_cases c_5 : (uZ - 1) = 0
    · refine q_aald hx hb hK hP 1 2 rfl rfl hin40 0 (by rw [c_5]; decide) rfl dX4_pop_40 ?_
      refine rw_v (wr := [(u0, .inr (4, [.ref u1, .int (uZ - 1)])), (u1, .inl (cG, 2, .inr (.inr (.inr (.inr (q_g [ug0, ug1])))))), (ug1, .inl (cI, 15, .inl uR1))]) (ws2 := [(u0, .inr (4, [.ref u1, .int (uZ - 1)])), (u1, .inl (cG, 2, .inr (.inr (.inr (.inr (q_g [ug0, ug1])))))), (ug0, .inl (cI, 15, .inl uR0)), (ug1, .inl (cI, 15, .inl uR1)), (s0, .inr (6, [.ref v0, .ref s1])), (s1, .inl (cI, 15, .inl (g_X6_copyFrom_row row uR0)))]) (va_runV (As := [.ref ug0]) (rest := []) ⟨hx, hb, hml, hown, hts⟩ (c_X6_copyFrom l D cI cC cG s0 s1 ug0 v0 row uR0 H.size) (cwV 1 hts gX4_pop_X6_copyFrom rfl rfl rfl (by decide +kernel) ⟨Nat.le_of_ble_eq_true rfl, Nat.le_of_ble_eq_true rfl⟩) (q_preWV hK hP hD hN [4, 5, 2] (by decide) rfl rfl (ci := 6) (q0 := 4) rfl rfl) rfl rfl hl.1 rfl (lv_room (Nat.le_of_ble_eq_true rfl)) dX4_pop_41 ⟨Nat.zero_le _, Nat.zero_le _⟩) hS hA hP hD [4, 5, 2] [0, 1, 3] rfl rfl (by decide) (by decide) [0, 1, 5, 2, 3, 4] (by decide) rfl rfl (fun H locs hP hD hS => ?_)
      refine lv_iconst (v := 1) hx hb dX4_pop_44 (by decide) ?_
      have e_6 : (g_X4_pop2_uZ uZ) = (uZ - 1) := by simp only [g_X4_pop2_uZ, if_neg c_1, if_pos c_4, if_pos c_5]
      have e_7 : (g_X4_pop2_row uZ uR0 uR1 row) = (g_X6_copyFrom_row row uR0) := by simp only [g_X4_pop2_row, if_neg c_1, if_pos c_4, if_pos c_5]
      exact rw_zret hx hb hr (by rfl) hlocks hP hD hS (by simp only [f_X4_pop2, if_neg c_1, if_pos c_4, if_pos c_5]) (by rw [e_6, e_7]) dX4_pop_45
    have c_8 : (uZ - 1) = 1 := last2 hin40 c_5
    refine q_aald hx hb hK hP 1 2 rfl rfl hin40 1 (by rw [c_8]; decide) rfl dX4_pop_40 ?_
    refine rw_v (wr := [(u0, .inr (4, [.ref u1, .int (uZ - 1)])), (u1, .inl (cG, 2, .inr (.inr (.inr (.inr (q_g [ug0, ug1])))))), (ug0, .inl (cI, 15, .inl uR0))]) (ws2 := [(u0, .inr (4, [.ref u1, .int (uZ - 1)])), (u1, .inl (cG, 2, .inr (.inr (.inr (.inr (q_g [ug0, ug1])))))), (ug0, .inl (cI, 15, .inl uR0)), (ug1, .inl (cI, 15, .inl uR1)), (s0, .inr (6, [.ref v0, .ref s1])), (s1, .inl (cI, 15, .inl (g_X6_copyFrom_row row uR1)))]) (va_runV (As := [.ref ug1]) (rest := []) ⟨hx, hb, hml, hown, hts⟩ (c_X6_copyFrom l D cI cC cG s0 s1 ug1 v0 row uR1 H.size) (cwV 1 hts gX4_pop_X6_copyFrom rfl rfl rfl (by decide +kernel) ⟨Nat.le_of_ble_eq_true rfl, Nat.le_of_ble_eq_true rfl⟩) (q_preWV hK hP hD hN [4, 5, 3] (by decide) rfl rfl (ci := 6) (q0 := 4) rfl rfl) rfl rfl hl.1 rfl (lv_room (Nat.le_of_ble_eq_true rfl)) dX4_pop_41 ⟨Nat.zero_le _, Nat.zero_le _⟩) hS hA hP hD [4, 5, 3] [0, 1, 2] rfl rfl (by decide) (by decide) [0, 1, 2, 5, 3, 4] (by decide) rfl rfl (fun H locs hP hD hS => ?_)
    refine lv_iconst (v := 1) hx hb dX4_pop_44 (by decide) ?_
    have e_9 : (g_X4_pop2_uZ uZ) = (uZ - 1) := by simp only [g_X4_pop2_uZ, if_neg c_1, if_pos c_4, if_neg c_5]
    have e_10 : (g_X4_pop2_row uZ uR0 uR1 row) = (g_X6_copyFrom_row row uR1) := by simp only [g_X4_pop2_row, if_neg c_1, if_pos c_4, if_neg c_5]
    exact rw_zret hx hb hr (by rfl) hlocks hP hD hS (by simp only [f_X4_pop2, if_neg c_1, if_pos c_4, if_neg c_5]) (by rw [e_9, e_10]) dX4_pop_45
  refine lv_iconst (v := 0) hx hb dX4_pop_19 (by decide) ?_
  have e_11 : (g_X4_pop2_uZ uZ) = uZ := by simp only [g_X4_pop2_uZ, if_neg c_1, if_neg c_4]
  have e_12 : (g_X4_pop2_row uZ uR0 uR1 row) = row := by simp only [g_X4_pop2_row, if_neg c_1, if_neg c_4]
  exact rw_zret hx hb hr (by rfl) hlocks hP hD hS (by simp only [f_X4_pop2, if_neg c_1, if_neg c_4]) (by rw [e_11, e_12]) dX4_pop_20
def g_X4_pushDroppingOldest8_uZ (uZ : Int32) : Int32 := (if uZ < 8 then (g_X4_push8_uZ uZ) else (g_X4_push8_uZ (8 - 1)))
def g_X4_pushDroppingOldest8_uR0 (uZ : Int32) (uR0 : Nat → Int32) (uR1 : Nat → Int32) (row : Nat → Int32) : Nat → Int32 := (if uZ < 8 then (g_X4_push8_uR0 uZ uR0 row) else (g_X4_push8_uR0 (8 - 1) (va_cpy uR1 uR0 0 0 15) row))
def g_X4_pushDroppingOldest8_uR1 (uZ : Int32) (uR1 : Nat → Int32) (uR2 : Nat → Int32) (row : Nat → Int32) : Nat → Int32 := (if uZ < 8 then (g_X4_push8_uR1 uZ uR1 row) else (g_X4_push8_uR1 (8 - 1) (va_cpy uR2 uR1 0 0 15) row))
def g_X4_pushDroppingOldest8_uR2 (uZ : Int32) (uR2 : Nat → Int32) (uR3 : Nat → Int32) (row : Nat → Int32) : Nat → Int32 := (if uZ < 8 then (g_X4_push8_uR2 uZ uR2 row) else (g_X4_push8_uR2 (8 - 1) (va_cpy uR3 uR2 0 0 15) row))
def g_X4_pushDroppingOldest8_uR3 (uZ : Int32) (uR3 : Nat → Int32) (uR4 : Nat → Int32) (row : Nat → Int32) : Nat → Int32 := (if uZ < 8 then (g_X4_push8_uR3 uZ uR3 row) else (g_X4_push8_uR3 (8 - 1) (va_cpy uR4 uR3 0 0 15) row))
def g_X4_pushDroppingOldest8_uR4 (uZ : Int32) (uR4 : Nat → Int32) (uR5 : Nat → Int32) (row : Nat → Int32) : Nat → Int32 := (if uZ < 8 then (g_X4_push8_uR4 uZ uR4 row) else (g_X4_push8_uR4 (8 - 1) (va_cpy uR5 uR4 0 0 15) row))
def g_X4_pushDroppingOldest8_uR5 (uZ : Int32) (uR5 : Nat → Int32) (uR6 : Nat → Int32) (row : Nat → Int32) : Nat → Int32 := (if uZ < 8 then (g_X4_push8_uR5 uZ uR5 row) else (g_X4_push8_uR5 (8 - 1) (va_cpy uR6 uR5 0 0 15) row))
def g_X4_pushDroppingOldest8_uR6 (uZ : Int32) (uR6 : Nat → Int32) (uR7 : Nat → Int32) (row : Nat → Int32) : Nat → Int32 := (if uZ < 8 then (g_X4_push8_uR6 uZ uR6 row) else (g_X4_push8_uR6 (8 - 1) (va_cpy uR7 uR6 0 0 15) row))
def g_X4_pushDroppingOldest8_uR7 (uZ : Int32) (uR7 : Nat → Int32) (row : Nat → Int32) : Nat → Int32 := (if uZ < 8 then (g_X4_push8_uR7 uZ uR7 row) else (g_X4_push8_uR7 (8 - 1) uR7 row))
abbrev rm_X4_pushDroppingOldest8 : Room := { frames := 2, cells := 0, slots := 0, locals := 43 }
set_option maxRecDepth 100000 in
set_option maxHeartbeats 4000000 in
theorem c_X4_pushDroppingOldest8 (l : Launch) (D : va_G) (cI cC cG : ClassId) (u0 : Nat) (u1 : Nat) (ug0 : Nat) (ug1 : Nat) (ug2 : Nat) (ug3 : Nat) (ug4 : Nat) (ug5 : Nat) (ug6 : Nat) (ug7 : Nat) (s0 : Nat) (s1 : Nat) (v0 : Nat) (uZ : Int32) (uR0 : Nat → Int32) (uR1 : Nat → Int32) (uR2 : Nat → Int32) (uR3 : Nat → Int32) (uR4 : Nat → Int32) (uR5 : Nat → Int32) (uR6 : Nat → Int32) (uR7 : Nat → Int32) (row : Nat → Int32) (sz : Nat) : RwV l yX4_pushDroppingOldest wsX4_pushDroppingOldest rm_X4_pushDroppingOldest8 D (q_t cI cC cG) (wU8s cI cC cG u0 u1 ug0 ug1 ug2 ug3 ug4 ug5 ug6 ug7 s0 s1 v0 uZ uR0 uR1 uR2 uR3 uR4 uR5 uR6 uR7 row) (wU8s cI cC cG u0 u1 ug0 ug1 ug2 ug3 ug4 ug5 ug6 ug7 s0 s1 v0 (g_X4_pushDroppingOldest8_uZ uZ) (g_X4_pushDroppingOldest8_uR0 uZ uR0 uR1 row) (g_X4_pushDroppingOldest8_uR1 uZ uR1 uR2 row) (g_X4_pushDroppingOldest8_uR2 uZ uR2 uR3 row) (g_X4_pushDroppingOldest8_uR3 uZ uR3 uR4 row) (g_X4_pushDroppingOldest8_uR4 uZ uR4 uR5 row) (g_X4_pushDroppingOldest8_uR5 uZ uR5 uR6 row) (g_X4_pushDroppingOldest8_uR6 uZ uR6 uR7 row) (g_X4_pushDroppingOldest8_uR7 uZ uR7 row) row) sz [.ref u0, .ref s0] := by
  refine rw_enter (cc := cX4_pushDroppingOldest) (maxL := 3) (ret := none) (by decide) rfl (Nat.le_of_ble_eq_true rfl) ?_
  intro p e s m below meth c ls B hP hK hD hS hA hl
  obtain ⟨hx, hb, hr, hlocks, hml, hown, hts, hN⟩ := B
  have hown : s.vm.findClass RX4 = some m.cls := hown
  have hl : lv_has ls 3 [(0, .ref u0), (1, .ref s0)] := hl
  have hf7 := hts (.fieldLink RX4 7 "OlderByABlush$Shelf" "height" "I") (by decide +kernel)
  have hinX4 : ∀ w ∈ u_ws RX4 TX4 2, w ∈ wsX4_pushDroppingOldest := by decide +kernel
  have hf17 := hts (.fieldLink RX4 17 "OlderByABlush$Shelf" "rows" "[[I") (by decide +kernel)
  have hac24 := hts (.methodLink RX4 24 arraycopyName) (by decide +kernel)
  have hacn := hts (.native arraycopyName) (by decide +kernel)
  have hacs := hts (.static arraycopyName) (by decide +kernel)
  have haci := hts (.initialized "java/lang/System") (by decide +kernel)
  refine lv_aload_n hx hb dX4_pushDroppingOldest_0 rfl (lv_at hl 0 rfl) ?_
  refine va_get (D := D) (ci := 4) (v := .int uZ) (C := RX4) (T := TX4) (N := 2) hx hb hts hinX4 hown hK hP 0 rfl rfl 1 (by decide) hf7 (fun _ h9 => h9) rfl dX4_pushDroppingOldest_1 ?_
  refine lv_aload_n hx hb dX4_pushDroppingOldest_4 rfl (lv_at hl 0 rfl) ?_
  refine va_get (D := D) (ci := 4) (v := .ref u1) (C := RX4) (T := TX4) (N := 2) hx hb hts hinX4 hown hK hP 0 rfl rfl 0 (by decide) hf17 (fun _ h9 => h9) rfl dX4_pushDroppingOldest_5 ?_
  refine va_alen (v := 8) hx hb hK hP 1 2 rfl rfl rfl dX4_pushDroppingOldest_8 ?_
  refine lv_icmp_lt (tgt := 61) hx hb dX4_pushDroppingOldest_9 (by decide) (fun c_1 => ?_) (fun c_1 => ?_)
  · refine lv_aload_n hx hb dX4_pushDroppingOldest_61 rfl (lv_at hl 0 rfl) ?_
    refine lv_aload_n hx hb dX4_pushDroppingOldest_62 rfl (lv_at hl 1 rfl) ?_
    refine rw_i0 (va_runV (As := [.ref s0]) (rest := []) ⟨hx, hb, hml, hown, hts⟩ (c_X4_push8 l D cI cC cG u0 u1 ug0 ug1 ug2 ug3 ug4 ug5 ug6 ug7 s0 s1 v0 uZ uR0 uR1 uR2 uR3 uR4 uR5 uR6 uR7 row s.heap.size) (cwV 1 hts gX4_pushDroppingOldest_X4_push rfl rfl rfl (by decide +kernel) ⟨Nat.le_of_ble_eq_true rfl, Nat.le_of_ble_eq_true rfl⟩) (q_preWV hK hP hD hN [0, 1, 2, 3, 4, 5, 6, 7, 8, 9, 10, 11] (by decide) rfl rfl (ci := 4) (q0 := 0) rfl rfl) rfl rfl hl.1 rfl (lv_room (Nat.le_of_ble_eq_true rfl)) dX4_pushDroppingOldest_63 ⟨Nat.zero_le _, Nat.zero_le _⟩) hS hA hD (fun H locs hP hD hS => ?_)
    have hP : va_P D vwCl [(u0, .inr (4, [.ref u1, .int (g_X4_push8_uZ uZ)])), (u1, .inl (cG, 8, .inr (.inr (.inr (.inr (q_g [ug0, ug1, ug2, ug3, ug4, ug5, ug6, ug7])))))), (ug0, .inl (cI, 15, .inl (g_X4_push8_uR0 uZ uR0 row))), (ug1, .inl (cI, 15, .inl (g_X4_push8_uR1 uZ uR1 row))), (ug2, .inl (cI, 15, .inl (g_X4_push8_uR2 uZ uR2 row))), (ug3, .inl (cI, 15, .inl (g_X4_push8_uR3 uZ uR3 row))), (ug4, .inl (cI, 15, .inl (g_X4_push8_uR4 uZ uR4 row))), (ug5, .inl (cI, 15, .inl (g_X4_push8_uR5 uZ uR5 row))), (ug6, .inl (cI, 15, .inl (g_X4_push8_uR6 uZ uR6 row))), (ug7, .inl (cI, 15, .inl (g_X4_push8_uR7 uZ uR7 row))), (s0, .inr (6, [.ref v0, .ref s1])), (s1, .inl (cI, 15, .inl row))] H := hP
    have hD : va_D (va_A (wU8s cI cC cG u0 u1 ug0 ug1 ug2 ug3 ug4 ug5 ug6 ug7 s0 s1 v0 uZ uR0 uR1 uR2 uR3 uR4 uR5 uR6 uR7 row) sz) [(u0, .inr (4, [.ref u1, .int (g_X4_push8_uZ uZ)])), (u1, .inl (cG, 8, .inr (.inr (.inr (.inr (q_g [ug0, ug1, ug2, ug3, ug4, ug5, ug6, ug7])))))), (ug0, .inl (cI, 15, .inl (g_X4_push8_uR0 uZ uR0 row))), (ug1, .inl (cI, 15, .inl (g_X4_push8_uR1 uZ uR1 row))), (ug2, .inl (cI, 15, .inl (g_X4_push8_uR2 uZ uR2 row))), (ug3, .inl (cI, 15, .inl (g_X4_push8_uR3 uZ uR3 row))), (ug4, .inl (cI, 15, .inl (g_X4_push8_uR4 uZ uR4 row))), (ug5, .inl (cI, 15, .inl (g_X4_push8_uR5 uZ uR5 row))), (ug6, .inl (cI, 15, .inl (g_X4_push8_uR6 uZ uR6 row))), (ug7, .inl (cI, 15, .inl (g_X4_push8_uR7 uZ uR7 row))), (s0, .inr (6, [.ref v0, .ref s1])), (s1, .inl (cI, 15, .inl row))] := hD
    refine lv_pop hx hb dX4_pushDroppingOldest_66 rfl ?_
    have e_2 : (g_X4_pushDroppingOldest8_uZ uZ) = (g_X4_push8_uZ uZ) := by simp only [g_X4_pushDroppingOldest8_uZ, if_pos c_1]
    have e_3 : (g_X4_pushDroppingOldest8_uR0 uZ uR0 uR1 row) = (g_X4_push8_uR0 uZ uR0 row) := by simp only [g_X4_pushDroppingOldest8_uR0, if_pos c_1]
    have e_4 : (g_X4_pushDroppingOldest8_uR1 uZ uR1 uR2 row) = (g_X4_push8_uR1 uZ uR1 row) := by simp only [g_X4_pushDroppingOldest8_uR1, if_pos c_1]
    have e_5 : (g_X4_pushDroppingOldest8_uR2 uZ uR2 uR3 row) = (g_X4_push8_uR2 uZ uR2 row) := by simp only [g_X4_pushDroppingOldest8_uR2, if_pos c_1]
    have e_6 : (g_X4_pushDroppingOldest8_uR3 uZ uR3 uR4 row) = (g_X4_push8_uR3 uZ uR3 row) := by simp only [g_X4_pushDroppingOldest8_uR3, if_pos c_1]
    have e_7 : (g_X4_pushDroppingOldest8_uR4 uZ uR4 uR5 row) = (g_X4_push8_uR4 uZ uR4 row) := by simp only [g_X4_pushDroppingOldest8_uR4, if_pos c_1]
    have e_8 : (g_X4_pushDroppingOldest8_uR5 uZ uR5 uR6 row) = (g_X4_push8_uR5 uZ uR5 row) := by simp only [g_X4_pushDroppingOldest8_uR5, if_pos c_1]
    have e_9 : (g_X4_pushDroppingOldest8_uR6 uZ uR6 uR7 row) = (g_X4_push8_uR6 uZ uR6 row) := by simp only [g_X4_pushDroppingOldest8_uR6, if_pos c_1]
    have e_10 : (g_X4_pushDroppingOldest8_uR7 uZ uR7 row) = (g_X4_push8_uR7 uZ uR7 row) := by simp only [g_X4_pushDroppingOldest8_uR7, if_pos c_1]
    exact rw_vret hx hb hr hlocks hP hD hS (by rw [e_2, e_3, e_4, e_5, e_6, e_7, e_8, e_9, e_10]) dX4_pushDroppingOldest_67
  refine lv_iconst (v := 1) hx hb dX4_pushDroppingOldest_12 (by decide) ?_
  refine lv_istore_n (lv' := [(2, .int 1), (0, .ref u0), (1, .ref s0)]) hx hb dX4_pushDroppingOldest_13 rfl hl (by decide) rfl (fun ls hl => ?_)
  refine lv_iload_n hx hb dX4_pushDroppingOldest_14 rfl (lv_at hl 0 rfl) ?_
  refine lv_aload_n hx hb dX4_pushDroppingOldest_15 rfl (lv_at hl 1 rfl) ?_
  refine va_get (D := D) (ci := 4) (v := .ref u1) (C := RX4) (T := TX4) (N := 2) hx hb hts hinX4 hown hK hP 0 rfl rfl 0 (by decide) hf17 (fun _ h9 => h9) rfl dX4_pushDroppingOldest_16 ?_
  refine va_alen (v := 8) hx hb hK hP 1 2 rfl rfl rfl dX4_pushDroppingOldest_19 ?_
  refine lv_icmp_ge (tgt := 50) hx hb dX4_pushDroppingOldest_20 (by decide) (fun c_11 => ?_) (fun c_11 => ?_)
  · exact absurd c_11 (by decide : ¬ ((8 : Int32) ≤ 1))
  refine lv_aload_n hx hb dX4_pushDroppingOldest_23 rfl (lv_at hl 1 rfl) ?_
  refine va_get (D := D) (ci := 4) (v := .ref u1) (C := RX4) (T := TX4) (N := 2) hx hb hts hinX4 hown hK hP 0 rfl rfl 0 (by decide) hf17 (fun _ h9 => h9) rfl dX4_pushDroppingOldest_24 ?_
  refine lv_iload_n hx hb dX4_pushDroppingOldest_27 rfl (lv_at hl 0 rfl) ?_
  refine q_aald hx hb hK hP 1 2 rfl rfl (vp_in_iff.mpr (by decide)) 1 (by decide) rfl dX4_pushDroppingOldest_28 ?_
  refine lv_iconst (v := 0) hx hb dX4_pushDroppingOldest_29 (by decide) ?_
  refine lv_aload_n hx hb dX4_pushDroppingOldest_30 rfl (lv_at hl 1 rfl) ?_
  refine va_get (D := D) (ci := 4) (v := .ref u1) (C := RX4) (T := TX4) (N := 2) hx hb hts hinX4 hown hK hP 0 rfl rfl 0 (by decide) hf17 (fun _ h9 => h9) rfl dX4_pushDroppingOldest_31 ?_
  refine lv_iload_n hx hb dX4_pushDroppingOldest_34 rfl (lv_at hl 0 rfl) ?_
  refine lv_iconst (v := 1) hx hb dX4_pushDroppingOldest_35 (by decide) ?_
  refine lv_isub hx hb dX4_pushDroppingOldest_36 ?_
  refine q_aald hx hb hK hP 1 2 rfl rfl (vp_in_iff.mpr (by decide)) 0 (by decide) rfl dX4_pushDroppingOldest_37 ?_
  refine lv_iconst (v := 0) hx hb dX4_pushDroppingOldest_38 (by decide) ?_
  refine lv_bipush (v := 15) hx hb dX4_pushDroppingOldest_39 (by decide) ?_
  refine q_copyi (sp := 0) (dp := 0) (n := 15) hx hb (hml.trans hl.1.symm) hown hac24 hacn hacs haci hK hP hD hS 3 2 0 0 rfl rfl rfl rfl 0 0 15 (by decide) (by decide) (by decide) (by decide) (by decide) (by decide) (by decide) (by decide) (Nat.le_of_ble_eq_true rfl) (Nat.le_of_ble_eq_true rfl) dX4_pushDroppingOldest_41 (fun H locs hP hD hS => ?_)
  have hP : va_P D vwCl [(u0, .inr (4, [.ref u1, .int uZ])), (u1, .inl (cG, 8, .inr (.inr (.inr (.inr (q_g [ug0, ug1, ug2, ug3, ug4, ug5, ug6, ug7])))))), (ug0, .inl (cI, 15, .inl (va_cpy uR1 uR0 0 0 15))), (ug1, .inl (cI, 15, .inl uR1)), (ug2, .inl (cI, 15, .inl uR2)), (ug3, .inl (cI, 15, .inl uR3)), (ug4, .inl (cI, 15, .inl uR4)), (ug5, .inl (cI, 15, .inl uR5)), (ug6, .inl (cI, 15, .inl uR6)), (ug7, .inl (cI, 15, .inl uR7)), (s0, .inr (6, [.ref v0, .ref s1])), (s1, .inl (cI, 15, .inl row))] H := hP
  have hD : va_D (va_A (wU8s cI cC cG u0 u1 ug0 ug1 ug2 ug3 ug4 ug5 ug6 ug7 s0 s1 v0 uZ uR0 uR1 uR2 uR3 uR4 uR5 uR6 uR7 row) sz) [(u0, .inr (4, [.ref u1, .int uZ])), (u1, .inl (cG, 8, .inr (.inr (.inr (.inr (q_g [ug0, ug1, ug2, ug3, ug4, ug5, ug6, ug7])))))), (ug0, .inl (cI, 15, .inl (va_cpy uR1 uR0 0 0 15))), (ug1, .inl (cI, 15, .inl uR1)), (ug2, .inl (cI, 15, .inl uR2)), (ug3, .inl (cI, 15, .inl uR3)), (ug4, .inl (cI, 15, .inl uR4)), (ug5, .inl (cI, 15, .inl uR5)), (ug6, .inl (cI, 15, .inl uR6)), (ug7, .inl (cI, 15, .inl uR7)), (s0, .inr (6, [.ref v0, .ref s1])), (s1, .inl (cI, 15, .inl row))] := hD
  refine lv_iinc (v := 2) (lv' := [(2, .int 2), (0, .ref u0), (1, .ref s0)]) hx hb dX4_pushDroppingOldest_44 hl (k := 0) rfl (by decide) (by decide) rfl (fun ls hl => ?_)
  refine lv_goto (tgt := 14) hx hb dX4_pushDroppingOldest_47 (by decide) ?_
  refine lv_iload_n hx hb dX4_pushDroppingOldest_14 rfl (lv_at hl 0 rfl) ?_
  refine lv_aload_n hx hb dX4_pushDroppingOldest_15 rfl (lv_at hl 1 rfl) ?_
  refine va_get (D := D) (ci := 4) (v := .ref u1) (C := RX4) (T := TX4) (N := 2) hx hb hts hinX4 hown hK hP 0 rfl rfl 0 (by decide) hf17 (fun _ h9 => h9) rfl dX4_pushDroppingOldest_16 ?_
  refine va_alen (v := 8) hx hb hK hP 1 2 rfl rfl rfl dX4_pushDroppingOldest_19 ?_
  refine lv_icmp_ge (tgt := 50) hx hb dX4_pushDroppingOldest_20 (by decide) (fun c_12 => ?_) (fun c_12 => ?_)
  · exact absurd c_12 (by decide : ¬ ((8 : Int32) ≤ 2))
  refine lv_aload_n hx hb dX4_pushDroppingOldest_23 rfl (lv_at hl 1 rfl) ?_
  refine va_get (D := D) (ci := 4) (v := .ref u1) (C := RX4) (T := TX4) (N := 2) hx hb hts hinX4 hown hK hP 0 rfl rfl 0 (by decide) hf17 (fun _ h9 => h9) rfl dX4_pushDroppingOldest_24 ?_
  refine lv_iload_n hx hb dX4_pushDroppingOldest_27 rfl (lv_at hl 0 rfl) ?_
  refine q_aald hx hb hK hP 1 2 rfl rfl (vp_in_iff.mpr (by decide)) 2 (by decide) rfl dX4_pushDroppingOldest_28 ?_
  refine lv_iconst (v := 0) hx hb dX4_pushDroppingOldest_29 (by decide) ?_
  refine lv_aload_n hx hb dX4_pushDroppingOldest_30 rfl (lv_at hl 1 rfl) ?_
  refine va_get (D := D) (ci := 4) (v := .ref u1) (C := RX4) (T := TX4) (N := 2) hx hb hts hinX4 hown hK hP 0 rfl rfl 0 (by decide) hf17 (fun _ h9 => h9) rfl dX4_pushDroppingOldest_31 ?_
  refine lv_iload_n hx hb dX4_pushDroppingOldest_34 rfl (lv_at hl 0 rfl) ?_
  refine lv_iconst (v := 1) hx hb dX4_pushDroppingOldest_35 (by decide) ?_
  refine lv_isub hx hb dX4_pushDroppingOldest_36 ?_
  refine q_aald hx hb hK hP 1 2 rfl rfl (vp_in_iff.mpr (by decide)) 1 (by decide) rfl dX4_pushDroppingOldest_37 ?_
  refine lv_iconst (v := 0) hx hb dX4_pushDroppingOldest_38 (by decide) ?_
  refine lv_bipush (v := 15) hx hb dX4_pushDroppingOldest_39 (by decide) ?_
  refine q_copyi (sp := 0) (dp := 0) (n := 15) hx hb (hml.trans hl.1.symm) hown hac24 hacn hacs haci hK hP hD hS 4 3 0 0 rfl rfl rfl rfl 0 0 15 (by decide) (by decide) (by decide) (by decide) (by decide) (by decide) (by decide) (by decide) (Nat.le_of_ble_eq_true rfl) (Nat.le_of_ble_eq_true rfl) dX4_pushDroppingOldest_41 (fun H locs hP hD hS => ?_)
  have hP : va_P D vwCl [(u0, .inr (4, [.ref u1, .int uZ])), (u1, .inl (cG, 8, .inr (.inr (.inr (.inr (q_g [ug0, ug1, ug2, ug3, ug4, ug5, ug6, ug7])))))), (ug0, .inl (cI, 15, .inl (va_cpy uR1 uR0 0 0 15))), (ug1, .inl (cI, 15, .inl (va_cpy uR2 uR1 0 0 15))), (ug2, .inl (cI, 15, .inl uR2)), (ug3, .inl (cI, 15, .inl uR3)), (ug4, .inl (cI, 15, .inl uR4)), (ug5, .inl (cI, 15, .inl uR5)), (ug6, .inl (cI, 15, .inl uR6)), (ug7, .inl (cI, 15, .inl uR7)), (s0, .inr (6, [.ref v0, .ref s1])), (s1, .inl (cI, 15, .inl row))] H := hP
  have hD : va_D (va_A (wU8s cI cC cG u0 u1 ug0 ug1 ug2 ug3 ug4 ug5 ug6 ug7 s0 s1 v0 uZ uR0 uR1 uR2 uR3 uR4 uR5 uR6 uR7 row) sz) [(u0, .inr (4, [.ref u1, .int uZ])), (u1, .inl (cG, 8, .inr (.inr (.inr (.inr (q_g [ug0, ug1, ug2, ug3, ug4, ug5, ug6, ug7])))))), (ug0, .inl (cI, 15, .inl (va_cpy uR1 uR0 0 0 15))), (ug1, .inl (cI, 15, .inl (va_cpy uR2 uR1 0 0 15))), (ug2, .inl (cI, 15, .inl uR2)), (ug3, .inl (cI, 15, .inl uR3)), (ug4, .inl (cI, 15, .inl uR4)), (ug5, .inl (cI, 15, .inl uR5)), (ug6, .inl (cI, 15, .inl uR6)), (ug7, .inl (cI, 15, .inl uR7)), (s0, .inr (6, [.ref v0, .ref s1])), (s1, .inl (cI, 15, .inl row))] := hD
  refine lv_iinc (v := 3) (lv' := [(2, .int 3), (0, .ref u0), (1, .ref s0)]) hx hb dX4_pushDroppingOldest_44 hl (k := 0) rfl (by decide) (by decide) rfl (fun ls hl => ?_)
  refine lv_goto (tgt := 14) hx hb dX4_pushDroppingOldest_47 (by decide) ?_
  refine lv_iload_n hx hb dX4_pushDroppingOldest_14 rfl (lv_at hl 0 rfl) ?_
  refine lv_aload_n hx hb dX4_pushDroppingOldest_15 rfl (lv_at hl 1 rfl) ?_
  refine va_get (D := D) (ci := 4) (v := .ref u1) (C := RX4) (T := TX4) (N := 2) hx hb hts hinX4 hown hK hP 0 rfl rfl 0 (by decide) hf17 (fun _ h9 => h9) rfl dX4_pushDroppingOldest_16 ?_
  refine va_alen (v := 8) hx hb hK hP 1 2 rfl rfl rfl dX4_pushDroppingOldest_19 ?_
  refine lv_icmp_ge (tgt := 50) hx hb dX4_pushDroppingOldest_20 (by decide) (fun c_13 => ?_) (fun c_13 => ?_)
  · exact absurd c_13 (by decide : ¬ ((8 : Int32) ≤ 3))
  refine lv_aload_n hx hb dX4_pushDroppingOldest_23 rfl (lv_at hl 1 rfl) ?_
  refine va_get (D := D) (ci := 4) (v := .ref u1) (C := RX4) (T := TX4) (N := 2) hx hb hts hinX4 hown hK hP 0 rfl rfl 0 (by decide) hf17 (fun _ h9 => h9) rfl dX4_pushDroppingOldest_24 ?_
  refine lv_iload_n hx hb dX4_pushDroppingOldest_27 rfl (lv_at hl 0 rfl) ?_
  refine q_aald hx hb hK hP 1 2 rfl rfl (vp_in_iff.mpr (by decide)) 3 (by decide) rfl dX4_pushDroppingOldest_28 ?_
  refine lv_iconst (v := 0) hx hb dX4_pushDroppingOldest_29 (by decide) ?_
  refine lv_aload_n hx hb dX4_pushDroppingOldest_30 rfl (lv_at hl 1 rfl) ?_
  refine va_get (D := D) (ci := 4) (v := .ref u1) (C := RX4) (T := TX4) (N := 2) hx hb hts hinX4 hown hK hP 0 rfl rfl 0 (by decide) hf17 (fun _ h9 => h9) rfl dX4_pushDroppingOldest_31 ?_
  refine lv_iload_n hx hb dX4_pushDroppingOldest_34 rfl (lv_at hl 0 rfl) ?_
  refine lv_iconst (v := 1) hx hb dX4_pushDroppingOldest_35 (by decide) ?_
  refine lv_isub hx hb dX4_pushDroppingOldest_36 ?_
  refine q_aald hx hb hK hP 1 2 rfl rfl (vp_in_iff.mpr (by decide)) 2 (by decide) rfl dX4_pushDroppingOldest_37 ?_
  refine lv_iconst (v := 0) hx hb dX4_pushDroppingOldest_38 (by decide) ?_
  refine lv_bipush (v := 15) hx hb dX4_pushDroppingOldest_39 (by decide) ?_
  refine q_copyi (sp := 0) (dp := 0) (n := 15) hx hb (hml.trans hl.1.symm) hown hac24 hacn hacs haci hK hP hD hS 5 4 0 0 rfl rfl rfl rfl 0 0 15 (by decide) (by decide) (by decide) (by decide) (by decide) (by decide) (by decide) (by decide) (Nat.le_of_ble_eq_true rfl) (Nat.le_of_ble_eq_true rfl) dX4_pushDroppingOldest_41 (fun H locs hP hD hS => ?_)
  have hP : va_P D vwCl [(u0, .inr (4, [.ref u1, .int uZ])), (u1, .inl (cG, 8, .inr (.inr (.inr (.inr (q_g [ug0, ug1, ug2, ug3, ug4, ug5, ug6, ug7])))))), (ug0, .inl (cI, 15, .inl (va_cpy uR1 uR0 0 0 15))), (ug1, .inl (cI, 15, .inl (va_cpy uR2 uR1 0 0 15))), (ug2, .inl (cI, 15, .inl (va_cpy uR3 uR2 0 0 15))), (ug3, .inl (cI, 15, .inl uR3)), (ug4, .inl (cI, 15, .inl uR4)), (ug5, .inl (cI, 15, .inl uR5)), (ug6, .inl (cI, 15, .inl uR6)), (ug7, .inl (cI, 15, .inl uR7)), (s0, .inr (6, [.ref v0, .ref s1])), (s1, .inl (cI, 15, .inl row))] H := hP
  have hD : va_D (va_A (wU8s cI cC cG u0 u1 ug0 ug1 ug2 ug3 ug4 ug5 ug6 ug7 s0 s1 v0 uZ uR0 uR1 uR2 uR3 uR4 uR5 uR6 uR7 row) sz) [(u0, .inr (4, [.ref u1, .int uZ])), (u1, .inl (cG, 8, .inr (.inr (.inr (.inr (q_g [ug0, ug1, ug2, ug3, ug4, ug5, ug6, ug7])))))), (ug0, .inl (cI, 15, .inl (va_cpy uR1 uR0 0 0 15))), (ug1, .inl (cI, 15, .inl (va_cpy uR2 uR1 0 0 15))), (ug2, .inl (cI, 15, .inl (va_cpy uR3 uR2 0 0 15))), (ug3, .inl (cI, 15, .inl uR3)), (ug4, .inl (cI, 15, .inl uR4)), (ug5, .inl (cI, 15, .inl uR5)), (ug6, .inl (cI, 15, .inl uR6)), (ug7, .inl (cI, 15, .inl uR7)), (s0, .inr (6, [.ref v0, .ref s1])), (s1, .inl (cI, 15, .inl row))] := hD
  refine lv_iinc (v := 4) (lv' := [(2, .int 4), (0, .ref u0), (1, .ref s0)]) hx hb dX4_pushDroppingOldest_44 hl (k := 0) rfl (by decide) (by decide) rfl (fun ls hl => ?_)
  refine lv_goto (tgt := 14) hx hb dX4_pushDroppingOldest_47 (by decide) ?_
  refine lv_iload_n hx hb dX4_pushDroppingOldest_14 rfl (lv_at hl 0 rfl) ?_
  refine lv_aload_n hx hb dX4_pushDroppingOldest_15 rfl (lv_at hl 1 rfl) ?_
  refine va_get (D := D) (ci := 4) (v := .ref u1) (C := RX4) (T := TX4) (N := 2) hx hb hts hinX4 hown hK hP 0 rfl rfl 0 (by decide) hf17 (fun _ h9 => h9) rfl dX4_pushDroppingOldest_16 ?_
  refine va_alen (v := 8) hx hb hK hP 1 2 rfl rfl rfl dX4_pushDroppingOldest_19 ?_
  refine lv_icmp_ge (tgt := 50) hx hb dX4_pushDroppingOldest_20 (by decide) (fun c_14 => ?_) (fun c_14 => ?_)
  · exact absurd c_14 (by decide : ¬ ((8 : Int32) ≤ 4))
  refine lv_aload_n hx hb dX4_pushDroppingOldest_23 rfl (lv_at hl 1 rfl) ?_
  refine va_get (D := D) (ci := 4) (v := .ref u1) (C := RX4) (T := TX4) (N := 2) hx hb hts hinX4 hown hK hP 0 rfl rfl 0 (by decide) hf17 (fun _ h9 => h9) rfl dX4_pushDroppingOldest_24 ?_
  refine lv_iload_n hx hb dX4_pushDroppingOldest_27 rfl (lv_at hl 0 rfl) ?_
  refine q_aald hx hb hK hP 1 2 rfl rfl (vp_in_iff.mpr (by decide)) 4 (by decide) rfl dX4_pushDroppingOldest_28 ?_
  refine lv_iconst (v := 0) hx hb dX4_pushDroppingOldest_29 (by decide) ?_
  refine lv_aload_n hx hb dX4_pushDroppingOldest_30 rfl (lv_at hl 1 rfl) ?_
  refine va_get (D := D) (ci := 4) (v := .ref u1) (C := RX4) (T := TX4) (N := 2) hx hb hts hinX4 hown hK hP 0 rfl rfl 0 (by decide) hf17 (fun _ h9 => h9) rfl dX4_pushDroppingOldest_31 ?_
  refine lv_iload_n hx hb dX4_pushDroppingOldest_34 rfl (lv_at hl 0 rfl) ?_
  refine lv_iconst (v := 1) hx hb dX4_pushDroppingOldest_35 (by decide) ?_
  refine lv_isub hx hb dX4_pushDroppingOldest_36 ?_
  refine q_aald hx hb hK hP 1 2 rfl rfl (vp_in_iff.mpr (by decide)) 3 (by decide) rfl dX4_pushDroppingOldest_37 ?_
  refine lv_iconst (v := 0) hx hb dX4_pushDroppingOldest_38 (by decide) ?_
  refine lv_bipush (v := 15) hx hb dX4_pushDroppingOldest_39 (by decide) ?_
  refine q_copyi (sp := 0) (dp := 0) (n := 15) hx hb (hml.trans hl.1.symm) hown hac24 hacn hacs haci hK hP hD hS 6 5 0 0 rfl rfl rfl rfl 0 0 15 (by decide) (by decide) (by decide) (by decide) (by decide) (by decide) (by decide) (by decide) (Nat.le_of_ble_eq_true rfl) (Nat.le_of_ble_eq_true rfl) dX4_pushDroppingOldest_41 (fun H locs hP hD hS => ?_)
  have hP : va_P D vwCl [(u0, .inr (4, [.ref u1, .int uZ])), (u1, .inl (cG, 8, .inr (.inr (.inr (.inr (q_g [ug0, ug1, ug2, ug3, ug4, ug5, ug6, ug7])))))), (ug0, .inl (cI, 15, .inl (va_cpy uR1 uR0 0 0 15))), (ug1, .inl (cI, 15, .inl (va_cpy uR2 uR1 0 0 15))), (ug2, .inl (cI, 15, .inl (va_cpy uR3 uR2 0 0 15))), (ug3, .inl (cI, 15, .inl (va_cpy uR4 uR3 0 0 15))), (ug4, .inl (cI, 15, .inl uR4)), (ug5, .inl (cI, 15, .inl uR5)), (ug6, .inl (cI, 15, .inl uR6)), (ug7, .inl (cI, 15, .inl uR7)), (s0, .inr (6, [.ref v0, .ref s1])), (s1, .inl (cI, 15, .inl row))] H := hP
  have hD : va_D (va_A (wU8s cI cC cG u0 u1 ug0 ug1 ug2 ug3 ug4 ug5 ug6 ug7 s0 s1 v0 uZ uR0 uR1 uR2 uR3 uR4 uR5 uR6 uR7 row) sz) [(u0, .inr (4, [.ref u1, .int uZ])), (u1, .inl (cG, 8, .inr (.inr (.inr (.inr (q_g [ug0, ug1, ug2, ug3, ug4, ug5, ug6, ug7])))))), (ug0, .inl (cI, 15, .inl (va_cpy uR1 uR0 0 0 15))), (ug1, .inl (cI, 15, .inl (va_cpy uR2 uR1 0 0 15))), (ug2, .inl (cI, 15, .inl (va_cpy uR3 uR2 0 0 15))), (ug3, .inl (cI, 15, .inl (va_cpy uR4 uR3 0 0 15))), (ug4, .inl (cI, 15, .inl uR4)), (ug5, .inl (cI, 15, .inl uR5)), (ug6, .inl (cI, 15, .inl uR6)), (ug7, .inl (cI, 15, .inl uR7)), (s0, .inr (6, [.ref v0, .ref s1])), (s1, .inl (cI, 15, .inl row))] := hD
  refine lv_iinc (v := 5) (lv' := [(2, .int 5), (0, .ref u0), (1, .ref s0)]) hx hb dX4_pushDroppingOldest_44 hl (k := 0) rfl (by decide) (by decide) rfl (fun ls hl => ?_)
  refine lv_goto (tgt := 14) hx hb dX4_pushDroppingOldest_47 (by decide) ?_
  refine lv_iload_n hx hb dX4_pushDroppingOldest_14 rfl (lv_at hl 0 rfl) ?_
  refine lv_aload_n hx hb dX4_pushDroppingOldest_15 rfl (lv_at hl 1 rfl) ?_
  refine va_get (D := D) (ci := 4) (v := .ref u1) (C := RX4) (T := TX4) (N := 2) hx hb hts hinX4 hown hK hP 0 rfl rfl 0 (by decide) hf17 (fun _ h9 => h9) rfl dX4_pushDroppingOldest_16 ?_
  refine va_alen (v := 8) hx hb hK hP 1 2 rfl rfl rfl dX4_pushDroppingOldest_19 ?_
  refine lv_icmp_ge (tgt := 50) hx hb dX4_pushDroppingOldest_20 (by decide) (fun c_15 => ?_) (fun c_15 => ?_)
  · exact absurd c_15 (by decide : ¬ ((8 : Int32) ≤ 5))
  refine lv_aload_n hx hb dX4_pushDroppingOldest_23 rfl (lv_at hl 1 rfl) ?_
  refine va_get (D := D) (ci := 4) (v := .ref u1) (C := RX4) (T := TX4) (N := 2) hx hb hts hinX4 hown hK hP 0 rfl rfl 0 (by decide) hf17 (fun _ h9 => h9) rfl dX4_pushDroppingOldest_24 ?_
  refine lv_iload_n hx hb dX4_pushDroppingOldest_27 rfl (lv_at hl 0 rfl) ?_
  refine q_aald hx hb hK hP 1 2 rfl rfl (vp_in_iff.mpr (by decide)) 5 (by decide) rfl dX4_pushDroppingOldest_28 ?_
  refine lv_iconst (v := 0) hx hb dX4_pushDroppingOldest_29 (by decide) ?_
  refine lv_aload_n hx hb dX4_pushDroppingOldest_30 rfl (lv_at hl 1 rfl) ?_
  refine va_get (D := D) (ci := 4) (v := .ref u1) (C := RX4) (T := TX4) (N := 2) hx hb hts hinX4 hown hK hP 0 rfl rfl 0 (by decide) hf17 (fun _ h9 => h9) rfl dX4_pushDroppingOldest_31 ?_
  refine lv_iload_n hx hb dX4_pushDroppingOldest_34 rfl (lv_at hl 0 rfl) ?_
  refine lv_iconst (v := 1) hx hb dX4_pushDroppingOldest_35 (by decide) ?_
  refine lv_isub hx hb dX4_pushDroppingOldest_36 ?_
  refine q_aald hx hb hK hP 1 2 rfl rfl (vp_in_iff.mpr (by decide)) 4 (by decide) rfl dX4_pushDroppingOldest_37 ?_
  refine lv_iconst (v := 0) hx hb dX4_pushDroppingOldest_38 (by decide) ?_
  refine lv_bipush (v := 15) hx hb dX4_pushDroppingOldest_39 (by decide) ?_
  refine q_copyi (sp := 0) (dp := 0) (n := 15) hx hb (hml.trans hl.1.symm) hown hac24 hacn hacs haci hK hP hD hS 7 6 0 0 rfl rfl rfl rfl 0 0 15 (by decide) (by decide) (by decide) (by decide) (by decide) (by decide) (by decide) (by decide) (Nat.le_of_ble_eq_true rfl) (Nat.le_of_ble_eq_true rfl) dX4_pushDroppingOldest_41 (fun H locs hP hD hS => ?_)
  have hP : va_P D vwCl [(u0, .inr (4, [.ref u1, .int uZ])), (u1, .inl (cG, 8, .inr (.inr (.inr (.inr (q_g [ug0, ug1, ug2, ug3, ug4, ug5, ug6, ug7])))))), (ug0, .inl (cI, 15, .inl (va_cpy uR1 uR0 0 0 15))), (ug1, .inl (cI, 15, .inl (va_cpy uR2 uR1 0 0 15))), (ug2, .inl (cI, 15, .inl (va_cpy uR3 uR2 0 0 15))), (ug3, .inl (cI, 15, .inl (va_cpy uR4 uR3 0 0 15))), (ug4, .inl (cI, 15, .inl (va_cpy uR5 uR4 0 0 15))), (ug5, .inl (cI, 15, .inl uR5)), (ug6, .inl (cI, 15, .inl uR6)), (ug7, .inl (cI, 15, .inl uR7)), (s0, .inr (6, [.ref v0, .ref s1])), (s1, .inl (cI, 15, .inl row))] H := hP
  have hD : va_D (va_A (wU8s cI cC cG u0 u1 ug0 ug1 ug2 ug3 ug4 ug5 ug6 ug7 s0 s1 v0 uZ uR0 uR1 uR2 uR3 uR4 uR5 uR6 uR7 row) sz) [(u0, .inr (4, [.ref u1, .int uZ])), (u1, .inl (cG, 8, .inr (.inr (.inr (.inr (q_g [ug0, ug1, ug2, ug3, ug4, ug5, ug6, ug7])))))), (ug0, .inl (cI, 15, .inl (va_cpy uR1 uR0 0 0 15))), (ug1, .inl (cI, 15, .inl (va_cpy uR2 uR1 0 0 15))), (ug2, .inl (cI, 15, .inl (va_cpy uR3 uR2 0 0 15))), (ug3, .inl (cI, 15, .inl (va_cpy uR4 uR3 0 0 15))), (ug4, .inl (cI, 15, .inl (va_cpy uR5 uR4 0 0 15))), (ug5, .inl (cI, 15, .inl uR5)), (ug6, .inl (cI, 15, .inl uR6)), (ug7, .inl (cI, 15, .inl uR7)), (s0, .inr (6, [.ref v0, .ref s1])), (s1, .inl (cI, 15, .inl row))] := hD
  refine lv_iinc (v := 6) (lv' := [(2, .int 6), (0, .ref u0), (1, .ref s0)]) hx hb dX4_pushDroppingOldest_44 hl (k := 0) rfl (by decide) (by decide) rfl (fun ls hl => ?_)
  refine lv_goto (tgt := 14) hx hb dX4_pushDroppingOldest_47 (by decide) ?_
  refine lv_iload_n hx hb dX4_pushDroppingOldest_14 rfl (lv_at hl 0 rfl) ?_
  refine lv_aload_n hx hb dX4_pushDroppingOldest_15 rfl (lv_at hl 1 rfl) ?_
  refine va_get (D := D) (ci := 4) (v := .ref u1) (C := RX4) (T := TX4) (N := 2) hx hb hts hinX4 hown hK hP 0 rfl rfl 0 (by decide) hf17 (fun _ h9 => h9) rfl dX4_pushDroppingOldest_16 ?_
  refine va_alen (v := 8) hx hb hK hP 1 2 rfl rfl rfl dX4_pushDroppingOldest_19 ?_
  refine lv_icmp_ge (tgt := 50) hx hb dX4_pushDroppingOldest_20 (by decide) (fun c_16 => ?_) (fun c_16 => ?_)
  · exact absurd c_16 (by decide : ¬ ((8 : Int32) ≤ 6))
  refine lv_aload_n hx hb dX4_pushDroppingOldest_23 rfl (lv_at hl 1 rfl) ?_
  refine va_get (D := D) (ci := 4) (v := .ref u1) (C := RX4) (T := TX4) (N := 2) hx hb hts hinX4 hown hK hP 0 rfl rfl 0 (by decide) hf17 (fun _ h9 => h9) rfl dX4_pushDroppingOldest_24 ?_
  refine lv_iload_n hx hb dX4_pushDroppingOldest_27 rfl (lv_at hl 0 rfl) ?_
  refine q_aald hx hb hK hP 1 2 rfl rfl (vp_in_iff.mpr (by decide)) 6 (by decide) rfl dX4_pushDroppingOldest_28 ?_
  refine lv_iconst (v := 0) hx hb dX4_pushDroppingOldest_29 (by decide) ?_
  refine lv_aload_n hx hb dX4_pushDroppingOldest_30 rfl (lv_at hl 1 rfl) ?_
  refine va_get (D := D) (ci := 4) (v := .ref u1) (C := RX4) (T := TX4) (N := 2) hx hb hts hinX4 hown hK hP 0 rfl rfl 0 (by decide) hf17 (fun _ h9 => h9) rfl dX4_pushDroppingOldest_31 ?_
  refine lv_iload_n hx hb dX4_pushDroppingOldest_34 rfl (lv_at hl 0 rfl) ?_
  refine lv_iconst (v := 1) hx hb dX4_pushDroppingOldest_35 (by decide) ?_
  refine lv_isub hx hb dX4_pushDroppingOldest_36 ?_
  refine q_aald hx hb hK hP 1 2 rfl rfl (vp_in_iff.mpr (by decide)) 5 (by decide) rfl dX4_pushDroppingOldest_37 ?_
  refine lv_iconst (v := 0) hx hb dX4_pushDroppingOldest_38 (by decide) ?_
  refine lv_bipush (v := 15) hx hb dX4_pushDroppingOldest_39 (by decide) ?_
  refine q_copyi (sp := 0) (dp := 0) (n := 15) hx hb (hml.trans hl.1.symm) hown hac24 hacn hacs haci hK hP hD hS 8 7 0 0 rfl rfl rfl rfl 0 0 15 (by decide) (by decide) (by decide) (by decide) (by decide) (by decide) (by decide) (by decide) (Nat.le_of_ble_eq_true rfl) (Nat.le_of_ble_eq_true rfl) dX4_pushDroppingOldest_41 (fun H locs hP hD hS => ?_)
  have hP : va_P D vwCl [(u0, .inr (4, [.ref u1, .int uZ])), (u1, .inl (cG, 8, .inr (.inr (.inr (.inr (q_g [ug0, ug1, ug2, ug3, ug4, ug5, ug6, ug7])))))), (ug0, .inl (cI, 15, .inl (va_cpy uR1 uR0 0 0 15))), (ug1, .inl (cI, 15, .inl (va_cpy uR2 uR1 0 0 15))), (ug2, .inl (cI, 15, .inl (va_cpy uR3 uR2 0 0 15))), (ug3, .inl (cI, 15, .inl (va_cpy uR4 uR3 0 0 15))), (ug4, .inl (cI, 15, .inl (va_cpy uR5 uR4 0 0 15))), (ug5, .inl (cI, 15, .inl (va_cpy uR6 uR5 0 0 15))), (ug6, .inl (cI, 15, .inl uR6)), (ug7, .inl (cI, 15, .inl uR7)), (s0, .inr (6, [.ref v0, .ref s1])), (s1, .inl (cI, 15, .inl row))] H := hP
  have hD : va_D (va_A (wU8s cI cC cG u0 u1 ug0 ug1 ug2 ug3 ug4 ug5 ug6 ug7 s0 s1 v0 uZ uR0 uR1 uR2 uR3 uR4 uR5 uR6 uR7 row) sz) [(u0, .inr (4, [.ref u1, .int uZ])), (u1, .inl (cG, 8, .inr (.inr (.inr (.inr (q_g [ug0, ug1, ug2, ug3, ug4, ug5, ug6, ug7])))))), (ug0, .inl (cI, 15, .inl (va_cpy uR1 uR0 0 0 15))), (ug1, .inl (cI, 15, .inl (va_cpy uR2 uR1 0 0 15))), (ug2, .inl (cI, 15, .inl (va_cpy uR3 uR2 0 0 15))), (ug3, .inl (cI, 15, .inl (va_cpy uR4 uR3 0 0 15))), (ug4, .inl (cI, 15, .inl (va_cpy uR5 uR4 0 0 15))), (ug5, .inl (cI, 15, .inl (va_cpy uR6 uR5 0 0 15))), (ug6, .inl (cI, 15, .inl uR6)), (ug7, .inl (cI, 15, .inl uR7)), (s0, .inr (6, [.ref v0, .ref s1])), (s1, .inl (cI, 15, .inl row))] := hD
  refine lv_iinc (v := 7) (lv' := [(2, .int 7), (0, .ref u0), (1, .ref s0)]) hx hb dX4_pushDroppingOldest_44 hl (k := 0) rfl (by decide) (by decide) rfl (fun ls hl => ?_)
  refine lv_goto (tgt := 14) hx hb dX4_pushDroppingOldest_47 (by decide) ?_
  refine lv_iload_n hx hb dX4_pushDroppingOldest_14 rfl (lv_at hl 0 rfl) ?_
  refine lv_aload_n hx hb dX4_pushDroppingOldest_15 rfl (lv_at hl 1 rfl) ?_
  refine va_get (D := D) (ci := 4) (v := .ref u1) (C := RX4) (T := TX4) (N := 2) hx hb hts hinX4 hown hK hP 0 rfl rfl 0 (by decide) hf17 (fun _ h9 => h9) rfl dX4_pushDroppingOldest_16 ?_
  refine va_alen (v := 8) hx hb hK hP 1 2 rfl rfl rfl dX4_pushDroppingOldest_19 ?_
  refine lv_icmp_ge (tgt := 50) hx hb dX4_pushDroppingOldest_20 (by decide) (fun c_17 => ?_) (fun c_17 => ?_)
  · exact absurd c_17 (by decide : ¬ ((8 : Int32) ≤ 7))
  refine lv_aload_n hx hb dX4_pushDroppingOldest_23 rfl (lv_at hl 1 rfl) ?_
  refine va_get (D := D) (ci := 4) (v := .ref u1) (C := RX4) (T := TX4) (N := 2) hx hb hts hinX4 hown hK hP 0 rfl rfl 0 (by decide) hf17 (fun _ h9 => h9) rfl dX4_pushDroppingOldest_24 ?_
  refine lv_iload_n hx hb dX4_pushDroppingOldest_27 rfl (lv_at hl 0 rfl) ?_
  refine q_aald hx hb hK hP 1 2 rfl rfl (vp_in_iff.mpr (by decide)) 7 (by decide) rfl dX4_pushDroppingOldest_28 ?_
  refine lv_iconst (v := 0) hx hb dX4_pushDroppingOldest_29 (by decide) ?_
  refine lv_aload_n hx hb dX4_pushDroppingOldest_30 rfl (lv_at hl 1 rfl) ?_
  refine va_get (D := D) (ci := 4) (v := .ref u1) (C := RX4) (T := TX4) (N := 2) hx hb hts hinX4 hown hK hP 0 rfl rfl 0 (by decide) hf17 (fun _ h9 => h9) rfl dX4_pushDroppingOldest_31 ?_
  refine lv_iload_n hx hb dX4_pushDroppingOldest_34 rfl (lv_at hl 0 rfl) ?_
  refine lv_iconst (v := 1) hx hb dX4_pushDroppingOldest_35 (by decide) ?_
  refine lv_isub hx hb dX4_pushDroppingOldest_36 ?_
  refine q_aald hx hb hK hP 1 2 rfl rfl (vp_in_iff.mpr (by decide)) 6 (by decide) rfl dX4_pushDroppingOldest_37 ?_
  refine lv_iconst (v := 0) hx hb dX4_pushDroppingOldest_38 (by decide) ?_
  refine lv_bipush (v := 15) hx hb dX4_pushDroppingOldest_39 (by decide) ?_
  refine q_copyi (sp := 0) (dp := 0) (n := 15) hx hb (hml.trans hl.1.symm) hown hac24 hacn hacs haci hK hP hD hS 9 8 0 0 rfl rfl rfl rfl 0 0 15 (by decide) (by decide) (by decide) (by decide) (by decide) (by decide) (by decide) (by decide) (Nat.le_of_ble_eq_true rfl) (Nat.le_of_ble_eq_true rfl) dX4_pushDroppingOldest_41 (fun H locs hP hD hS => ?_)
  have hP : va_P D vwCl [(u0, .inr (4, [.ref u1, .int uZ])), (u1, .inl (cG, 8, .inr (.inr (.inr (.inr (q_g [ug0, ug1, ug2, ug3, ug4, ug5, ug6, ug7])))))), (ug0, .inl (cI, 15, .inl (va_cpy uR1 uR0 0 0 15))), (ug1, .inl (cI, 15, .inl (va_cpy uR2 uR1 0 0 15))), (ug2, .inl (cI, 15, .inl (va_cpy uR3 uR2 0 0 15))), (ug3, .inl (cI, 15, .inl (va_cpy uR4 uR3 0 0 15))), (ug4, .inl (cI, 15, .inl (va_cpy uR5 uR4 0 0 15))), (ug5, .inl (cI, 15, .inl (va_cpy uR6 uR5 0 0 15))), (ug6, .inl (cI, 15, .inl (va_cpy uR7 uR6 0 0 15))), (ug7, .inl (cI, 15, .inl uR7)), (s0, .inr (6, [.ref v0, .ref s1])), (s1, .inl (cI, 15, .inl row))] H := hP
  have hD : va_D (va_A (wU8s cI cC cG u0 u1 ug0 ug1 ug2 ug3 ug4 ug5 ug6 ug7 s0 s1 v0 uZ uR0 uR1 uR2 uR3 uR4 uR5 uR6 uR7 row) sz) [(u0, .inr (4, [.ref u1, .int uZ])), (u1, .inl (cG, 8, .inr (.inr (.inr (.inr (q_g [ug0, ug1, ug2, ug3, ug4, ug5, ug6, ug7])))))), (ug0, .inl (cI, 15, .inl (va_cpy uR1 uR0 0 0 15))), (ug1, .inl (cI, 15, .inl (va_cpy uR2 uR1 0 0 15))), (ug2, .inl (cI, 15, .inl (va_cpy uR3 uR2 0 0 15))), (ug3, .inl (cI, 15, .inl (va_cpy uR4 uR3 0 0 15))), (ug4, .inl (cI, 15, .inl (va_cpy uR5 uR4 0 0 15))), (ug5, .inl (cI, 15, .inl (va_cpy uR6 uR5 0 0 15))), (ug6, .inl (cI, 15, .inl (va_cpy uR7 uR6 0 0 15))), (ug7, .inl (cI, 15, .inl uR7)), (s0, .inr (6, [.ref v0, .ref s1])), (s1, .inl (cI, 15, .inl row))] := hD
  refine lv_iinc (v := 8) (lv' := [(2, .int 8), (0, .ref u0), (1, .ref s0)]) hx hb dX4_pushDroppingOldest_44 hl (k := 0) rfl (by decide) (by decide) rfl (fun ls hl => ?_)
  refine lv_goto (tgt := 14) hx hb dX4_pushDroppingOldest_47 (by decide) ?_
  refine lv_iload_n hx hb dX4_pushDroppingOldest_14 rfl (lv_at hl 0 rfl) ?_
  refine lv_aload_n hx hb dX4_pushDroppingOldest_15 rfl (lv_at hl 1 rfl) ?_
  refine va_get (D := D) (ci := 4) (v := .ref u1) (C := RX4) (T := TX4) (N := 2) hx hb hts hinX4 hown hK hP 0 rfl rfl 0 (by decide) hf17 (fun _ h9 => h9) rfl dX4_pushDroppingOldest_16 ?_
  refine va_alen (v := 8) hx hb hK hP 1 2 rfl rfl rfl dX4_pushDroppingOldest_19 ?_
  refine lv_icmp_ge (tgt := 50) hx hb dX4_pushDroppingOldest_20 (by decide) (fun c_18 => ?_) (fun c_18 => ?_)
  rotate_left
  · exact absurd (by decide : ((8 : Int32) ≤ 8)) c_18
  refine lv_aload_n hx hb dX4_pushDroppingOldest_50 rfl (lv_at hl 1 rfl) ?_
  refine lv_aload_n hx hb dX4_pushDroppingOldest_51 rfl (lv_at hl 1 rfl) ?_
  refine va_get (D := D) (ci := 4) (v := .ref u1) (C := RX4) (T := TX4) (N := 2) hx hb hts hinX4 hown hK hP 0 rfl rfl 0 (by decide) hf17 (fun _ h9 => h9) rfl dX4_pushDroppingOldest_52 ?_
  refine va_alen (v := 8) hx hb hK hP 1 2 rfl rfl rfl dX4_pushDroppingOldest_55 ?_
  refine lv_iconst (v := 1) hx hb dX4_pushDroppingOldest_56 (by decide) ?_
  refine lv_isub hx hb dX4_pushDroppingOldest_57 ?_
  refine va_put (D := D) (ci := 4) (v := .int (8 - 1)) (ty := .int) (C := RX4) (T := TX4) (N := 2) hx hb hts hinX4 tyX4 tyX4_ok nmX4 hown hK hP hD hS 0 rfl rfl 1 (by decide) hf7 (fun _ h9 => h9) rfl (by decide +kernel) rfl rfl (Nat.le_of_ble_eq_true rfl) dX4_pushDroppingOldest_58 (fun H locs hP hD hS => ?_)
  have hP : va_P D vwCl [(u0, .inr (4, [.ref u1, .int (8 - 1)])), (u1, .inl (cG, 8, .inr (.inr (.inr (.inr (q_g [ug0, ug1, ug2, ug3, ug4, ug5, ug6, ug7])))))), (ug0, .inl (cI, 15, .inl (va_cpy uR1 uR0 0 0 15))), (ug1, .inl (cI, 15, .inl (va_cpy uR2 uR1 0 0 15))), (ug2, .inl (cI, 15, .inl (va_cpy uR3 uR2 0 0 15))), (ug3, .inl (cI, 15, .inl (va_cpy uR4 uR3 0 0 15))), (ug4, .inl (cI, 15, .inl (va_cpy uR5 uR4 0 0 15))), (ug5, .inl (cI, 15, .inl (va_cpy uR6 uR5 0 0 15))), (ug6, .inl (cI, 15, .inl (va_cpy uR7 uR6 0 0 15))), (ug7, .inl (cI, 15, .inl uR7)), (s0, .inr (6, [.ref v0, .ref s1])), (s1, .inl (cI, 15, .inl row))] H := hP
  have hD : va_D (va_A (wU8s cI cC cG u0 u1 ug0 ug1 ug2 ug3 ug4 ug5 ug6 ug7 s0 s1 v0 uZ uR0 uR1 uR2 uR3 uR4 uR5 uR6 uR7 row) sz) [(u0, .inr (4, [.ref u1, .int (8 - 1)])), (u1, .inl (cG, 8, .inr (.inr (.inr (.inr (q_g [ug0, ug1, ug2, ug3, ug4, ug5, ug6, ug7])))))), (ug0, .inl (cI, 15, .inl (va_cpy uR1 uR0 0 0 15))), (ug1, .inl (cI, 15, .inl (va_cpy uR2 uR1 0 0 15))), (ug2, .inl (cI, 15, .inl (va_cpy uR3 uR2 0 0 15))), (ug3, .inl (cI, 15, .inl (va_cpy uR4 uR3 0 0 15))), (ug4, .inl (cI, 15, .inl (va_cpy uR5 uR4 0 0 15))), (ug5, .inl (cI, 15, .inl (va_cpy uR6 uR5 0 0 15))), (ug6, .inl (cI, 15, .inl (va_cpy uR7 uR6 0 0 15))), (ug7, .inl (cI, 15, .inl uR7)), (s0, .inr (6, [.ref v0, .ref s1])), (s1, .inl (cI, 15, .inl row))] := hD
  refine lv_aload_n hx hb dX4_pushDroppingOldest_61 rfl (lv_at hl 1 rfl) ?_
  refine lv_aload_n hx hb dX4_pushDroppingOldest_62 rfl (lv_at hl 2 rfl) ?_
  refine rw_i0 (va_runV (As := [.ref s0]) (rest := []) ⟨hx, hb, hml, hown, hts⟩ (c_X4_push8 l D cI cC cG u0 u1 ug0 ug1 ug2 ug3 ug4 ug5 ug6 ug7 s0 s1 v0 (8 - 1) (va_cpy uR1 uR0 0 0 15) (va_cpy uR2 uR1 0 0 15) (va_cpy uR3 uR2 0 0 15) (va_cpy uR4 uR3 0 0 15) (va_cpy uR5 uR4 0 0 15) (va_cpy uR6 uR5 0 0 15) (va_cpy uR7 uR6 0 0 15) uR7 row H.size) (cwV 1 hts gX4_pushDroppingOldest_X4_push rfl rfl rfl (by decide +kernel) ⟨Nat.le_of_ble_eq_true rfl, Nat.le_of_ble_eq_true rfl⟩) (q_preWV hK hP hD hN [0, 1, 2, 3, 4, 5, 6, 7, 8, 9, 10, 11] (by decide) rfl rfl (ci := 4) (q0 := 0) rfl rfl) rfl rfl hl.1 rfl (lv_room (Nat.le_of_ble_eq_true rfl)) dX4_pushDroppingOldest_63 ⟨Nat.zero_le _, Nat.zero_le _⟩) hS hA hD (fun H locs hP hD hS => ?_)
  have hP : va_P D vwCl [(u0, .inr (4, [.ref u1, .int (g_X4_push8_uZ (8 - 1))])), (u1, .inl (cG, 8, .inr (.inr (.inr (.inr (q_g [ug0, ug1, ug2, ug3, ug4, ug5, ug6, ug7])))))), (ug0, .inl (cI, 15, .inl (g_X4_push8_uR0 (8 - 1) (va_cpy uR1 uR0 0 0 15) row))), (ug1, .inl (cI, 15, .inl (g_X4_push8_uR1 (8 - 1) (va_cpy uR2 uR1 0 0 15) row))), (ug2, .inl (cI, 15, .inl (g_X4_push8_uR2 (8 - 1) (va_cpy uR3 uR2 0 0 15) row))), (ug3, .inl (cI, 15, .inl (g_X4_push8_uR3 (8 - 1) (va_cpy uR4 uR3 0 0 15) row))), (ug4, .inl (cI, 15, .inl (g_X4_push8_uR4 (8 - 1) (va_cpy uR5 uR4 0 0 15) row))), (ug5, .inl (cI, 15, .inl (g_X4_push8_uR5 (8 - 1) (va_cpy uR6 uR5 0 0 15) row))), (ug6, .inl (cI, 15, .inl (g_X4_push8_uR6 (8 - 1) (va_cpy uR7 uR6 0 0 15) row))), (ug7, .inl (cI, 15, .inl (g_X4_push8_uR7 (8 - 1) uR7 row))), (s0, .inr (6, [.ref v0, .ref s1])), (s1, .inl (cI, 15, .inl row))] H := hP
  have hD : va_D (va_A (wU8s cI cC cG u0 u1 ug0 ug1 ug2 ug3 ug4 ug5 ug6 ug7 s0 s1 v0 uZ uR0 uR1 uR2 uR3 uR4 uR5 uR6 uR7 row) sz) [(u0, .inr (4, [.ref u1, .int (g_X4_push8_uZ (8 - 1))])), (u1, .inl (cG, 8, .inr (.inr (.inr (.inr (q_g [ug0, ug1, ug2, ug3, ug4, ug5, ug6, ug7])))))), (ug0, .inl (cI, 15, .inl (g_X4_push8_uR0 (8 - 1) (va_cpy uR1 uR0 0 0 15) row))), (ug1, .inl (cI, 15, .inl (g_X4_push8_uR1 (8 - 1) (va_cpy uR2 uR1 0 0 15) row))), (ug2, .inl (cI, 15, .inl (g_X4_push8_uR2 (8 - 1) (va_cpy uR3 uR2 0 0 15) row))), (ug3, .inl (cI, 15, .inl (g_X4_push8_uR3 (8 - 1) (va_cpy uR4 uR3 0 0 15) row))), (ug4, .inl (cI, 15, .inl (g_X4_push8_uR4 (8 - 1) (va_cpy uR5 uR4 0 0 15) row))), (ug5, .inl (cI, 15, .inl (g_X4_push8_uR5 (8 - 1) (va_cpy uR6 uR5 0 0 15) row))), (ug6, .inl (cI, 15, .inl (g_X4_push8_uR6 (8 - 1) (va_cpy uR7 uR6 0 0 15) row))), (ug7, .inl (cI, 15, .inl (g_X4_push8_uR7 (8 - 1) uR7 row))), (s0, .inr (6, [.ref v0, .ref s1])), (s1, .inl (cI, 15, .inl row))] := hD
  refine lv_pop hx hb dX4_pushDroppingOldest_66 rfl ?_
  have e_19 : (g_X4_pushDroppingOldest8_uZ uZ) = (g_X4_push8_uZ (8 - 1)) := by simp only [g_X4_pushDroppingOldest8_uZ, if_neg c_1]
  have e_20 : (g_X4_pushDroppingOldest8_uR0 uZ uR0 uR1 row) = (g_X4_push8_uR0 (8 - 1) (va_cpy uR1 uR0 0 0 15) row) := by simp only [g_X4_pushDroppingOldest8_uR0, if_neg c_1]
  have e_21 : (g_X4_pushDroppingOldest8_uR1 uZ uR1 uR2 row) = (g_X4_push8_uR1 (8 - 1) (va_cpy uR2 uR1 0 0 15) row) := by simp only [g_X4_pushDroppingOldest8_uR1, if_neg c_1]
  have e_22 : (g_X4_pushDroppingOldest8_uR2 uZ uR2 uR3 row) = (g_X4_push8_uR2 (8 - 1) (va_cpy uR3 uR2 0 0 15) row) := by simp only [g_X4_pushDroppingOldest8_uR2, if_neg c_1]
  have e_23 : (g_X4_pushDroppingOldest8_uR3 uZ uR3 uR4 row) = (g_X4_push8_uR3 (8 - 1) (va_cpy uR4 uR3 0 0 15) row) := by simp only [g_X4_pushDroppingOldest8_uR3, if_neg c_1]
  have e_24 : (g_X4_pushDroppingOldest8_uR4 uZ uR4 uR5 row) = (g_X4_push8_uR4 (8 - 1) (va_cpy uR5 uR4 0 0 15) row) := by simp only [g_X4_pushDroppingOldest8_uR4, if_neg c_1]
  have e_25 : (g_X4_pushDroppingOldest8_uR5 uZ uR5 uR6 row) = (g_X4_push8_uR5 (8 - 1) (va_cpy uR6 uR5 0 0 15) row) := by simp only [g_X4_pushDroppingOldest8_uR5, if_neg c_1]
  have e_26 : (g_X4_pushDroppingOldest8_uR6 uZ uR6 uR7 row) = (g_X4_push8_uR6 (8 - 1) (va_cpy uR7 uR6 0 0 15) row) := by simp only [g_X4_pushDroppingOldest8_uR6, if_neg c_1]
  have e_27 : (g_X4_pushDroppingOldest8_uR7 uZ uR7 row) = (g_X4_push8_uR7 (8 - 1) uR7 row) := by simp only [g_X4_pushDroppingOldest8_uR7, if_neg c_1]
  exact rw_vret hx hb hr hlocks hP hD hS (by rw [e_19, e_20, e_21, e_22, e_23, e_24, e_25, e_26, e_27]) dX4_pushDroppingOldest_67
