abbrev wS (cI cC cG : ClassId) (s0 : Nat) (s1 : Nat) (v0 : Nat) (v1 : Nat) (v2 : Nat) (v3 : Nat) (v4 : Nat) (v5 : Nat) (row : Nat → Int32) (vP : Int32) (vS : Int32) (vD : Int32) (vAg : Nat → Int32) (vKi : Nat → Int32) (vMe : Nat → Int32) (vOw : Nat → Int32) (vFk : Nat → Int32) : va_W := [(s0, .inr (6, [.ref v0, .ref s1])), (s1, .inl (cI, 15, .inl row)), (v0, .inr (7, [.ref v1, .ref v2, .ref v3, .ref v4, .ref v5, .int vP, .int vS, .int vD])), (v1, .inl (cI, 6, .inl vAg)), (v2, .inl (cI, 6, .inl vKi)), (v3, .inl (cI, 6, .inl vMe)), (v4, .inl (cI, 8, .inl vOw)), (v5, .inl (cI, 8, .inl vFk))]
abbrev wSr (cI cC cG : ClassId) (s0 : Nat) (s1 : Nat) (v0 : Nat) (row : Nat → Int32) : va_W := [(s0, .inr (6, [.ref v0, .ref s1])), (s1, .inl (cI, 15, .inl row))]
abbrev wSc (cI cC cG : ClassId) (s0 : Nat) (s1 : Nat) (k0 : Nat) (v0 : Nat) (row : Nat → Int32) (cel : Nat → Int32) : va_W := [(s0, .inr (6, [.ref v0, .ref s1])), (s1, .inl (cI, 15, .inl row)), (k0, .inl (cI, 15, .inl cel))]
abbrev wSs (cI cC cG : ClassId) (s0 : Nat) (s1 : Nat) (o0 : Nat) (o1 : Nat) (v0 : Nat) (row : Nat → Int32) (orow : Nat → Int32) : va_W := [(s0, .inr (6, [.ref v0, .ref s1])), (s1, .inl (cI, 15, .inl row)), (o0, .inr (6, [.ref v0, .ref o1])), (o1, .inl (cI, 15, .inl orow))]
def f_X6_days (row : Nat → Int32) : Int32 := (row 14)
abbrev rm_X6_days : Room := { frames := 0, cells := 0, slots := 0, locals := 0 }
set_option maxRecDepth 100000 in
set_option maxHeartbeats 4000000 in
theorem c_X6_days (l : Launch) (D : va_G) (cI cC cG : ClassId) (s0 : Nat) (s1 : Nat) (v0 : Nat) (row : Nat → Int32) : RoI l yX6_days wsX6_days rm_X6_days D (q_t cI cC cG) (wSr cI cC cG s0 s1 v0 row) [.ref s0] (f_X6_days row) := by
  refine ro_enter (cc := cX6_days) (maxL := 1) (ret := (some .int)) (by decide) rfl (Nat.le_of_ble_eq_true rfl) ?_
  intro p e s m below meth c ls B hP hK hl
  obtain ⟨hx, hb, hr, hlocks, hml, hown, hts, hN⟩ := B
  have hS : va_S q_no s.heap s.heap [] := va_S.rf
  have hown : s.vm.findClass RX6 = some m.cls := hown
  have hl : lv_has ls 1 [(0, .ref s0)] := hl
  have hf11 := hts (.fieldLink RX6 11 "OlderByABlush$Standing" "row" "[I") (by decide +kernel)
  have hinX6 : ∀ w ∈ u_ws RX6 TX6 2, w ∈ wsX6_days := by decide +kernel
  refine lv_aload_n hx hb dX6_days_0 rfl (lv_at hl 0 rfl) ?_
  refine va_get (D := D) (ci := 6) (v := .ref s1) (C := RX6) (T := TX6) (N := 2) hx hb hts hinX6 hown hK hP 0 rfl rfl 1 (by decide) hf11 (fun _ h9 => h9) rfl dX6_days_1 ?_
  refine lv_bipush (v := 14) hx hb dX6_days_4 (by decide) ?_
  refine q_iald hx hb hK hP 1 0 rfl rfl (vp_in_nI (n := 14) (N := 15) (by decide) (by decide)) 14 (by decide) dX6_days_6 ?_
  exact ro_iret hx hb hr hlocks hS (by simp only [f_X6_days]) dX6_days_7
abbrev rm_X6_home : Room := { frames := 0, cells := 0, slots := 0, locals := 0 }
set_option maxRecDepth 100000 in
set_option maxHeartbeats 4000000 in
theorem c_X6_home (l : Launch) (D : va_G) (cI cC cG : ClassId) (s0 : Nat) (s1 : Nat) (v0 : Nat) (row : Nat → Int32) : RoR l yX6_home wsX6_home rm_X6_home D (q_t cI cC cG) (wSr cI cC cG s0 s1 v0 row) [.ref s0] v0 := by
  refine ro_enter (cc := cX6_home) (maxL := 1) (ret := (some (.object "OlderByABlush$Village"))) (by decide) rfl (Nat.le_of_ble_eq_true rfl) ?_
  intro p e s m below meth c ls B hP hK hl
  obtain ⟨hx, hb, hr, hlocks, hml, hown, hts, hN⟩ := B
  have hS : va_S q_no s.heap s.heap [] := va_S.rf
  have hown : s.vm.findClass RX6 = some m.cls := hown
  have hl : lv_has ls 1 [(0, .ref s0)] := hl
  have hf15 := hts (.fieldLink RX6 15 "OlderByABlush$Standing" "village" "LOlderByABlush$Village;") (by decide +kernel)
  have hinX6 : ∀ w ∈ u_ws RX6 TX6 2, w ∈ wsX6_home := by decide +kernel
  refine lv_aload_n hx hb dX6_home_0 rfl (lv_at hl 0 rfl) ?_
  refine va_get (D := D) (ci := 6) (v := .ref v0) (C := RX6) (T := TX6) (N := 2) hx hb hts hinX6 hown hK hP 0 rfl rfl 0 (by decide) hf15 (fun _ h9 => h9) rfl dX6_home_1 ?_
  exact ro_aret hx hb hr hlocks hS dX6_home_4
def f_X6_ageOf (row : Nat → Int32) (vP : Int32) (p0 : Int32) : Int32 := (if (f_X7_hasPerson vP p0) = 0 then 0 else (row (Int32.toNatClampNeg p0)))
abbrev rm_X6_ageOf : Room := { frames := 1, cells := 0, slots := 0, locals := 21 }
set_option maxRecDepth 100000 in
set_option maxHeartbeats 4000000 in
theorem c_X6_ageOf (l : Launch) (D : va_G) (cI cC cG : ClassId) (s0 : Nat) (s1 : Nat) (v0 : Nat) (v1 : Nat) (v2 : Nat) (v3 : Nat) (v4 : Nat) (v5 : Nat) (row : Nat → Int32) (vP : Int32) (vS : Int32) (vD : Int32) (vAg : Nat → Int32) (vKi : Nat → Int32) (vMe : Nat → Int32) (vOw : Nat → Int32) (vFk : Nat → Int32) (p0 : Int32) : RoI l yX6_ageOf wsX6_ageOf rm_X6_ageOf D (q_t cI cC cG) (wS cI cC cG s0 s1 v0 v1 v2 v3 v4 v5 row vP vS vD vAg vKi vMe vOw vFk) [.ref s0, .int p0] (f_X6_ageOf row vP p0) := by
  refine ro_enter (cc := cX6_ageOf) (maxL := 2) (ret := (some .int)) (by decide) rfl (Nat.le_of_ble_eq_true rfl) ?_
  intro p e s m below meth c ls B hP hK hl
  obtain ⟨hx, hb, hr, hlocks, hml, hown, hts, hN⟩ := B
  have hS : va_S q_no s.heap s.heap [] := va_S.rf
  have hown : s.vm.findClass RX6 = some m.cls := hown
  have hl : lv_has ls 2 [(0, .ref s0), (1, .int p0)] := hl
  have hf15 := hts (.fieldLink RX6 15 "OlderByABlush$Standing" "village" "LOlderByABlush$Village;") (by decide +kernel)
  have hinX6 : ∀ w ∈ u_ws RX6 TX6 2, w ∈ wsX6_ageOf := by decide +kernel
  have hf11 := hts (.fieldLink RX6 11 "OlderByABlush$Standing" "row" "[I") (by decide +kernel)
  refine lv_aload_n hx hb dX6_ageOf_0 rfl (lv_at hl 0 rfl) ?_
  refine va_get (D := D) (ci := 6) (v := .ref v0) (C := RX6) (T := TX6) (N := 2) hx hb hts hinX6 hown hK hP 0 rfl rfl 0 (by decide) hf15 (fun _ h9 => h9) rfl dX6_ageOf_1 ?_
  refine lv_iload_n hx hb dX6_ageOf_4 rfl (lv_at hl 1 rfl) ?_
  refine ro_i (va_runV (As := [.int p0]) (rest := []) ⟨hx, hb, hml, hown, hts⟩ (c_X7_hasPerson l D cI cC cG v0 v1 v2 v3 v4 v5 vP vS vD vAg vKi vMe vOw vFk p0) (cwV 1 hts gX6_ageOf_X7_hasPerson rfl rfl rfl (by decide +kernel) ⟨Nat.le_of_ble_eq_true rfl, Nat.le_of_ble_eq_true rfl⟩) (q_preV hK hP hN [2, 3, 4, 5, 6, 7] rfl (ci := 7) (q0 := 2) rfl rfl) rfl rfl hl.1 rfl (lv_room (Nat.le_of_ble_eq_true rfl)) dX6_ageOf_5 ⟨Nat.zero_le _, Nat.zero_le _⟩) hS hP (fun H locs hP hS => ?_)
  refine lv_if_eq (tgt := 20) hx hb dX6_ageOf_8 (by decide) (fun c_1 => ?_) (fun c_1 => ?_)
  · refine lv_iconst (v := 0) hx hb dX6_ageOf_20 (by decide) ?_
    exact ro_iret hx hb hr hlocks hS (by simp only [f_X6_ageOf, if_pos c_1]) dX6_ageOf_21
  refine lv_aload_n hx hb dX6_ageOf_11 rfl (lv_at hl 0 rfl) ?_
  refine va_get (D := D) (ci := 6) (v := .ref s1) (C := RX6) (T := TX6) (N := 2) hx hb hts hinX6 hown hK hP 0 rfl rfl 1 (by decide) hf11 (fun _ h9 => h9) rfl dX6_ageOf_12 ?_
  refine lv_iload_n hx hb dX6_ageOf_15 rfl (lv_at hl 1 rfl) ?_
  refine q_iald hx hb hK hP 1 0 rfl rfl (vp_mono (in_person c_1) (by decide)) (Int32.toNatClampNeg p0) rfl dX6_ageOf_16 ?_
  refine lv_goto (tgt := 21) hx hb dX6_ageOf_17 (by decide) ?_
  exact ro_iret hx hb hr hlocks hS (by simp only [f_X6_ageOf, if_neg c_1]) dX6_ageOf_21
def f_X6_knowersOf (row : Nat → Int32) (vS : Int32) (p0 : Int32) : Int32 := (if (f_X7_hasSecret vS p0) = 0 then 0 else (row (Int32.toNatClampNeg (6 + p0))))
abbrev rm_X6_knowersOf : Room := { frames := 1, cells := 0, slots := 0, locals := 21 }
set_option maxRecDepth 100000 in
set_option maxHeartbeats 4000000 in
theorem c_X6_knowersOf (l : Launch) (D : va_G) (cI cC cG : ClassId) (s0 : Nat) (s1 : Nat) (v0 : Nat) (v1 : Nat) (v2 : Nat) (v3 : Nat) (v4 : Nat) (v5 : Nat) (row : Nat → Int32) (vP : Int32) (vS : Int32) (vD : Int32) (vAg : Nat → Int32) (vKi : Nat → Int32) (vMe : Nat → Int32) (vOw : Nat → Int32) (vFk : Nat → Int32) (p0 : Int32) : RoI l yX6_knowersOf wsX6_knowersOf rm_X6_knowersOf D (q_t cI cC cG) (wS cI cC cG s0 s1 v0 v1 v2 v3 v4 v5 row vP vS vD vAg vKi vMe vOw vFk) [.ref s0, .int p0] (f_X6_knowersOf row vS p0) := by
  refine ro_enter (cc := cX6_knowersOf) (maxL := 2) (ret := (some .int)) (by decide) rfl (Nat.le_of_ble_eq_true rfl) ?_
  intro p e s m below meth c ls B hP hK hl
  obtain ⟨hx, hb, hr, hlocks, hml, hown, hts, hN⟩ := B
  have hS : va_S q_no s.heap s.heap [] := va_S.rf
  have hown : s.vm.findClass RX6 = some m.cls := hown
  have hl : lv_has ls 2 [(0, .ref s0), (1, .int p0)] := hl
  have hf15 := hts (.fieldLink RX6 15 "OlderByABlush$Standing" "village" "LOlderByABlush$Village;") (by decide +kernel)
  have hinX6 : ∀ w ∈ u_ws RX6 TX6 2, w ∈ wsX6_knowersOf := by decide +kernel
  have hf11 := hts (.fieldLink RX6 11 "OlderByABlush$Standing" "row" "[I") (by decide +kernel)
  refine lv_aload_n hx hb dX6_knowersOf_0 rfl (lv_at hl 0 rfl) ?_
  refine va_get (D := D) (ci := 6) (v := .ref v0) (C := RX6) (T := TX6) (N := 2) hx hb hts hinX6 hown hK hP 0 rfl rfl 0 (by decide) hf15 (fun _ h9 => h9) rfl dX6_knowersOf_1 ?_
  refine lv_iload_n hx hb dX6_knowersOf_4 rfl (lv_at hl 1 rfl) ?_
  refine ro_i (va_runV (As := [.int p0]) (rest := []) ⟨hx, hb, hml, hown, hts⟩ (c_X7_hasSecret l D cI cC cG v0 v1 v2 v3 v4 v5 vP vS vD vAg vKi vMe vOw vFk p0) (cwV 1 hts gX6_knowersOf_X7_hasSecret rfl rfl rfl (by decide +kernel) ⟨Nat.le_of_ble_eq_true rfl, Nat.le_of_ble_eq_true rfl⟩) (q_preV hK hP hN [2, 3, 4, 5, 6, 7] rfl (ci := 7) (q0 := 2) rfl rfl) rfl rfl hl.1 rfl (lv_room (Nat.le_of_ble_eq_true rfl)) dX6_knowersOf_5 ⟨Nat.zero_le _, Nat.zero_le _⟩) hS hP (fun H locs hP hS => ?_)
  refine lv_if_eq (tgt := 23) hx hb dX6_knowersOf_8 (by decide) (fun c_1 => ?_) (fun c_1 => ?_)
  · refine lv_iconst (v := 0) hx hb dX6_knowersOf_23 (by decide) ?_
    exact ro_iret hx hb hr hlocks hS (by simp only [f_X6_knowersOf, if_pos c_1]) dX6_knowersOf_24
  refine lv_aload_n hx hb dX6_knowersOf_11 rfl (lv_at hl 0 rfl) ?_
  refine va_get (D := D) (ci := 6) (v := .ref s1) (C := RX6) (T := TX6) (N := 2) hx hb hts hinX6 hown hK hP 0 rfl rfl 1 (by decide) hf11 (fun _ h9 => h9) rfl dX6_knowersOf_12 ?_
  refine lv_bipush (v := 6) hx hb dX6_knowersOf_15 (by decide) ?_
  refine lv_iload_n hx hb dX6_knowersOf_17 rfl (lv_at hl 1 rfl) ?_
  refine lv_iadd hx hb dX6_knowersOf_18 ?_
  refine q_iald hx hb hK hP 1 0 rfl rfl (in_add 6 (in_secret c_1) (by decide) (by decide)) (Int32.toNatClampNeg (6 + p0)) rfl dX6_knowersOf_19 ?_
  refine lv_goto (tgt := 24) hx hb dX6_knowersOf_20 (by decide) ?_
  exact ro_iret hx hb hr hlocks hS (by simp only [f_X6_knowersOf, if_neg c_1]) dX6_knowersOf_24
def f_X6_isAlive (row : Nat → Int32) (vP : Int32) (vD : Int32) (p0 : Int32) : Int32 := (if (f_X7_hasPerson vP p0) = 0 then 0 else (if (f_X7_deathAge vD) ≤ (row (Int32.toNatClampNeg p0)) then 0 else 1))
abbrev rm_X6_isAlive : Room := { frames := 1, cells := 0, slots := 0, locals := 21 }
set_option maxRecDepth 100000 in
set_option maxHeartbeats 4000000 in
theorem c_X6_isAlive (l : Launch) (D : va_G) (cI cC cG : ClassId) (s0 : Nat) (s1 : Nat) (v0 : Nat) (v1 : Nat) (v2 : Nat) (v3 : Nat) (v4 : Nat) (v5 : Nat) (row : Nat → Int32) (vP : Int32) (vS : Int32) (vD : Int32) (vAg : Nat → Int32) (vKi : Nat → Int32) (vMe : Nat → Int32) (vOw : Nat → Int32) (vFk : Nat → Int32) (p0 : Int32) : RoI l yX6_isAlive wsX6_isAlive rm_X6_isAlive D (q_t cI cC cG) (wS cI cC cG s0 s1 v0 v1 v2 v3 v4 v5 row vP vS vD vAg vKi vMe vOw vFk) [.ref s0, .int p0] (f_X6_isAlive row vP vD p0) := by
  refine ro_enter (cc := cX6_isAlive) (maxL := 2) (ret := (some .boolean)) (by decide) rfl (Nat.le_of_ble_eq_true rfl) ?_
  intro p e s m below meth c ls B hP hK hl
  obtain ⟨hx, hb, hr, hlocks, hml, hown, hts, hN⟩ := B
  have hS : va_S q_no s.heap s.heap [] := va_S.rf
  have hown : s.vm.findClass RX6 = some m.cls := hown
  have hl : lv_has ls 2 [(0, .ref s0), (1, .int p0)] := hl
  have hf15 := hts (.fieldLink RX6 15 "OlderByABlush$Standing" "village" "LOlderByABlush$Village;") (by decide +kernel)
  have hinX6 : ∀ w ∈ u_ws RX6 TX6 2, w ∈ wsX6_isAlive := by decide +kernel
  have hf11 := hts (.fieldLink RX6 11 "OlderByABlush$Standing" "row" "[I") (by decide +kernel)
  refine lv_aload_n hx hb dX6_isAlive_0 rfl (lv_at hl 0 rfl) ?_
  refine va_get (D := D) (ci := 6) (v := .ref v0) (C := RX6) (T := TX6) (N := 2) hx hb hts hinX6 hown hK hP 0 rfl rfl 0 (by decide) hf15 (fun _ h9 => h9) rfl dX6_isAlive_1 ?_
  refine lv_iload_n hx hb dX6_isAlive_4 rfl (lv_at hl 1 rfl) ?_
  refine ro_i (va_runV (As := [.int p0]) (rest := []) ⟨hx, hb, hml, hown, hts⟩ (c_X7_hasPerson l D cI cC cG v0 v1 v2 v3 v4 v5 vP vS vD vAg vKi vMe vOw vFk p0) (cwV 1 hts gX6_isAlive_X7_hasPerson rfl rfl rfl (by decide +kernel) ⟨Nat.le_of_ble_eq_true rfl, Nat.le_of_ble_eq_true rfl⟩) (q_preV hK hP hN [2, 3, 4, 5, 6, 7] rfl (ci := 7) (q0 := 2) rfl rfl) rfl rfl hl.1 rfl (lv_room (Nat.le_of_ble_eq_true rfl)) dX6_isAlive_5 ⟨Nat.zero_le _, Nat.zero_le _⟩) hS hP (fun H locs hP hS => ?_)
  refine lv_if_eq (tgt := 31) hx hb dX6_isAlive_8 (by decide) (fun c_1 => ?_) (fun c_1 => ?_)
  · refine lv_iconst (v := 0) hx hb dX6_isAlive_31 (by decide) ?_
    exact ro_zret hx hb hr (by rfl) hlocks hS (by simp only [f_X6_isAlive, if_pos c_1]) dX6_isAlive_32
  refine lv_aload_n hx hb dX6_isAlive_11 rfl (lv_at hl 0 rfl) ?_
  refine va_get (D := D) (ci := 6) (v := .ref s1) (C := RX6) (T := TX6) (N := 2) hx hb hts hinX6 hown hK hP 0 rfl rfl 1 (by decide) hf11 (fun _ h9 => h9) rfl dX6_isAlive_12 ?_
  refine lv_iload_n hx hb dX6_isAlive_15 rfl (lv_at hl 1 rfl) ?_
  refine q_iald hx hb hK hP 1 0 rfl rfl (vp_mono (in_person c_1) (by decide)) (Int32.toNatClampNeg p0) rfl dX6_isAlive_16 ?_
  refine lv_aload_n hx hb dX6_isAlive_17 rfl (lv_at hl 0 rfl) ?_
  refine va_get (D := D) (ci := 6) (v := .ref v0) (C := RX6) (T := TX6) (N := 2) hx hb hts hinX6 hown hK hP 0 rfl rfl 0 (by decide) hf15 (fun _ h9 => h9) rfl dX6_isAlive_18 ?_
  refine ro_i (va_runV (As := []) (rest := [.int (row (Int32.toNatClampNeg p0))]) ⟨hx, hb, hml, hown, hts⟩ (c_X7_deathAge l D cI cC cG v0 v1 v2 v3 v4 v5 vP vS vD vAg vKi vMe vOw vFk) (cwV 0 hts gX6_isAlive_X7_deathAge rfl rfl rfl (by decide +kernel) ⟨Nat.le_of_ble_eq_true rfl, Nat.le_of_ble_eq_true rfl⟩) (q_preV hK hP hN [2, 3, 4, 5, 6, 7] rfl (ci := 7) (q0 := 2) rfl rfl) rfl rfl hl.1 rfl (lv_room (Nat.le_of_ble_eq_true rfl)) dX6_isAlive_21 ⟨Nat.zero_le _, Nat.zero_le _⟩) hS hP (fun H locs hP hS => ?_)
  refine lv_icmp_ge (tgt := 31) hx hb dX6_isAlive_24 (by decide) (fun c_2 => ?_) (fun c_2 => ?_)
  · refine lv_iconst (v := 0) hx hb dX6_isAlive_31 (by decide) ?_
    exact ro_zret hx hb hr (by rfl) hlocks hS (by simp only [f_X6_isAlive, if_neg c_1, if_pos c_2]) dX6_isAlive_32
  refine lv_iconst (v := 1) hx hb dX6_isAlive_27 (by decide) ?_
  refine lv_goto (tgt := 32) hx hb dX6_isAlive_28 (by decide) ?_
  exact ro_zret hx hb hr (by rfl) hlocks hS (by simp only [f_X6_isAlive, if_neg c_1, if_neg c_2]) dX6_isAlive_32
theorem in_alive {row : Nat → Int32} {p d i : Int32} (h : ¬ f_X6_isAlive row p d i = 0) : vp_in i 6 := by
  unfold f_X6_isAlive at h
  by_cases hp : f_X7_hasPerson p i = 0
  · rw [if_pos hp] at h
    exact absurd rfl h
  · exact in_person hp
def f_X6_knows (row : Nat → Int32) (vP : Int32) (vS : Int32) (p0 : Int32) (p1 : Int32) : Int32 := (if (f_X7_hasPerson vP p0) = 0 then 0 else (if (f_X8_has (f_X6_knowersOf row vS p1) p0) = 0 then 0 else 1))
abbrev rm_X6_knows : Room := { frames := 2, cells := 0, slots := 0, locals := 42 }
set_option maxRecDepth 100000 in
set_option maxHeartbeats 4000000 in
theorem c_X6_knows (l : Launch) (D : va_G) (cI cC cG : ClassId) (s0 : Nat) (s1 : Nat) (v0 : Nat) (v1 : Nat) (v2 : Nat) (v3 : Nat) (v4 : Nat) (v5 : Nat) (row : Nat → Int32) (vP : Int32) (vS : Int32) (vD : Int32) (vAg : Nat → Int32) (vKi : Nat → Int32) (vMe : Nat → Int32) (vOw : Nat → Int32) (vFk : Nat → Int32) (p0 : Int32) (p1 : Int32) : RoI l yX6_knows wsX6_knows rm_X6_knows D (q_t cI cC cG) (wS cI cC cG s0 s1 v0 v1 v2 v3 v4 v5 row vP vS vD vAg vKi vMe vOw vFk) [.ref s0, .int p0, .int p1] (f_X6_knows row vP vS p0 p1) := by
  refine ro_enter (cc := cX6_knows) (maxL := 3) (ret := (some .boolean)) (by decide) rfl (Nat.le_of_ble_eq_true rfl) ?_
  intro p e s m below meth c ls B hP hK hl
  obtain ⟨hx, hb, hr, hlocks, hml, hown, hts, hN⟩ := B
  have hS : va_S q_no s.heap s.heap [] := va_S.rf
  have hown : s.vm.findClass RX6 = some m.cls := hown
  have hl : lv_has ls 3 [(0, .ref s0), (1, .int p0), (2, .int p1)] := hl
  have hf15 := hts (.fieldLink RX6 15 "OlderByABlush$Standing" "village" "LOlderByABlush$Village;") (by decide +kernel)
  have hinX6 : ∀ w ∈ u_ws RX6 TX6 2, w ∈ wsX6_knows := by decide +kernel
  have hstX8_has := hts (.static yX8_has) (by decide +kernel)
  have hiniX8 := hts (.initialized RX8) (by decide +kernel)
  refine lv_aload_n hx hb dX6_knows_0 rfl (lv_at hl 0 rfl) ?_
  refine va_get (D := D) (ci := 6) (v := .ref v0) (C := RX6) (T := TX6) (N := 2) hx hb hts hinX6 hown hK hP 0 rfl rfl 0 (by decide) hf15 (fun _ h9 => h9) rfl dX6_knows_1 ?_
  refine lv_iload_n hx hb dX6_knows_4 rfl (lv_at hl 1 rfl) ?_
  refine ro_i (va_runV (As := [.int p0]) (rest := []) ⟨hx, hb, hml, hown, hts⟩ (c_X7_hasPerson l D cI cC cG v0 v1 v2 v3 v4 v5 vP vS vD vAg vKi vMe vOw vFk p0) (cwV 1 hts gX6_knows_X7_hasPerson rfl rfl rfl (by decide +kernel) ⟨Nat.le_of_ble_eq_true rfl, Nat.le_of_ble_eq_true rfl⟩) (q_preV hK hP hN [2, 3, 4, 5, 6, 7] rfl (ci := 7) (q0 := 2) rfl rfl) rfl rfl hl.1 rfl (lv_room (Nat.le_of_ble_eq_true rfl)) dX6_knows_5 ⟨Nat.zero_le _, Nat.zero_le _⟩) hS hP (fun H locs hP hS => ?_)
  refine lv_if_eq (tgt := 27) hx hb dX6_knows_8 (by decide) (fun c_1 => ?_) (fun c_1 => ?_)
  · refine lv_iconst (v := 0) hx hb dX6_knows_27 (by decide) ?_
    exact ro_zret hx hb hr (by rfl) hlocks hS (by simp only [f_X6_knows, if_pos c_1]) dX6_knows_28
  refine lv_aload_n hx hb dX6_knows_11 rfl (lv_at hl 0 rfl) ?_
  refine lv_iload_n hx hb dX6_knows_12 rfl (lv_at hl 2 rfl) ?_
  refine ro_i (va_runV (As := [.int p1]) (rest := []) ⟨hx, hb, hml, hown, hts⟩ (c_X6_knowersOf l D cI cC cG s0 s1 v0 v1 v2 v3 v4 v5 row vP vS vD vAg vKi vMe vOw vFk p1) (cwV 1 hts gX6_knows_X6_knowersOf rfl rfl rfl (by decide +kernel) ⟨Nat.le_of_ble_eq_true rfl, Nat.le_of_ble_eq_true rfl⟩) (q_preV hK hP hN [0, 1, 2, 3, 4, 5, 6, 7] rfl (ci := 6) (q0 := 0) rfl rfl) rfl rfl hl.1 rfl (lv_room (Nat.le_of_ble_eq_true rfl)) dX6_knows_13 ⟨Nat.zero_le _, Nat.zero_le _⟩) hS hP (fun H locs hP hS => ?_)
  refine lv_iload_n hx hb dX6_knows_16 rfl (lv_at hl 1 rfl) ?_
  refine ro_i (va_runSN (As := [.int (f_X6_knowersOf row vS p1), .int p0]) (rest := []) ⟨hx, hb, hml, hown, hts⟩ (c_X8_has l D cI cC cG (f_X6_knowersOf row vS p1) p0) ⟨va_cnB 2 hts gX6_knows_X8_has_n46 rfl rfl rfl (hN.at 6 rfl) hiniX8 (by decide +kernel) ⟨Nat.le_of_ble_eq_true rfl, Nat.le_of_ble_eq_true rfl⟩, hstX8_has, trivial⟩ (q_preS hK hP hN [] rfl) rfl rfl hl.1 rfl (lv_room (Nat.le_of_ble_eq_true rfl)) dX6_knows_17 ⟨Nat.zero_le _, Nat.zero_le _⟩) hS hP (fun H locs hP hS => ?_)
  refine lv_if_eq (tgt := 27) hx hb dX6_knows_20 (by decide) (fun c_2 => ?_) (fun c_2 => ?_)
  · refine lv_iconst (v := 0) hx hb dX6_knows_27 (by decide) ?_
    exact ro_zret hx hb hr (by rfl) hlocks hS (by simp only [f_X6_knows, if_neg c_1, if_pos c_2]) dX6_knows_28
  refine lv_iconst (v := 1) hx hb dX6_knows_23 (by decide) ?_
  refine lv_goto (tgt := 28) hx hb dX6_knows_24 (by decide) ?_
  exact ro_zret hx hb hr (by rfl) hlocks hS (by simp only [f_X6_knows, if_neg c_1, if_neg c_2]) dX6_knows_28
def F_X6_living_4 (row : Nat → Int32) (vP : Int32) (vD : Int32) (i0_ : Int32) : Nat → Int32
  | 0 => i0_
  | j4_ + 1 => (if (f_X6_isAlive row vP vD (nI j4_)) = 0 then (F_X6_living_4 row vP vD i0_ j4_) else ((F_X6_living_4 row vP vD i0_ j4_) ||| (1 <<< ((nI j4_) &&& 31))))
def f_X6_living (row : Nat → Int32) (vP : Int32) (vD : Int32) : Int32 := (F_X6_living_4 row vP vD 0 6)
abbrev rm_X6_living : Room := { frames := 2, cells := 0, slots := 0, locals := 42 }
set_option maxRecDepth 100000 in
set_option maxHeartbeats 4000000 in
theorem c_X6_living (l : Launch) (D : va_G) (cI cC cG : ClassId) (s0 : Nat) (s1 : Nat) (v0 : Nat) (v1 : Nat) (v2 : Nat) (v3 : Nat) (v4 : Nat) (v5 : Nat) (row : Nat → Int32) (vP : Int32) (vS : Int32) (vD : Int32) (vAg : Nat → Int32) (vKi : Nat → Int32) (vMe : Nat → Int32) (vOw : Nat → Int32) (vFk : Nat → Int32) : RoI l yX6_living wsX6_living rm_X6_living D (q_t cI cC cG) (wS cI cC cG s0 s1 v0 v1 v2 v3 v4 v5 row vP vS vD vAg vKi vMe vOw vFk) [.ref s0] (f_X6_living row vP vD) := by
  refine ro_enter (cc := cX6_living) (maxL := 3) (ret := (some .int)) (by decide) rfl (Nat.le_of_ble_eq_true rfl) ?_
  intro p e s m below meth c ls B hP hK hl
  obtain ⟨hx, hb, hr, hlocks, hml, hown, hts, hN⟩ := B
  have hS : va_S q_no s.heap s.heap [] := va_S.rf
  have hown : s.vm.findClass RX6 = some m.cls := hown
  have hl : lv_has ls 3 [(0, .ref s0)] := hl
  refine lv_iconst (v := 0) hx hb dX6_living_0 (by decide) ?_
  refine lv_istore_n (lv' := [(1, .int 0), (0, .ref s0)]) hx hb dX6_living_1 rfl hl (by decide) rfl (fun ls hl => ?_)
  refine lv_iconst (v := 0) hx hb dX6_living_2 (by decide) ?_
  refine lv_istore_n (lv' := [(2, .int 0), (1, .int 0), (0, .ref s0)]) hx hb dX6_living_3 rfl hl (by decide) rfl (fun ls hl => ?_)
  have K4_ : ∀ (H : Heap) (locs : List Loc), va_P D vwCl [(s0, .inr (6, [.ref v0, .ref s1])), (s1, .inl (cI, 15, .inl row)), (v0, .inr (7, [.ref v1, .ref v2, .ref v3, .ref v4, .ref v5, .int vP, .int vS, .int vD])), (v1, .inl (cI, 6, .inl vAg)), (v2, .inl (cI, 6, .inl vKi)), (v3, .inl (cI, 6, .inl vMe)), (v4, .inl (cI, 8, .inl vOw)), (v5, .inl (cI, 8, .inl vFk))] H → va_S q_no s.heap H locs → ∀ ls : Array Slot, lv_has ls 3 [(1, .int (F_X6_living_4 row vP vD 0 6))] → W p l e rm_X6_living s m ([.ref s0] : List Value).toArray below meth c H locs 0 0 (MQ below (q_Qi (f_X6_living row vP vD)) ([.ref s0] : List Value).toArray s 0 0 q_no) (F0 m 30 ls []) := by
    intro H locs hP hS ls hl
    refine lv_iload_n hx hb dX6_living_30 rfl (lv_at hl 0 rfl) ?_
    exact ro_iret hx hb hr hlocks hS (by simp only [f_X6_living]) dX6_living_31
  have loop4_ : ∀ (n4_ j4_ : Nat), j4_ + n4_ = 6 → ∀ (H : Heap) (locs : List Loc), va_P D vwCl [(s0, .inr (6, [.ref v0, .ref s1])), (s1, .inl (cI, 15, .inl row)), (v0, .inr (7, [.ref v1, .ref v2, .ref v3, .ref v4, .ref v5, .int vP, .int vS, .int vD])), (v1, .inl (cI, 6, .inl vAg)), (v2, .inl (cI, 6, .inl vKi)), (v3, .inl (cI, 6, .inl vMe)), (v4, .inl (cI, 8, .inl vOw)), (v5, .inl (cI, 8, .inl vFk))] H → va_S q_no s.heap H locs → ∀ ls : Array Slot, lv_has ls 3 [(0, .ref s0), (1, .int (F_X6_living_4 row vP vD 0 j4_)), (2, .int (nI j4_))] → W p l e rm_X6_living s m ([.ref s0] : List Value).toArray below meth c H locs 0 0 (MQ below (q_Qi (f_X6_living row vP vD)) ([.ref s0] : List Value).toArray s 0 0 q_no) (F0 m 4 ls []) := by
    intro n4_
    induction n4_ with
    | zero =>
      intro j4_ hj4_ H locs hP hS ls hl
      obtain rfl : j4_ = 6 := by omega
      refine lv_iload_n hx hb dX6_living_4 rfl (lv_at hl 2 rfl) ?_
      refine lv_bipush (v := 6) hx hb dX6_living_5 (by decide) ?_
      refine lv_icmp_ge (tgt := 30) hx hb dX6_living_7 (by decide) (fun c_1 => ?_) (fun c_1 => ?_)
      rotate_left
      · exact absurd (nI_le (Nat.le_refl 6) (by decide)) c_1
      exact K4_ _ _ hP hS _ (lv_sub hl [1] rfl)
    | succ n4_ ih4_ =>
      intro j4_ hj4_ H locs hP hS ls hl
      refine lv_iload_n hx hb dX6_living_4 rfl (lv_at hl 2 rfl) ?_
      refine lv_bipush (v := 6) hx hb dX6_living_5 (by decide) ?_
      refine lv_icmp_ge (tgt := 30) hx hb dX6_living_7 (by decide) (fun c_2 => ?_) (fun c_2 => ?_)
      · exact absurd c_2 (nI_ge (b := 6) (by omega) (by decide))
      refine lv_aload_n hx hb dX6_living_10 rfl (lv_at hl 0 rfl) ?_
      refine lv_iload_n hx hb dX6_living_11 rfl (lv_at hl 2 rfl) ?_
      refine ro_i (va_runV (As := [.int (nI j4_)]) (rest := []) ⟨hx, hb, hml, hown, hts⟩ (c_X6_isAlive l D cI cC cG s0 s1 v0 v1 v2 v3 v4 v5 row vP vS vD vAg vKi vMe vOw vFk (nI j4_)) (cwV 1 hts gX6_living_X6_isAlive rfl rfl rfl (by decide +kernel) ⟨Nat.le_of_ble_eq_true rfl, Nat.le_of_ble_eq_true rfl⟩) (q_preV hK hP hN [0, 1, 2, 3, 4, 5, 6, 7] rfl (ci := 6) (q0 := 0) rfl rfl) rfl rfl hl.1 rfl (lv_room (Nat.le_of_ble_eq_true rfl)) dX6_living_12 ⟨Nat.zero_le _, Nat.zero_le _⟩) hS hP (fun H locs hP hS => ?_)
      refine lv_if_eq (tgt := 24) hx hb dX6_living_15 (by decide) (fun c_3 => ?_) (fun c_3 => ?_)
      · refine lv_iinc (v := (nI (j4_ + 1))) (lv' := [(2, .int (nI (j4_ + 1))), (0, .ref s0), (1, .int (F_X6_living_4 row vP vD 0 j4_))]) hx hb dX6_living_24 hl (k := 2) rfl (nI_1 _) (by decide) rfl (fun ls hl => ?_)
        refine lv_goto (tgt := 4) hx hb dX6_living_27 (by decide) ?_
        have e_4 : (F_X6_living_4 row vP vD 0 (j4_ + 1)) = (F_X6_living_4 row vP vD 0 j4_) := by simp only [F_X6_living_4, if_pos c_3]
        exact ih4_ (j4_ + 1) (by omega) _ _ hP hS _ (by rw [e_4]; exact (lv_sub hl [1, 2, 0] rfl))
      refine lv_iload_n hx hb dX6_living_18 rfl (lv_at hl 1 rfl) ?_
      refine lv_iconst (v := 1) hx hb dX6_living_19 (by decide) ?_
      refine lv_iload_n hx hb dX6_living_20 rfl (lv_at hl 2 rfl) ?_
      refine lv_ishl hx hb dX6_living_21 ?_
      refine lv_ior hx hb dX6_living_22 ?_
      refine lv_istore_n (lv' := [(1, .int ((F_X6_living_4 row vP vD 0 j4_) ||| (1 <<< ((nI j4_) &&& 31)))), (0, .ref s0), (2, .int (nI j4_))]) hx hb dX6_living_23 rfl hl (by decide) rfl (fun ls hl => ?_)
      refine lv_iinc (v := (nI (j4_ + 1))) (lv' := [(2, .int (nI (j4_ + 1))), (1, .int ((F_X6_living_4 row vP vD 0 j4_) ||| (1 <<< ((nI j4_) &&& 31)))), (0, .ref s0)]) hx hb dX6_living_24 hl (k := 2) rfl (nI_1 _) (by decide) rfl (fun ls hl => ?_)
      refine lv_goto (tgt := 4) hx hb dX6_living_27 (by decide) ?_
      have e_5 : (F_X6_living_4 row vP vD 0 (j4_ + 1)) = ((F_X6_living_4 row vP vD 0 j4_) ||| (1 <<< ((nI j4_) &&& 31))) := by simp only [F_X6_living_4, if_neg c_3]
      exact ih4_ (j4_ + 1) (by omega) _ _ hP hS _ (by rw [e_5]; exact (lv_sub hl [2, 1, 0] rfl))
  exact loop4_ 6 0 (by omega) _ _ hP hS _ (lv_sub hl [2, 1, 0] rfl)
def f_X6_meetsOf (row : Nat → Int32) (vP : Int32) (vD : Int32) (vMe : Nat → Int32) (p0 : Int32) : Int32 := (if (f_X6_isAlive row vP vD p0) = 0 then 0 else ((f_X7_meetingsOf vP vMe p0) &&& (f_X6_living row vP vD)))
abbrev rm_X6_meetsOf : Room := { frames := 3, cells := 0, slots := 0, locals := 64 }
set_option maxRecDepth 100000 in
set_option maxHeartbeats 4000000 in
theorem c_X6_meetsOf (l : Launch) (D : va_G) (cI cC cG : ClassId) (s0 : Nat) (s1 : Nat) (v0 : Nat) (v1 : Nat) (v2 : Nat) (v3 : Nat) (v4 : Nat) (v5 : Nat) (row : Nat → Int32) (vP : Int32) (vS : Int32) (vD : Int32) (vAg : Nat → Int32) (vKi : Nat → Int32) (vMe : Nat → Int32) (vOw : Nat → Int32) (vFk : Nat → Int32) (p0 : Int32) : RoI l yX6_meetsOf wsX6_meetsOf rm_X6_meetsOf D (q_t cI cC cG) (wS cI cC cG s0 s1 v0 v1 v2 v3 v4 v5 row vP vS vD vAg vKi vMe vOw vFk) [.ref s0, .int p0] (f_X6_meetsOf row vP vD vMe p0) := by
  refine ro_enter (cc := cX6_meetsOf) (maxL := 2) (ret := (some .int)) (by decide) rfl (Nat.le_of_ble_eq_true rfl) ?_
  intro p e s m below meth c ls B hP hK hl
  obtain ⟨hx, hb, hr, hlocks, hml, hown, hts, hN⟩ := B
  have hS : va_S q_no s.heap s.heap [] := va_S.rf
  have hown : s.vm.findClass RX6 = some m.cls := hown
  have hl : lv_has ls 2 [(0, .ref s0), (1, .int p0)] := hl
  have hf15 := hts (.fieldLink RX6 15 "OlderByABlush$Standing" "village" "LOlderByABlush$Village;") (by decide +kernel)
  have hinX6 : ∀ w ∈ u_ws RX6 TX6 2, w ∈ wsX6_meetsOf := by decide +kernel
  refine lv_aload_n hx hb dX6_meetsOf_0 rfl (lv_at hl 0 rfl) ?_
  refine lv_iload_n hx hb dX6_meetsOf_1 rfl (lv_at hl 1 rfl) ?_
  refine ro_i (va_runV (As := [.int p0]) (rest := []) ⟨hx, hb, hml, hown, hts⟩ (c_X6_isAlive l D cI cC cG s0 s1 v0 v1 v2 v3 v4 v5 row vP vS vD vAg vKi vMe vOw vFk p0) (cwV 1 hts gX6_meetsOf_X6_isAlive rfl rfl rfl (by decide +kernel) ⟨Nat.le_of_ble_eq_true rfl, Nat.le_of_ble_eq_true rfl⟩) (q_preV hK hP hN [0, 1, 2, 3, 4, 5, 6, 7] rfl (ci := 6) (q0 := 0) rfl rfl) rfl rfl hl.1 rfl (lv_room (Nat.le_of_ble_eq_true rfl)) dX6_meetsOf_2 ⟨Nat.zero_le _, Nat.zero_le _⟩) hS hP (fun H locs hP hS => ?_)
  refine lv_if_eq (tgt := 24) hx hb dX6_meetsOf_5 (by decide) (fun c_1 => ?_) (fun c_1 => ?_)
  · refine lv_iconst (v := 0) hx hb dX6_meetsOf_24 (by decide) ?_
    exact ro_iret hx hb hr hlocks hS (by simp only [f_X6_meetsOf, if_pos c_1]) dX6_meetsOf_25
  refine lv_aload_n hx hb dX6_meetsOf_8 rfl (lv_at hl 0 rfl) ?_
  refine va_get (D := D) (ci := 6) (v := .ref v0) (C := RX6) (T := TX6) (N := 2) hx hb hts hinX6 hown hK hP 0 rfl rfl 0 (by decide) hf15 (fun _ h9 => h9) rfl dX6_meetsOf_9 ?_
  refine lv_iload_n hx hb dX6_meetsOf_12 rfl (lv_at hl 1 rfl) ?_
  refine ro_i (va_runV (As := [.int p0]) (rest := []) ⟨hx, hb, hml, hown, hts⟩ (c_X7_meetingsOf l D cI cC cG v0 v1 v2 v3 v4 v5 vP vS vD vAg vKi vMe vOw vFk p0) (cwV 1 hts gX6_meetsOf_X7_meetingsOf rfl rfl rfl (by decide +kernel) ⟨Nat.le_of_ble_eq_true rfl, Nat.le_of_ble_eq_true rfl⟩) (q_preV hK hP hN [2, 3, 4, 5, 6, 7] rfl (ci := 7) (q0 := 2) rfl rfl) rfl rfl hl.1 rfl (lv_room (Nat.le_of_ble_eq_true rfl)) dX6_meetsOf_13 ⟨Nat.zero_le _, Nat.zero_le _⟩) hS hP (fun H locs hP hS => ?_)
  refine lv_aload_n hx hb dX6_meetsOf_16 rfl (lv_at hl 0 rfl) ?_
  refine ro_i (va_runV (As := []) (rest := [.int (f_X7_meetingsOf vP vMe p0)]) ⟨hx, hb, hml, hown, hts⟩ (c_X6_living l D cI cC cG s0 s1 v0 v1 v2 v3 v4 v5 row vP vS vD vAg vKi vMe vOw vFk) (cwV 0 hts gX6_meetsOf_X6_living rfl rfl rfl (by decide +kernel) ⟨Nat.le_of_ble_eq_true rfl, Nat.le_of_ble_eq_true rfl⟩) (q_preV hK hP hN [0, 1, 2, 3, 4, 5, 6, 7] rfl (ci := 6) (q0 := 0) rfl rfl) rfl rfl hl.1 rfl (lv_room (Nat.le_of_ble_eq_true rfl)) dX6_meetsOf_17 ⟨Nat.zero_le _, Nat.zero_le _⟩) hS hP (fun H locs hP hS => ?_)
  refine lv_iand hx hb dX6_meetsOf_20 ?_
  refine lv_goto (tgt := 25) hx hb dX6_meetsOf_21 (by decide) ?_
  exact ro_iret hx hb hr hlocks hS (by simp only [f_X6_meetsOf, if_neg c_1]) dX6_meetsOf_25
def F_X6_knownTo_4 (x1 : Int32) (row : Nat → Int32) (vP : Int32) (vS : Int32) (i0_ : Int32) : Nat → Int32
  | 0 => i0_
  | j4_ + 1 => (if (f_X6_knows row vP vS x1 (nI j4_)) = 0 then (F_X6_knownTo_4 x1 row vP vS i0_ j4_) else ((F_X6_knownTo_4 x1 row vP vS i0_ j4_) ||| (1 <<< ((nI j4_) &&& 31))))
def f_X6_knownTo (row : Nat → Int32) (vP : Int32) (vS : Int32) (p0 : Int32) : Int32 := (F_X6_knownTo_4 p0 row vP vS 0 8)
abbrev rm_X6_knownTo : Room := { frames := 3, cells := 0, slots := 0, locals := 64 }
set_option maxRecDepth 100000 in
set_option maxHeartbeats 4000000 in
theorem c_X6_knownTo (l : Launch) (D : va_G) (cI cC cG : ClassId) (s0 : Nat) (s1 : Nat) (v0 : Nat) (v1 : Nat) (v2 : Nat) (v3 : Nat) (v4 : Nat) (v5 : Nat) (row : Nat → Int32) (vP : Int32) (vS : Int32) (vD : Int32) (vAg : Nat → Int32) (vKi : Nat → Int32) (vMe : Nat → Int32) (vOw : Nat → Int32) (vFk : Nat → Int32) (p0 : Int32) : RoI l yX6_knownTo wsX6_knownTo rm_X6_knownTo D (q_t cI cC cG) (wS cI cC cG s0 s1 v0 v1 v2 v3 v4 v5 row vP vS vD vAg vKi vMe vOw vFk) [.ref s0, .int p0] (f_X6_knownTo row vP vS p0) := by
  refine ro_enter (cc := cX6_knownTo) (maxL := 4) (ret := (some .int)) (by decide) rfl (Nat.le_of_ble_eq_true rfl) ?_
  intro p e s m below meth c ls B hP hK hl
  obtain ⟨hx, hb, hr, hlocks, hml, hown, hts, hN⟩ := B
  have hS : va_S q_no s.heap s.heap [] := va_S.rf
  have hown : s.vm.findClass RX6 = some m.cls := hown
  have hl : lv_has ls 4 [(0, .ref s0), (1, .int p0)] := hl
  refine lv_iconst (v := 0) hx hb dX6_knownTo_0 (by decide) ?_
  refine lv_istore_n (lv' := [(2, .int 0), (0, .ref s0), (1, .int p0)]) hx hb dX6_knownTo_1 rfl hl (by decide) rfl (fun ls hl => ?_)
  refine lv_iconst (v := 0) hx hb dX6_knownTo_2 (by decide) ?_
  refine lv_istore_n (lv' := [(3, .int 0), (2, .int 0), (0, .ref s0), (1, .int p0)]) hx hb dX6_knownTo_3 rfl hl (by decide) rfl (fun ls hl => ?_)
  have K4_ : ∀ (H : Heap) (locs : List Loc), va_P D vwCl [(s0, .inr (6, [.ref v0, .ref s1])), (s1, .inl (cI, 15, .inl row)), (v0, .inr (7, [.ref v1, .ref v2, .ref v3, .ref v4, .ref v5, .int vP, .int vS, .int vD])), (v1, .inl (cI, 6, .inl vAg)), (v2, .inl (cI, 6, .inl vKi)), (v3, .inl (cI, 6, .inl vMe)), (v4, .inl (cI, 8, .inl vOw)), (v5, .inl (cI, 8, .inl vFk))] H → va_S q_no s.heap H locs → ∀ ls : Array Slot, lv_has ls 4 [(2, .int (F_X6_knownTo_4 p0 row vP vS 0 8))] → W p l e rm_X6_knownTo s m ([.ref s0, .int p0] : List Value).toArray below meth c H locs 0 0 (MQ below (q_Qi (f_X6_knownTo row vP vS p0)) ([.ref s0, .int p0] : List Value).toArray s 0 0 q_no) (F0 m 31 ls []) := by
    intro H locs hP hS ls hl
    refine lv_iload_n hx hb dX6_knownTo_31 rfl (lv_at hl 0 rfl) ?_
    exact ro_iret hx hb hr hlocks hS (by simp only [f_X6_knownTo]) dX6_knownTo_32
  have loop4_ : ∀ (n4_ j4_ : Nat), j4_ + n4_ = 8 → ∀ (H : Heap) (locs : List Loc), va_P D vwCl [(s0, .inr (6, [.ref v0, .ref s1])), (s1, .inl (cI, 15, .inl row)), (v0, .inr (7, [.ref v1, .ref v2, .ref v3, .ref v4, .ref v5, .int vP, .int vS, .int vD])), (v1, .inl (cI, 6, .inl vAg)), (v2, .inl (cI, 6, .inl vKi)), (v3, .inl (cI, 6, .inl vMe)), (v4, .inl (cI, 8, .inl vOw)), (v5, .inl (cI, 8, .inl vFk))] H → va_S q_no s.heap H locs → ∀ ls : Array Slot, lv_has ls 4 [(0, .ref s0), (1, .int p0), (2, .int (F_X6_knownTo_4 p0 row vP vS 0 j4_)), (3, .int (nI j4_))] → W p l e rm_X6_knownTo s m ([.ref s0, .int p0] : List Value).toArray below meth c H locs 0 0 (MQ below (q_Qi (f_X6_knownTo row vP vS p0)) ([.ref s0, .int p0] : List Value).toArray s 0 0 q_no) (F0 m 4 ls []) := by
    intro n4_
    induction n4_ with
    | zero =>
      intro j4_ hj4_ H locs hP hS ls hl
      obtain rfl : j4_ = 8 := by omega
      refine lv_iload_n hx hb dX6_knownTo_4 rfl (lv_at hl 3 rfl) ?_
      refine lv_bipush (v := 8) hx hb dX6_knownTo_5 (by decide) ?_
      refine lv_icmp_ge (tgt := 31) hx hb dX6_knownTo_7 (by decide) (fun c_1 => ?_) (fun c_1 => ?_)
      rotate_left
      · exact absurd (nI_le (Nat.le_refl 8) (by decide)) c_1
      exact K4_ _ _ hP hS _ (lv_sub hl [2] rfl)
    | succ n4_ ih4_ =>
      intro j4_ hj4_ H locs hP hS ls hl
      refine lv_iload_n hx hb dX6_knownTo_4 rfl (lv_at hl 3 rfl) ?_
      refine lv_bipush (v := 8) hx hb dX6_knownTo_5 (by decide) ?_
      refine lv_icmp_ge (tgt := 31) hx hb dX6_knownTo_7 (by decide) (fun c_2 => ?_) (fun c_2 => ?_)
      · exact absurd c_2 (nI_ge (b := 8) (by omega) (by decide))
      refine lv_aload_n hx hb dX6_knownTo_10 rfl (lv_at hl 0 rfl) ?_
      refine lv_iload_n hx hb dX6_knownTo_11 rfl (lv_at hl 1 rfl) ?_
      refine lv_iload_n hx hb dX6_knownTo_12 rfl (lv_at hl 3 rfl) ?_
      refine ro_i (va_runV (As := [.int p0, .int (nI j4_)]) (rest := []) ⟨hx, hb, hml, hown, hts⟩ (c_X6_knows l D cI cC cG s0 s1 v0 v1 v2 v3 v4 v5 row vP vS vD vAg vKi vMe vOw vFk p0 (nI j4_)) (cwV 2 hts gX6_knownTo_X6_knows rfl rfl rfl (by decide +kernel) ⟨Nat.le_of_ble_eq_true rfl, Nat.le_of_ble_eq_true rfl⟩) (q_preV hK hP hN [0, 1, 2, 3, 4, 5, 6, 7] rfl (ci := 6) (q0 := 0) rfl rfl) rfl rfl hl.1 rfl (lv_room (Nat.le_of_ble_eq_true rfl)) dX6_knownTo_13 ⟨Nat.zero_le _, Nat.zero_le _⟩) hS hP (fun H locs hP hS => ?_)
      refine lv_if_eq (tgt := 25) hx hb dX6_knownTo_16 (by decide) (fun c_3 => ?_) (fun c_3 => ?_)
      · refine lv_iinc (v := (nI (j4_ + 1))) (lv' := [(3, .int (nI (j4_ + 1))), (0, .ref s0), (1, .int p0), (2, .int (F_X6_knownTo_4 p0 row vP vS 0 j4_))]) hx hb dX6_knownTo_25 hl (k := 3) rfl (nI_1 _) (by decide) rfl (fun ls hl => ?_)
        refine lv_goto (tgt := 4) hx hb dX6_knownTo_28 (by decide) ?_
        have e_4 : (F_X6_knownTo_4 p0 row vP vS 0 (j4_ + 1)) = (F_X6_knownTo_4 p0 row vP vS 0 j4_) := by simp only [F_X6_knownTo_4, if_pos c_3]
        exact ih4_ (j4_ + 1) (by omega) _ _ hP hS _ (by rw [e_4]; exact (lv_sub hl [1, 2, 3, 0] rfl))
      refine lv_iload_n hx hb dX6_knownTo_19 rfl (lv_at hl 2 rfl) ?_
      refine lv_iconst (v := 1) hx hb dX6_knownTo_20 (by decide) ?_
      refine lv_iload_n hx hb dX6_knownTo_21 rfl (lv_at hl 3 rfl) ?_
      refine lv_ishl hx hb dX6_knownTo_22 ?_
      refine lv_ior hx hb dX6_knownTo_23 ?_
      refine lv_istore_n (lv' := [(2, .int ((F_X6_knownTo_4 p0 row vP vS 0 j4_) ||| (1 <<< ((nI j4_) &&& 31)))), (0, .ref s0), (1, .int p0), (3, .int (nI j4_))]) hx hb dX6_knownTo_24 rfl hl (by decide) rfl (fun ls hl => ?_)
      refine lv_iinc (v := (nI (j4_ + 1))) (lv' := [(3, .int (nI (j4_ + 1))), (2, .int ((F_X6_knownTo_4 p0 row vP vS 0 j4_) ||| (1 <<< ((nI j4_) &&& 31)))), (0, .ref s0), (1, .int p0)]) hx hb dX6_knownTo_25 hl (k := 3) rfl (nI_1 _) (by decide) rfl (fun ls hl => ?_)
      refine lv_goto (tgt := 4) hx hb dX6_knownTo_28 (by decide) ?_
      have e_5 : (F_X6_knownTo_4 p0 row vP vS 0 (j4_ + 1)) = ((F_X6_knownTo_4 p0 row vP vS 0 j4_) ||| (1 <<< ((nI j4_) &&& 31))) := by simp only [F_X6_knownTo_4, if_neg c_3]
      exact ih4_ (j4_ + 1) (by omega) _ _ hP hS _ (by rw [e_5]; exact (lv_sub hl [2, 3, 1, 0] rfl))
  exact loop4_ 8 0 (by omega) _ _ hP hS _ (lv_sub hl [2, 3, 1, 0] rfl)
def f_X6_othersKnowing (row : Nat → Int32) (vS : Int32) (vOw : Nat → Int32) (p0 : Int32) : Int32 := (f_J6_bitCount_0f7a4 ((f_X6_knowersOf row vS p0) &&& ((1 <<< ((f_X7_ownerOf vS vOw p0) &&& 31)) ^^^ (-1))))
abbrev rm_X6_othersKnowing : Room := { frames := 2, cells := 0, slots := 0, locals := 42 }
set_option maxRecDepth 100000 in
set_option maxHeartbeats 4000000 in
theorem c_X6_othersKnowing (l : Launch) (D : va_G) (cI cC cG : ClassId) (s0 : Nat) (s1 : Nat) (v0 : Nat) (v1 : Nat) (v2 : Nat) (v3 : Nat) (v4 : Nat) (v5 : Nat) (row : Nat → Int32) (vP : Int32) (vS : Int32) (vD : Int32) (vAg : Nat → Int32) (vKi : Nat → Int32) (vMe : Nat → Int32) (vOw : Nat → Int32) (vFk : Nat → Int32) (p0 : Int32) : RoI l yX6_othersKnowing wsX6_othersKnowing rm_X6_othersKnowing D (q_t cI cC cG) (wS cI cC cG s0 s1 v0 v1 v2 v3 v4 v5 row vP vS vD vAg vKi vMe vOw vFk) [.ref s0, .int p0] (f_X6_othersKnowing row vS vOw p0) := by
  refine ro_enter (cc := cX6_othersKnowing) (maxL := 2) (ret := (some .int)) (by decide) rfl (Nat.le_of_ble_eq_true rfl) ?_
  intro p e s m below meth c ls B hP hK hl
  obtain ⟨hx, hb, hr, hlocks, hml, hown, hts, hN⟩ := B
  have hS : va_S q_no s.heap s.heap [] := va_S.rf
  have hown : s.vm.findClass RX6 = some m.cls := hown
  have hl : lv_has ls 2 [(0, .ref s0), (1, .int p0)] := hl
  have hf15 := hts (.fieldLink RX6 15 "OlderByABlush$Standing" "village" "LOlderByABlush$Village;") (by decide +kernel)
  have hinX6 : ∀ w ∈ u_ws RX6 TX6 2, w ∈ wsX6_othersKnowing := by decide +kernel
  refine lv_aload_n hx hb dX6_othersKnowing_0 rfl (lv_at hl 0 rfl) ?_
  refine lv_iload_n hx hb dX6_othersKnowing_1 rfl (lv_at hl 1 rfl) ?_
  refine ro_i (va_runV (As := [.int p0]) (rest := []) ⟨hx, hb, hml, hown, hts⟩ (c_X6_knowersOf l D cI cC cG s0 s1 v0 v1 v2 v3 v4 v5 row vP vS vD vAg vKi vMe vOw vFk p0) (cwV 1 hts gX6_othersKnowing_X6_knowersOf rfl rfl rfl (by decide +kernel) ⟨Nat.le_of_ble_eq_true rfl, Nat.le_of_ble_eq_true rfl⟩) (q_preV hK hP hN [0, 1, 2, 3, 4, 5, 6, 7] rfl (ci := 6) (q0 := 0) rfl rfl) rfl rfl hl.1 rfl (lv_room (Nat.le_of_ble_eq_true rfl)) dX6_othersKnowing_2 ⟨Nat.zero_le _, Nat.zero_le _⟩) hS hP (fun H locs hP hS => ?_)
  refine lv_iconst (v := 1) hx hb dX6_othersKnowing_5 (by decide) ?_
  refine lv_aload_n hx hb dX6_othersKnowing_6 rfl (lv_at hl 0 rfl) ?_
  refine va_get (D := D) (ci := 6) (v := .ref v0) (C := RX6) (T := TX6) (N := 2) hx hb hts hinX6 hown hK hP 0 rfl rfl 0 (by decide) hf15 (fun _ h9 => h9) rfl dX6_othersKnowing_7 ?_
  refine lv_iload_n hx hb dX6_othersKnowing_10 rfl (lv_at hl 1 rfl) ?_
  refine ro_i (va_runV (As := [.int p0]) (rest := [.int 1, .int (f_X6_knowersOf row vS p0)]) ⟨hx, hb, hml, hown, hts⟩ (c_X7_ownerOf l D cI cC cG v0 v1 v2 v3 v4 v5 vP vS vD vAg vKi vMe vOw vFk p0) (cwV 1 hts gX6_othersKnowing_X7_ownerOf rfl rfl rfl (by decide +kernel) ⟨Nat.le_of_ble_eq_true rfl, Nat.le_of_ble_eq_true rfl⟩) (q_preV hK hP hN [2, 3, 4, 5, 6, 7] rfl (ci := 7) (q0 := 2) rfl rfl) rfl rfl hl.1 rfl (lv_room (Nat.le_of_ble_eq_true rfl)) dX6_othersKnowing_11 ⟨Nat.zero_le _, Nat.zero_le _⟩) hS hP (fun H locs hP hS => ?_)
  refine lv_ishl hx hb dX6_othersKnowing_14 ?_
  refine lv_iconst (v := (-1)) hx hb dX6_othersKnowing_15 (by decide) ?_
  refine lv_ixor hx hb dX6_othersKnowing_16 ?_
  refine lv_iand hx hb dX6_othersKnowing_17 ?_
  refine ro_i (va_runS (As := [.int ((f_X6_knowersOf row vS p0) &&& ((1 <<< ((f_X7_ownerOf vS vOw p0) &&& 31)) ^^^ (-1)))]) (rest := []) ⟨hx, hb, hml, hown, hts⟩ (c_J6_bitCount_0f7a4 l D cI cC cG ((f_X6_knowersOf row vS p0) &&& ((1 <<< ((f_X7_ownerOf vS vOw p0) &&& 31)) ^^^ (-1)))) (va_cwS 1 hts gX6_othersKnowing_J6_bitCount_0f7a4 rfl rfl rfl (by decide +kernel) ⟨Nat.le_of_ble_eq_true rfl, Nat.le_of_ble_eq_true rfl⟩) (q_preS hK hP hN [] rfl) rfl rfl hl.1 rfl (lv_room (Nat.le_of_ble_eq_true rfl)) dX6_othersKnowing_18 ⟨Nat.zero_le _, Nat.zero_le _⟩) hS hP (fun H locs hP hS => ?_)
  exact ro_iret hx hb hr hlocks hS (by simp only [f_X6_othersKnowing]) dX6_othersKnowing_21
def F_X6_agesTogether_4 (row : Nat → Int32) (vP : Int32) (i0_ : Int32) : Nat → Int32
  | 0 => i0_
  | j4_ + 1 => ((F_X6_agesTogether_4 row vP i0_ j4_) + (f_X6_ageOf row vP (nI j4_)))
def f_X6_agesTogether (row : Nat → Int32) (vP : Int32) : Int32 := (F_X6_agesTogether_4 row vP 0 6)
abbrev rm_X6_agesTogether : Room := { frames := 2, cells := 0, slots := 0, locals := 42 }
set_option maxRecDepth 100000 in
set_option maxHeartbeats 4000000 in
theorem c_X6_agesTogether (l : Launch) (D : va_G) (cI cC cG : ClassId) (s0 : Nat) (s1 : Nat) (v0 : Nat) (v1 : Nat) (v2 : Nat) (v3 : Nat) (v4 : Nat) (v5 : Nat) (row : Nat → Int32) (vP : Int32) (vS : Int32) (vD : Int32) (vAg : Nat → Int32) (vKi : Nat → Int32) (vMe : Nat → Int32) (vOw : Nat → Int32) (vFk : Nat → Int32) : RoI l yX6_agesTogether wsX6_agesTogether rm_X6_agesTogether D (q_t cI cC cG) (wS cI cC cG s0 s1 v0 v1 v2 v3 v4 v5 row vP vS vD vAg vKi vMe vOw vFk) [.ref s0] (f_X6_agesTogether row vP) := by
  refine ro_enter (cc := cX6_agesTogether) (maxL := 3) (ret := (some .int)) (by decide) rfl (Nat.le_of_ble_eq_true rfl) ?_
  intro p e s m below meth c ls B hP hK hl
  obtain ⟨hx, hb, hr, hlocks, hml, hown, hts, hN⟩ := B
  have hS : va_S q_no s.heap s.heap [] := va_S.rf
  have hown : s.vm.findClass RX6 = some m.cls := hown
  have hl : lv_has ls 3 [(0, .ref s0)] := hl
  refine lv_iconst (v := 0) hx hb dX6_agesTogether_0 (by decide) ?_
  refine lv_istore_n (lv' := [(1, .int 0), (0, .ref s0)]) hx hb dX6_agesTogether_1 rfl hl (by decide) rfl (fun ls hl => ?_)
  refine lv_iconst (v := 0) hx hb dX6_agesTogether_2 (by decide) ?_
  refine lv_istore_n (lv' := [(2, .int 0), (1, .int 0), (0, .ref s0)]) hx hb dX6_agesTogether_3 rfl hl (by decide) rfl (fun ls hl => ?_)
  have K4_ : ∀ (H : Heap) (locs : List Loc), va_P D vwCl [(s0, .inr (6, [.ref v0, .ref s1])), (s1, .inl (cI, 15, .inl row)), (v0, .inr (7, [.ref v1, .ref v2, .ref v3, .ref v4, .ref v5, .int vP, .int vS, .int vD])), (v1, .inl (cI, 6, .inl vAg)), (v2, .inl (cI, 6, .inl vKi)), (v3, .inl (cI, 6, .inl vMe)), (v4, .inl (cI, 8, .inl vOw)), (v5, .inl (cI, 8, .inl vFk))] H → va_S q_no s.heap H locs → ∀ ls : Array Slot, lv_has ls 3 [(1, .int (F_X6_agesTogether_4 row vP 0 6))] → W p l e rm_X6_agesTogether s m ([.ref s0] : List Value).toArray below meth c H locs 0 0 (MQ below (q_Qi (f_X6_agesTogether row vP)) ([.ref s0] : List Value).toArray s 0 0 q_no) (F0 m 24 ls []) := by
    intro H locs hP hS ls hl
    refine lv_iload_n hx hb dX6_agesTogether_24 rfl (lv_at hl 0 rfl) ?_
    exact ro_iret hx hb hr hlocks hS (by simp only [f_X6_agesTogether]) dX6_agesTogether_25
  have loop4_ : ∀ (n4_ j4_ : Nat), j4_ + n4_ = 6 → ∀ (H : Heap) (locs : List Loc), va_P D vwCl [(s0, .inr (6, [.ref v0, .ref s1])), (s1, .inl (cI, 15, .inl row)), (v0, .inr (7, [.ref v1, .ref v2, .ref v3, .ref v4, .ref v5, .int vP, .int vS, .int vD])), (v1, .inl (cI, 6, .inl vAg)), (v2, .inl (cI, 6, .inl vKi)), (v3, .inl (cI, 6, .inl vMe)), (v4, .inl (cI, 8, .inl vOw)), (v5, .inl (cI, 8, .inl vFk))] H → va_S q_no s.heap H locs → ∀ ls : Array Slot, lv_has ls 3 [(0, .ref s0), (1, .int (F_X6_agesTogether_4 row vP 0 j4_)), (2, .int (nI j4_))] → W p l e rm_X6_agesTogether s m ([.ref s0] : List Value).toArray below meth c H locs 0 0 (MQ below (q_Qi (f_X6_agesTogether row vP)) ([.ref s0] : List Value).toArray s 0 0 q_no) (F0 m 4 ls []) := by
    intro n4_
    induction n4_ with
    | zero =>
      intro j4_ hj4_ H locs hP hS ls hl
      obtain rfl : j4_ = 6 := by omega
      refine lv_iload_n hx hb dX6_agesTogether_4 rfl (lv_at hl 2 rfl) ?_
      refine lv_bipush (v := 6) hx hb dX6_agesTogether_5 (by decide) ?_
      refine lv_icmp_ge (tgt := 24) hx hb dX6_agesTogether_7 (by decide) (fun c_1 => ?_) (fun c_1 => ?_)
      rotate_left
      · exact absurd (nI_le (Nat.le_refl 6) (by decide)) c_1
      exact K4_ _ _ hP hS _ (lv_sub hl [1] rfl)
    | succ n4_ ih4_ =>
      intro j4_ hj4_ H locs hP hS ls hl
      refine lv_iload_n hx hb dX6_agesTogether_4 rfl (lv_at hl 2 rfl) ?_
      refine lv_bipush (v := 6) hx hb dX6_agesTogether_5 (by decide) ?_
      refine lv_icmp_ge (tgt := 24) hx hb dX6_agesTogether_7 (by decide) (fun c_2 => ?_) (fun c_2 => ?_)
      · exact absurd c_2 (nI_ge (b := 6) (by omega) (by decide))
      refine lv_iload_n hx hb dX6_agesTogether_10 rfl (lv_at hl 1 rfl) ?_
      refine lv_aload_n hx hb dX6_agesTogether_11 rfl (lv_at hl 0 rfl) ?_
      refine lv_iload_n hx hb dX6_agesTogether_12 rfl (lv_at hl 2 rfl) ?_
      refine ro_i (va_runV (As := [.int (nI j4_)]) (rest := [.int (F_X6_agesTogether_4 row vP 0 j4_)]) ⟨hx, hb, hml, hown, hts⟩ (c_X6_ageOf l D cI cC cG s0 s1 v0 v1 v2 v3 v4 v5 row vP vS vD vAg vKi vMe vOw vFk (nI j4_)) (cwV 1 hts gX6_agesTogether_X6_ageOf rfl rfl rfl (by decide +kernel) ⟨Nat.le_of_ble_eq_true rfl, Nat.le_of_ble_eq_true rfl⟩) (q_preV hK hP hN [0, 1, 2, 3, 4, 5, 6, 7] rfl (ci := 6) (q0 := 0) rfl rfl) rfl rfl hl.1 rfl (lv_room (Nat.le_of_ble_eq_true rfl)) dX6_agesTogether_13 ⟨Nat.zero_le _, Nat.zero_le _⟩) hS hP (fun H locs hP hS => ?_)
      refine lv_iadd hx hb dX6_agesTogether_16 ?_
      refine lv_istore_n (lv' := [(1, .int ((F_X6_agesTogether_4 row vP 0 j4_) + (f_X6_ageOf row vP (nI j4_)))), (0, .ref s0), (2, .int (nI j4_))]) hx hb dX6_agesTogether_17 rfl hl (by decide) rfl (fun ls hl => ?_)
      refine lv_iinc (v := (nI (j4_ + 1))) (lv' := [(2, .int (nI (j4_ + 1))), (1, .int ((F_X6_agesTogether_4 row vP 0 j4_) + (f_X6_ageOf row vP (nI j4_)))), (0, .ref s0)]) hx hb dX6_agesTogether_18 hl (k := 2) rfl (nI_1 _) (by decide) rfl (fun ls hl => ?_)
      refine lv_goto (tgt := 4) hx hb dX6_agesTogether_21 (by decide) ?_
      have e_3 : (F_X6_agesTogether_4 row vP 0 (j4_ + 1)) = ((F_X6_agesTogether_4 row vP 0 j4_) + (f_X6_ageOf row vP (nI j4_))) := by simp only [F_X6_agesTogether_4]
      exact ih4_ (j4_ + 1) (by omega) _ _ hP hS _ (by rw [e_3]; exact (lv_sub hl [2, 1, 0] rfl))
  exact loop4_ 6 0 (by omega) _ _ hP hS _ (lv_sub hl [2, 1, 0] rfl)
