abbrev wV (cI cC cG : ClassId) (v0 : Nat) (v1 : Nat) (v2 : Nat) (v3 : Nat) (v4 : Nat) (v5 : Nat) (vP : Int32) (vS : Int32) (vD : Int32) (vAg : Nat → Int32) (vKi : Nat → Int32) (vMe : Nat → Int32) (vOw : Nat → Int32) (vFk : Nat → Int32) : va_W := [(v0, .inr (7, [.ref v1, .ref v2, .ref v3, .ref v4, .ref v5, .int vP, .int vS, .int vD])), (v1, .inl (cI, 6, .inl vAg)), (v2, .inl (cI, 6, .inl vKi)), (v3, .inl (cI, 6, .inl vMe)), (v4, .inl (cI, 8, .inl vOw)), (v5, .inl (cI, 8, .inl vFk))]
def f_X7_hasPerson (vP : Int32) (p0 : Int32) : Int32 := (if p0 < 0 then 0 else (if vP ≤ p0 then 0 else (if 6 ≤ p0 then 0 else 1)))
abbrev rm_X7_hasPerson : Room := { frames := 0, cells := 0, slots := 0, locals := 0 }
set_option maxRecDepth 100000 in
set_option maxHeartbeats 4000000 in
theorem c_X7_hasPerson (l : Launch) (D : va_G) (cI cC cG : ClassId) (v0 : Nat) (v1 : Nat) (v2 : Nat) (v3 : Nat) (v4 : Nat) (v5 : Nat) (vP : Int32) (vS : Int32) (vD : Int32) (vAg : Nat → Int32) (vKi : Nat → Int32) (vMe : Nat → Int32) (vOw : Nat → Int32) (vFk : Nat → Int32) (p0 : Int32) : RoI l yX7_hasPerson wsX7_hasPerson rm_X7_hasPerson D (q_t cI cC cG) (wV cI cC cG v0 v1 v2 v3 v4 v5 vP vS vD vAg vKi vMe vOw vFk) [.ref v0, .int p0] (f_X7_hasPerson vP p0) := by
  refine ro_enter (cc := cX7_hasPerson) (maxL := 2) (ret := (some .boolean)) (by decide) rfl (Nat.le_of_ble_eq_true rfl) ?_
  intro p e s m below meth c ls B hP hK hl
  obtain ⟨hx, hb, hr, hlocks, hml, hown, hts, hN⟩ := B
  have hS : va_S q_no s.heap s.heap [] := va_S.rf
  have hown : s.vm.findClass RX7 = some m.cls := hown
  have hl : lv_has ls 2 [(0, .ref v0), (1, .int p0)] := hl
  have hf27 := hts (.fieldLink RX7 27 "OlderByABlush$Village" "people" "I") (by decide +kernel)
  have hinX7 : ∀ w ∈ u_ws RX7 TX7 8, w ∈ wsX7_hasPerson := by decide +kernel
  refine lv_iload_n hx hb dX7_hasPerson_0 rfl (lv_at hl 1 rfl) ?_
  refine lv_if_lt (tgt := 22) hx hb dX7_hasPerson_1 (by decide) (fun c_1 => ?_) (fun c_1 => ?_)
  · refine lv_iconst (v := 0) hx hb dX7_hasPerson_22 (by decide) ?_
    exact ro_zret hx hb hr (by rfl) hlocks hS (by simp only [f_X7_hasPerson, if_pos c_1]) dX7_hasPerson_23
  refine lv_iload_n hx hb dX7_hasPerson_4 rfl (lv_at hl 1 rfl) ?_
  refine lv_aload_n hx hb dX7_hasPerson_5 rfl (lv_at hl 0 rfl) ?_
  refine va_get (D := D) (ci := 7) (v := .int vP) (C := RX7) (T := TX7) (N := 8) hx hb hts hinX7 hown hK hP 0 rfl rfl 5 (by decide) hf27 (fun _ h9 => h9) rfl dX7_hasPerson_6 ?_
  refine lv_icmp_ge (tgt := 22) hx hb dX7_hasPerson_9 (by decide) (fun c_2 => ?_) (fun c_2 => ?_)
  · refine lv_iconst (v := 0) hx hb dX7_hasPerson_22 (by decide) ?_
    exact ro_zret hx hb hr (by rfl) hlocks hS (by simp only [f_X7_hasPerson, if_neg c_1, if_pos c_2]) dX7_hasPerson_23
  refine lv_iload_n hx hb dX7_hasPerson_12 rfl (lv_at hl 1 rfl) ?_
  refine lv_bipush (v := 6) hx hb dX7_hasPerson_13 (by decide) ?_
  refine lv_icmp_ge (tgt := 22) hx hb dX7_hasPerson_15 (by decide) (fun c_3 => ?_) (fun c_3 => ?_)
  · refine lv_iconst (v := 0) hx hb dX7_hasPerson_22 (by decide) ?_
    exact ro_zret hx hb hr (by rfl) hlocks hS (by simp only [f_X7_hasPerson, if_neg c_1, if_neg c_2, if_pos c_3]) dX7_hasPerson_23
  refine lv_iconst (v := 1) hx hb dX7_hasPerson_18 (by decide) ?_
  refine lv_goto (tgt := 23) hx hb dX7_hasPerson_19 (by decide) ?_
  exact ro_zret hx hb hr (by rfl) hlocks hS (by simp only [f_X7_hasPerson, if_neg c_1, if_neg c_2, if_neg c_3]) dX7_hasPerson_23
def f_X7_hasSecret (vS : Int32) (p0 : Int32) : Int32 := (if p0 < 0 then 0 else (if vS ≤ p0 then 0 else (if 8 ≤ p0 then 0 else 1)))
abbrev rm_X7_hasSecret : Room := { frames := 0, cells := 0, slots := 0, locals := 0 }
set_option maxRecDepth 100000 in
set_option maxHeartbeats 4000000 in
theorem c_X7_hasSecret (l : Launch) (D : va_G) (cI cC cG : ClassId) (v0 : Nat) (v1 : Nat) (v2 : Nat) (v3 : Nat) (v4 : Nat) (v5 : Nat) (vP : Int32) (vS : Int32) (vD : Int32) (vAg : Nat → Int32) (vKi : Nat → Int32) (vMe : Nat → Int32) (vOw : Nat → Int32) (vFk : Nat → Int32) (p0 : Int32) : RoI l yX7_hasSecret wsX7_hasSecret rm_X7_hasSecret D (q_t cI cC cG) (wV cI cC cG v0 v1 v2 v3 v4 v5 vP vS vD vAg vKi vMe vOw vFk) [.ref v0, .int p0] (f_X7_hasSecret vS p0) := by
  refine ro_enter (cc := cX7_hasSecret) (maxL := 2) (ret := (some .boolean)) (by decide) rfl (Nat.le_of_ble_eq_true rfl) ?_
  intro p e s m below meth c ls B hP hK hl
  obtain ⟨hx, hb, hr, hlocks, hml, hown, hts, hN⟩ := B
  have hS : va_S q_no s.heap s.heap [] := va_S.rf
  have hown : s.vm.findClass RX7 = some m.cls := hown
  have hl : lv_has ls 2 [(0, .ref v0), (1, .int p0)] := hl
  have hf31 := hts (.fieldLink RX7 31 "OlderByABlush$Village" "secrets" "I") (by decide +kernel)
  have hinX7 : ∀ w ∈ u_ws RX7 TX7 8, w ∈ wsX7_hasSecret := by decide +kernel
  refine lv_iload_n hx hb dX7_hasSecret_0 rfl (lv_at hl 1 rfl) ?_
  refine lv_if_lt (tgt := 22) hx hb dX7_hasSecret_1 (by decide) (fun c_1 => ?_) (fun c_1 => ?_)
  · refine lv_iconst (v := 0) hx hb dX7_hasSecret_22 (by decide) ?_
    exact ro_zret hx hb hr (by rfl) hlocks hS (by simp only [f_X7_hasSecret, if_pos c_1]) dX7_hasSecret_23
  refine lv_iload_n hx hb dX7_hasSecret_4 rfl (lv_at hl 1 rfl) ?_
  refine lv_aload_n hx hb dX7_hasSecret_5 rfl (lv_at hl 0 rfl) ?_
  refine va_get (D := D) (ci := 7) (v := .int vS) (C := RX7) (T := TX7) (N := 8) hx hb hts hinX7 hown hK hP 0 rfl rfl 6 (by decide) hf31 (fun _ h9 => h9) rfl dX7_hasSecret_6 ?_
  refine lv_icmp_ge (tgt := 22) hx hb dX7_hasSecret_9 (by decide) (fun c_2 => ?_) (fun c_2 => ?_)
  · refine lv_iconst (v := 0) hx hb dX7_hasSecret_22 (by decide) ?_
    exact ro_zret hx hb hr (by rfl) hlocks hS (by simp only [f_X7_hasSecret, if_neg c_1, if_pos c_2]) dX7_hasSecret_23
  refine lv_iload_n hx hb dX7_hasSecret_12 rfl (lv_at hl 1 rfl) ?_
  refine lv_bipush (v := 8) hx hb dX7_hasSecret_13 (by decide) ?_
  refine lv_icmp_ge (tgt := 22) hx hb dX7_hasSecret_15 (by decide) (fun c_3 => ?_) (fun c_3 => ?_)
  · refine lv_iconst (v := 0) hx hb dX7_hasSecret_22 (by decide) ?_
    exact ro_zret hx hb hr (by rfl) hlocks hS (by simp only [f_X7_hasSecret, if_neg c_1, if_neg c_2, if_pos c_3]) dX7_hasSecret_23
  refine lv_iconst (v := 1) hx hb dX7_hasSecret_18 (by decide) ?_
  refine lv_goto (tgt := 23) hx hb dX7_hasSecret_19 (by decide) ?_
  exact ro_zret hx hb hr (by rfl) hlocks hS (by simp only [f_X7_hasSecret, if_neg c_1, if_neg c_2, if_neg c_3]) dX7_hasSecret_23
theorem in_person {p i : Int32} (h : ¬ f_X7_hasPerson p i = 0) : vp_in i 6 := by
  unfold f_X7_hasPerson at h
  rw [vp_in_iff]
  have e0 : (0 : Int32).toInt = 0 := by decide
  have e6 : (6 : Int32).toInt = 6 := by decide
  simp only [Int32.lt_iff_toInt_lt, Int32.le_iff_toInt_le, e0, e6] at h
  repeat' split at h
  all_goals first | exact absurd rfl h | omega
theorem in_secret {p i : Int32} (h : ¬ f_X7_hasSecret p i = 0) : vp_in i 8 := by
  unfold f_X7_hasSecret at h
  rw [vp_in_iff]
  have e0 : (0 : Int32).toInt = 0 := by decide
  have e6 : (8 : Int32).toInt = 8 := by decide
  simp only [Int32.lt_iff_toInt_lt, Int32.le_iff_toInt_le, e0, e6] at h
  repeat' split at h
  all_goals first | exact absurd rfl h | omega
def f_X7_people (vP : Int32) : Int32 := vP
abbrev rm_X7_people : Room := { frames := 0, cells := 0, slots := 0, locals := 0 }
set_option maxRecDepth 100000 in
set_option maxHeartbeats 4000000 in
theorem c_X7_people (l : Launch) (D : va_G) (cI cC cG : ClassId) (v0 : Nat) (v1 : Nat) (v2 : Nat) (v3 : Nat) (v4 : Nat) (v5 : Nat) (vP : Int32) (vS : Int32) (vD : Int32) (vAg : Nat → Int32) (vKi : Nat → Int32) (vMe : Nat → Int32) (vOw : Nat → Int32) (vFk : Nat → Int32) : RoI l yX7_people wsX7_people rm_X7_people D (q_t cI cC cG) (wV cI cC cG v0 v1 v2 v3 v4 v5 vP vS vD vAg vKi vMe vOw vFk) [.ref v0] (f_X7_people vP) := by
  refine ro_enter (cc := cX7_people) (maxL := 1) (ret := (some .int)) (by decide) rfl (Nat.le_of_ble_eq_true rfl) ?_
  intro p e s m below meth c ls B hP hK hl
  obtain ⟨hx, hb, hr, hlocks, hml, hown, hts, hN⟩ := B
  have hS : va_S q_no s.heap s.heap [] := va_S.rf
  have hown : s.vm.findClass RX7 = some m.cls := hown
  have hl : lv_has ls 1 [(0, .ref v0)] := hl
  have hf27 := hts (.fieldLink RX7 27 "OlderByABlush$Village" "people" "I") (by decide +kernel)
  have hinX7 : ∀ w ∈ u_ws RX7 TX7 8, w ∈ wsX7_people := by decide +kernel
  refine lv_aload_n hx hb dX7_people_0 rfl (lv_at hl 0 rfl) ?_
  refine va_get (D := D) (ci := 7) (v := .int vP) (C := RX7) (T := TX7) (N := 8) hx hb hts hinX7 hown hK hP 0 rfl rfl 5 (by decide) hf27 (fun _ h9 => h9) rfl dX7_people_1 ?_
  exact ro_iret hx hb hr hlocks hS (by simp only [f_X7_people]) dX7_people_4
def f_X7_secrets (vS : Int32) : Int32 := vS
abbrev rm_X7_secrets : Room := { frames := 0, cells := 0, slots := 0, locals := 0 }
set_option maxRecDepth 100000 in
set_option maxHeartbeats 4000000 in
theorem c_X7_secrets (l : Launch) (D : va_G) (cI cC cG : ClassId) (v0 : Nat) (v1 : Nat) (v2 : Nat) (v3 : Nat) (v4 : Nat) (v5 : Nat) (vP : Int32) (vS : Int32) (vD : Int32) (vAg : Nat → Int32) (vKi : Nat → Int32) (vMe : Nat → Int32) (vOw : Nat → Int32) (vFk : Nat → Int32) : RoI l yX7_secrets wsX7_secrets rm_X7_secrets D (q_t cI cC cG) (wV cI cC cG v0 v1 v2 v3 v4 v5 vP vS vD vAg vKi vMe vOw vFk) [.ref v0] (f_X7_secrets vS) := by
  refine ro_enter (cc := cX7_secrets) (maxL := 1) (ret := (some .int)) (by decide) rfl (Nat.le_of_ble_eq_true rfl) ?_
  intro p e s m below meth c ls B hP hK hl
  obtain ⟨hx, hb, hr, hlocks, hml, hown, hts, hN⟩ := B
  have hS : va_S q_no s.heap s.heap [] := va_S.rf
  have hown : s.vm.findClass RX7 = some m.cls := hown
  have hl : lv_has ls 1 [(0, .ref v0)] := hl
  have hf31 := hts (.fieldLink RX7 31 "OlderByABlush$Village" "secrets" "I") (by decide +kernel)
  have hinX7 : ∀ w ∈ u_ws RX7 TX7 8, w ∈ wsX7_secrets := by decide +kernel
  refine lv_aload_n hx hb dX7_secrets_0 rfl (lv_at hl 0 rfl) ?_
  refine va_get (D := D) (ci := 7) (v := .int vS) (C := RX7) (T := TX7) (N := 8) hx hb hts hinX7 hown hK hP 0 rfl rfl 6 (by decide) hf31 (fun _ h9 => h9) rfl dX7_secrets_1 ?_
  exact ro_iret hx hb hr hlocks hS (by simp only [f_X7_secrets]) dX7_secrets_4
def f_X7_deathAge (vD : Int32) : Int32 := vD
abbrev rm_X7_deathAge : Room := { frames := 0, cells := 0, slots := 0, locals := 0 }
set_option maxRecDepth 100000 in
set_option maxHeartbeats 4000000 in
theorem c_X7_deathAge (l : Launch) (D : va_G) (cI cC cG : ClassId) (v0 : Nat) (v1 : Nat) (v2 : Nat) (v3 : Nat) (v4 : Nat) (v5 : Nat) (vP : Int32) (vS : Int32) (vD : Int32) (vAg : Nat → Int32) (vKi : Nat → Int32) (vMe : Nat → Int32) (vOw : Nat → Int32) (vFk : Nat → Int32) : RoI l yX7_deathAge wsX7_deathAge rm_X7_deathAge D (q_t cI cC cG) (wV cI cC cG v0 v1 v2 v3 v4 v5 vP vS vD vAg vKi vMe vOw vFk) [.ref v0] (f_X7_deathAge vD) := by
  refine ro_enter (cc := cX7_deathAge) (maxL := 1) (ret := (some .int)) (by decide) rfl (Nat.le_of_ble_eq_true rfl) ?_
  intro p e s m below meth c ls B hP hK hl
  obtain ⟨hx, hb, hr, hlocks, hml, hown, hts, hN⟩ := B
  have hS : va_S q_no s.heap s.heap [] := va_S.rf
  have hown : s.vm.findClass RX7 = some m.cls := hown
  have hl : lv_has ls 1 [(0, .ref v0)] := hl
  have hf34 := hts (.fieldLink RX7 34 "OlderByABlush$Village" "deathAge" "I") (by decide +kernel)
  have hinX7 : ∀ w ∈ u_ws RX7 TX7 8, w ∈ wsX7_deathAge := by decide +kernel
  refine lv_aload_n hx hb dX7_deathAge_0 rfl (lv_at hl 0 rfl) ?_
  refine va_get (D := D) (ci := 7) (v := .int vD) (C := RX7) (T := TX7) (N := 8) hx hb hts hinX7 hown hK hP 0 rfl rfl 7 (by decide) hf34 (fun _ h9 => h9) rfl dX7_deathAge_1 ?_
  exact ro_iret hx hb hr hlocks hS (by simp only [f_X7_deathAge]) dX7_deathAge_4
def f_X7_kindOf (vP : Int32) (vKi : Nat → Int32) (p0 : Int32) : Int32 := (if (f_X7_hasPerson vP p0) = 0 then 0 else (vKi (Int32.toNatClampNeg p0)))
abbrev rm_X7_kindOf : Room := { frames := 1, cells := 0, slots := 0, locals := 21 }
set_option maxRecDepth 100000 in
set_option maxHeartbeats 4000000 in
theorem c_X7_kindOf (l : Launch) (D : va_G) (cI cC cG : ClassId) (v0 : Nat) (v1 : Nat) (v2 : Nat) (v3 : Nat) (v4 : Nat) (v5 : Nat) (vP : Int32) (vS : Int32) (vD : Int32) (vAg : Nat → Int32) (vKi : Nat → Int32) (vMe : Nat → Int32) (vOw : Nat → Int32) (vFk : Nat → Int32) (p0 : Int32) : RoI l yX7_kindOf wsX7_kindOf rm_X7_kindOf D (q_t cI cC cG) (wV cI cC cG v0 v1 v2 v3 v4 v5 vP vS vD vAg vKi vMe vOw vFk) [.ref v0, .int p0] (f_X7_kindOf vP vKi p0) := by
  refine ro_enter (cc := cX7_kindOf) (maxL := 2) (ret := (some .int)) (by decide) rfl (Nat.le_of_ble_eq_true rfl) ?_
  intro p e s m below meth c ls B hP hK hl
  obtain ⟨hx, hb, hr, hlocks, hml, hown, hts, hN⟩ := B
  have hS : va_S q_no s.heap s.heap [] := va_S.rf
  have hown : s.vm.findClass RX7 = some m.cls := hown
  have hl : lv_has ls 2 [(0, .ref v0), (1, .int p0)] := hl
  have hf15 := hts (.fieldLink RX7 15 "OlderByABlush$Village" "kindRow" "[I") (by decide +kernel)
  have hinX7 : ∀ w ∈ u_ws RX7 TX7 8, w ∈ wsX7_kindOf := by decide +kernel
  refine lv_aload_n hx hb dX7_kindOf_0 rfl (lv_at hl 0 rfl) ?_
  refine lv_iload_n hx hb dX7_kindOf_1 rfl (lv_at hl 1 rfl) ?_
  refine ro_i (va_runV (As := [.int p0]) (rest := []) ⟨hx, hb, hml, hown, hts⟩ (c_X7_hasPerson l D cI cC cG v0 v1 v2 v3 v4 v5 vP vS vD vAg vKi vMe vOw vFk p0) (cwV 1 hts gX7_kindOf_X7_hasPerson rfl rfl rfl (by decide +kernel) ⟨Nat.le_of_ble_eq_true rfl, Nat.le_of_ble_eq_true rfl⟩) (q_preV hK hP hN [0, 1, 2, 3, 4, 5] rfl (ci := 7) (q0 := 0) rfl rfl) rfl rfl hl.1 rfl (lv_room (Nat.le_of_ble_eq_true rfl)) dX7_kindOf_2 ⟨Nat.zero_le _, Nat.zero_le _⟩) hS hP (fun H locs hP hS => ?_)
  refine lv_if_eq (tgt := 17) hx hb dX7_kindOf_5 (by decide) (fun c_1 => ?_) (fun c_1 => ?_)
  · refine lv_iconst (v := 0) hx hb dX7_kindOf_17 (by decide) ?_
    exact ro_iret hx hb hr hlocks hS (by simp only [f_X7_kindOf, if_pos c_1]) dX7_kindOf_18
  refine lv_aload_n hx hb dX7_kindOf_8 rfl (lv_at hl 0 rfl) ?_
  refine va_get (D := D) (ci := 7) (v := .ref v2) (C := RX7) (T := TX7) (N := 8) hx hb hts hinX7 hown hK hP 0 rfl rfl 1 (by decide) hf15 (fun _ h9 => h9) rfl dX7_kindOf_9 ?_
  refine lv_iload_n hx hb dX7_kindOf_12 rfl (lv_at hl 1 rfl) ?_
  refine q_iald hx hb hK hP 2 0 rfl rfl (vp_mono (in_person c_1) (by decide)) (Int32.toNatClampNeg p0) rfl dX7_kindOf_13 ?_
  refine lv_goto (tgt := 18) hx hb dX7_kindOf_14 (by decide) ?_
  exact ro_iret hx hb hr hlocks hS (by simp only [f_X7_kindOf, if_neg c_1]) dX7_kindOf_18
def f_X7_ownerOf (vS : Int32) (vOw : Nat → Int32) (p0 : Int32) : Int32 := (if (f_X7_hasSecret vS p0) = 0 then 0 else (vOw (Int32.toNatClampNeg p0)))
abbrev rm_X7_ownerOf : Room := { frames := 1, cells := 0, slots := 0, locals := 21 }
set_option maxRecDepth 100000 in
set_option maxHeartbeats 4000000 in
theorem c_X7_ownerOf (l : Launch) (D : va_G) (cI cC cG : ClassId) (v0 : Nat) (v1 : Nat) (v2 : Nat) (v3 : Nat) (v4 : Nat) (v5 : Nat) (vP : Int32) (vS : Int32) (vD : Int32) (vAg : Nat → Int32) (vKi : Nat → Int32) (vMe : Nat → Int32) (vOw : Nat → Int32) (vFk : Nat → Int32) (p0 : Int32) : RoI l yX7_ownerOf wsX7_ownerOf rm_X7_ownerOf D (q_t cI cC cG) (wV cI cC cG v0 v1 v2 v3 v4 v5 vP vS vD vAg vKi vMe vOw vFk) [.ref v0, .int p0] (f_X7_ownerOf vS vOw p0) := by
  refine ro_enter (cc := cX7_ownerOf) (maxL := 2) (ret := (some .int)) (by decide) rfl (Nat.le_of_ble_eq_true rfl) ?_
  intro p e s m below meth c ls B hP hK hl
  obtain ⟨hx, hb, hr, hlocks, hml, hown, hts, hN⟩ := B
  have hS : va_S q_no s.heap s.heap [] := va_S.rf
  have hown : s.vm.findClass RX7 = some m.cls := hown
  have hl : lv_has ls 2 [(0, .ref v0), (1, .int p0)] := hl
  have hf21 := hts (.fieldLink RX7 21 "OlderByABlush$Village" "owners" "[I") (by decide +kernel)
  have hinX7 : ∀ w ∈ u_ws RX7 TX7 8, w ∈ wsX7_ownerOf := by decide +kernel
  refine lv_aload_n hx hb dX7_ownerOf_0 rfl (lv_at hl 0 rfl) ?_
  refine lv_iload_n hx hb dX7_ownerOf_1 rfl (lv_at hl 1 rfl) ?_
  refine ro_i (va_runV (As := [.int p0]) (rest := []) ⟨hx, hb, hml, hown, hts⟩ (c_X7_hasSecret l D cI cC cG v0 v1 v2 v3 v4 v5 vP vS vD vAg vKi vMe vOw vFk p0) (cwV 1 hts gX7_ownerOf_X7_hasSecret rfl rfl rfl (by decide +kernel) ⟨Nat.le_of_ble_eq_true rfl, Nat.le_of_ble_eq_true rfl⟩) (q_preV hK hP hN [0, 1, 2, 3, 4, 5] rfl (ci := 7) (q0 := 0) rfl rfl) rfl rfl hl.1 rfl (lv_room (Nat.le_of_ble_eq_true rfl)) dX7_ownerOf_2 ⟨Nat.zero_le _, Nat.zero_le _⟩) hS hP (fun H locs hP hS => ?_)
  refine lv_if_eq (tgt := 17) hx hb dX7_ownerOf_5 (by decide) (fun c_1 => ?_) (fun c_1 => ?_)
  · refine lv_iconst (v := 0) hx hb dX7_ownerOf_17 (by decide) ?_
    exact ro_iret hx hb hr hlocks hS (by simp only [f_X7_ownerOf, if_pos c_1]) dX7_ownerOf_18
  refine lv_aload_n hx hb dX7_ownerOf_8 rfl (lv_at hl 0 rfl) ?_
  refine va_get (D := D) (ci := 7) (v := .ref v4) (C := RX7) (T := TX7) (N := 8) hx hb hts hinX7 hown hK hP 0 rfl rfl 3 (by decide) hf21 (fun _ h9 => h9) rfl dX7_ownerOf_9 ?_
  refine lv_iload_n hx hb dX7_ownerOf_12 rfl (lv_at hl 1 rfl) ?_
  refine q_iald hx hb hK hP 4 0 rfl rfl (vp_mono (in_secret c_1) (by decide)) (Int32.toNatClampNeg p0) rfl dX7_ownerOf_13 ?_
  refine lv_goto (tgt := 18) hx hb dX7_ownerOf_14 (by decide) ?_
  exact ro_iret hx hb hr hlocks hS (by simp only [f_X7_ownerOf, if_neg c_1]) dX7_ownerOf_18
def f_X7_firstAgeOf (vP : Int32) (vAg : Nat → Int32) (p0 : Int32) : Int32 := (if (f_X7_hasPerson vP p0) = 0 then 0 else (vAg (Int32.toNatClampNeg p0)))
abbrev rm_X7_firstAgeOf : Room := { frames := 1, cells := 0, slots := 0, locals := 21 }
set_option maxRecDepth 100000 in
set_option maxHeartbeats 4000000 in
theorem c_X7_firstAgeOf (l : Launch) (D : va_G) (cI cC cG : ClassId) (v0 : Nat) (v1 : Nat) (v2 : Nat) (v3 : Nat) (v4 : Nat) (v5 : Nat) (vP : Int32) (vS : Int32) (vD : Int32) (vAg : Nat → Int32) (vKi : Nat → Int32) (vMe : Nat → Int32) (vOw : Nat → Int32) (vFk : Nat → Int32) (p0 : Int32) : RoI l yX7_firstAgeOf wsX7_firstAgeOf rm_X7_firstAgeOf D (q_t cI cC cG) (wV cI cC cG v0 v1 v2 v3 v4 v5 vP vS vD vAg vKi vMe vOw vFk) [.ref v0, .int p0] (f_X7_firstAgeOf vP vAg p0) := by
  refine ro_enter (cc := cX7_firstAgeOf) (maxL := 2) (ret := (some .int)) (by decide) rfl (Nat.le_of_ble_eq_true rfl) ?_
  intro p e s m below meth c ls B hP hK hl
  obtain ⟨hx, hb, hr, hlocks, hml, hown, hts, hN⟩ := B
  have hS : va_S q_no s.heap s.heap [] := va_S.rf
  have hown : s.vm.findClass RX7 = some m.cls := hown
  have hl : lv_has ls 2 [(0, .ref v0), (1, .int p0)] := hl
  have hf9 := hts (.fieldLink RX7 9 "OlderByABlush$Village" "firstAges" "[I") (by decide +kernel)
  have hinX7 : ∀ w ∈ u_ws RX7 TX7 8, w ∈ wsX7_firstAgeOf := by decide +kernel
  refine lv_aload_n hx hb dX7_firstAgeOf_0 rfl (lv_at hl 0 rfl) ?_
  refine lv_iload_n hx hb dX7_firstAgeOf_1 rfl (lv_at hl 1 rfl) ?_
  refine ro_i (va_runV (As := [.int p0]) (rest := []) ⟨hx, hb, hml, hown, hts⟩ (c_X7_hasPerson l D cI cC cG v0 v1 v2 v3 v4 v5 vP vS vD vAg vKi vMe vOw vFk p0) (cwV 1 hts gX7_firstAgeOf_X7_hasPerson rfl rfl rfl (by decide +kernel) ⟨Nat.le_of_ble_eq_true rfl, Nat.le_of_ble_eq_true rfl⟩) (q_preV hK hP hN [0, 1, 2, 3, 4, 5] rfl (ci := 7) (q0 := 0) rfl rfl) rfl rfl hl.1 rfl (lv_room (Nat.le_of_ble_eq_true rfl)) dX7_firstAgeOf_2 ⟨Nat.zero_le _, Nat.zero_le _⟩) hS hP (fun H locs hP hS => ?_)
  refine lv_if_eq (tgt := 17) hx hb dX7_firstAgeOf_5 (by decide) (fun c_1 => ?_) (fun c_1 => ?_)
  · refine lv_iconst (v := 0) hx hb dX7_firstAgeOf_17 (by decide) ?_
    exact ro_iret hx hb hr hlocks hS (by simp only [f_X7_firstAgeOf, if_pos c_1]) dX7_firstAgeOf_18
  refine lv_aload_n hx hb dX7_firstAgeOf_8 rfl (lv_at hl 0 rfl) ?_
  refine va_get (D := D) (ci := 7) (v := .ref v1) (C := RX7) (T := TX7) (N := 8) hx hb hts hinX7 hown hK hP 0 rfl rfl 0 (by decide) hf9 (fun _ h9 => h9) rfl dX7_firstAgeOf_9 ?_
  refine lv_iload_n hx hb dX7_firstAgeOf_12 rfl (lv_at hl 1 rfl) ?_
  refine q_iald hx hb hK hP 1 0 rfl rfl (vp_mono (in_person c_1) (by decide)) (Int32.toNatClampNeg p0) rfl dX7_firstAgeOf_13 ?_
  refine lv_goto (tgt := 18) hx hb dX7_firstAgeOf_14 (by decide) ?_
  exact ro_iret hx hb hr hlocks hS (by simp only [f_X7_firstAgeOf, if_neg c_1]) dX7_firstAgeOf_18
def f_X7_meetingsOf (vP : Int32) (vMe : Nat → Int32) (p0 : Int32) : Int32 := (if (f_X7_hasPerson vP p0) = 0 then 0 else (vMe (Int32.toNatClampNeg p0)))
abbrev rm_X7_meetingsOf : Room := { frames := 1, cells := 0, slots := 0, locals := 21 }
set_option maxRecDepth 100000 in
set_option maxHeartbeats 4000000 in
theorem c_X7_meetingsOf (l : Launch) (D : va_G) (cI cC cG : ClassId) (v0 : Nat) (v1 : Nat) (v2 : Nat) (v3 : Nat) (v4 : Nat) (v5 : Nat) (vP : Int32) (vS : Int32) (vD : Int32) (vAg : Nat → Int32) (vKi : Nat → Int32) (vMe : Nat → Int32) (vOw : Nat → Int32) (vFk : Nat → Int32) (p0 : Int32) : RoI l yX7_meetingsOf wsX7_meetingsOf rm_X7_meetingsOf D (q_t cI cC cG) (wV cI cC cG v0 v1 v2 v3 v4 v5 vP vS vD vAg vKi vMe vOw vFk) [.ref v0, .int p0] (f_X7_meetingsOf vP vMe p0) := by
  refine ro_enter (cc := cX7_meetingsOf) (maxL := 2) (ret := (some .int)) (by decide) rfl (Nat.le_of_ble_eq_true rfl) ?_
  intro p e s m below meth c ls B hP hK hl
  obtain ⟨hx, hb, hr, hlocks, hml, hown, hts, hN⟩ := B
  have hS : va_S q_no s.heap s.heap [] := va_S.rf
  have hown : s.vm.findClass RX7 = some m.cls := hown
  have hl : lv_has ls 2 [(0, .ref v0), (1, .int p0)] := hl
  have hf18 := hts (.fieldLink RX7 18 "OlderByABlush$Village" "meetings" "[I") (by decide +kernel)
  have hinX7 : ∀ w ∈ u_ws RX7 TX7 8, w ∈ wsX7_meetingsOf := by decide +kernel
  refine lv_aload_n hx hb dX7_meetingsOf_0 rfl (lv_at hl 0 rfl) ?_
  refine lv_iload_n hx hb dX7_meetingsOf_1 rfl (lv_at hl 1 rfl) ?_
  refine ro_i (va_runV (As := [.int p0]) (rest := []) ⟨hx, hb, hml, hown, hts⟩ (c_X7_hasPerson l D cI cC cG v0 v1 v2 v3 v4 v5 vP vS vD vAg vKi vMe vOw vFk p0) (cwV 1 hts gX7_meetingsOf_X7_hasPerson rfl rfl rfl (by decide +kernel) ⟨Nat.le_of_ble_eq_true rfl, Nat.le_of_ble_eq_true rfl⟩) (q_preV hK hP hN [0, 1, 2, 3, 4, 5] rfl (ci := 7) (q0 := 0) rfl rfl) rfl rfl hl.1 rfl (lv_room (Nat.le_of_ble_eq_true rfl)) dX7_meetingsOf_2 ⟨Nat.zero_le _, Nat.zero_le _⟩) hS hP (fun H locs hP hS => ?_)
  refine lv_if_eq (tgt := 17) hx hb dX7_meetingsOf_5 (by decide) (fun c_1 => ?_) (fun c_1 => ?_)
  · refine lv_iconst (v := 0) hx hb dX7_meetingsOf_17 (by decide) ?_
    exact ro_iret hx hb hr hlocks hS (by simp only [f_X7_meetingsOf, if_pos c_1]) dX7_meetingsOf_18
  refine lv_aload_n hx hb dX7_meetingsOf_8 rfl (lv_at hl 0 rfl) ?_
  refine va_get (D := D) (ci := 7) (v := .ref v3) (C := RX7) (T := TX7) (N := 8) hx hb hts hinX7 hown hK hP 0 rfl rfl 2 (by decide) hf18 (fun _ h9 => h9) rfl dX7_meetingsOf_9 ?_
  refine lv_iload_n hx hb dX7_meetingsOf_12 rfl (lv_at hl 1 rfl) ?_
  refine q_iald hx hb hK hP 3 0 rfl rfl (vp_mono (in_person c_1) (by decide)) (Int32.toNatClampNeg p0) rfl dX7_meetingsOf_13 ?_
  refine lv_goto (tgt := 18) hx hb dX7_meetingsOf_14 (by decide) ?_
  exact ro_iret hx hb hr hlocks hS (by simp only [f_X7_meetingsOf, if_neg c_1]) dX7_meetingsOf_18
def f_X7_firstKnowersOf (vP : Int32) (vS : Int32) (vFk : Nat → Int32) (p0 : Int32) : Int32 := (if (f_X7_hasSecret vS p0) = 0 then 0 else ((vFk (Int32.toNatClampNeg p0)) &&& ((1 <<< (vP &&& 31)) - 1)))
abbrev rm_X7_firstKnowersOf : Room := { frames := 1, cells := 0, slots := 0, locals := 21 }
set_option maxRecDepth 100000 in
set_option maxHeartbeats 4000000 in
theorem c_X7_firstKnowersOf (l : Launch) (D : va_G) (cI cC cG : ClassId) (v0 : Nat) (v1 : Nat) (v2 : Nat) (v3 : Nat) (v4 : Nat) (v5 : Nat) (vP : Int32) (vS : Int32) (vD : Int32) (vAg : Nat → Int32) (vKi : Nat → Int32) (vMe : Nat → Int32) (vOw : Nat → Int32) (vFk : Nat → Int32) (p0 : Int32) : RoI l yX7_firstKnowersOf wsX7_firstKnowersOf rm_X7_firstKnowersOf D (q_t cI cC cG) (wV cI cC cG v0 v1 v2 v3 v4 v5 vP vS vD vAg vKi vMe vOw vFk) [.ref v0, .int p0] (f_X7_firstKnowersOf vP vS vFk p0) := by
  refine ro_enter (cc := cX7_firstKnowersOf) (maxL := 2) (ret := (some .int)) (by decide) rfl (Nat.le_of_ble_eq_true rfl) ?_
  intro p e s m below meth c ls B hP hK hl
  obtain ⟨hx, hb, hr, hlocks, hml, hown, hts, hN⟩ := B
  have hS : va_S q_no s.heap s.heap [] := va_S.rf
  have hown : s.vm.findClass RX7 = some m.cls := hown
  have hl : lv_has ls 2 [(0, .ref v0), (1, .int p0)] := hl
  have hf24 := hts (.fieldLink RX7 24 "OlderByABlush$Village" "firstKnowers" "[I") (by decide +kernel)
  have hinX7 : ∀ w ∈ u_ws RX7 TX7 8, w ∈ wsX7_firstKnowersOf := by decide +kernel
  have hf27 := hts (.fieldLink RX7 27 "OlderByABlush$Village" "people" "I") (by decide +kernel)
  refine lv_aload_n hx hb dX7_firstKnowersOf_0 rfl (lv_at hl 0 rfl) ?_
  refine lv_iload_n hx hb dX7_firstKnowersOf_1 rfl (lv_at hl 1 rfl) ?_
  refine ro_i (va_runV (As := [.int p0]) (rest := []) ⟨hx, hb, hml, hown, hts⟩ (c_X7_hasSecret l D cI cC cG v0 v1 v2 v3 v4 v5 vP vS vD vAg vKi vMe vOw vFk p0) (cwV 1 hts gX7_firstKnowersOf_X7_hasSecret rfl rfl rfl (by decide +kernel) ⟨Nat.le_of_ble_eq_true rfl, Nat.le_of_ble_eq_true rfl⟩) (q_preV hK hP hN [0, 1, 2, 3, 4, 5] rfl (ci := 7) (q0 := 0) rfl rfl) rfl rfl hl.1 rfl (lv_room (Nat.le_of_ble_eq_true rfl)) dX7_firstKnowersOf_2 ⟨Nat.zero_le _, Nat.zero_le _⟩) hS hP (fun H locs hP hS => ?_)
  refine lv_if_eq (tgt := 26) hx hb dX7_firstKnowersOf_5 (by decide) (fun c_1 => ?_) (fun c_1 => ?_)
  · refine lv_iconst (v := 0) hx hb dX7_firstKnowersOf_26 (by decide) ?_
    exact ro_iret hx hb hr hlocks hS (by simp only [f_X7_firstKnowersOf, if_pos c_1]) dX7_firstKnowersOf_27
  refine lv_aload_n hx hb dX7_firstKnowersOf_8 rfl (lv_at hl 0 rfl) ?_
  refine va_get (D := D) (ci := 7) (v := .ref v5) (C := RX7) (T := TX7) (N := 8) hx hb hts hinX7 hown hK hP 0 rfl rfl 4 (by decide) hf24 (fun _ h9 => h9) rfl dX7_firstKnowersOf_9 ?_
  refine lv_iload_n hx hb dX7_firstKnowersOf_12 rfl (lv_at hl 1 rfl) ?_
  refine q_iald hx hb hK hP 5 0 rfl rfl (vp_mono (in_secret c_1) (by decide)) (Int32.toNatClampNeg p0) rfl dX7_firstKnowersOf_13 ?_
  refine lv_iconst (v := 1) hx hb dX7_firstKnowersOf_14 (by decide) ?_
  refine lv_aload_n hx hb dX7_firstKnowersOf_15 rfl (lv_at hl 0 rfl) ?_
  refine va_get (D := D) (ci := 7) (v := .int vP) (C := RX7) (T := TX7) (N := 8) hx hb hts hinX7 hown hK hP 0 rfl rfl 5 (by decide) hf27 (fun _ h9 => h9) rfl dX7_firstKnowersOf_16 ?_
  refine lv_ishl hx hb dX7_firstKnowersOf_19 ?_
  refine lv_iconst (v := 1) hx hb dX7_firstKnowersOf_20 (by decide) ?_
  refine lv_isub hx hb dX7_firstKnowersOf_21 ?_
  refine lv_iand hx hb dX7_firstKnowersOf_22 ?_
  refine lv_goto (tgt := 27) hx hb dX7_firstKnowersOf_23 (by decide) ?_
  exact ro_iret hx hb hr hlocks hS (by simp only [f_X7_firstKnowersOf, if_neg c_1]) dX7_firstKnowersOf_27
def F_X7_secretsOf_4 (x1 : Int32) (vS : Int32) (vOw : Nat → Int32) (i0_ : Int32) : Nat → Int32
  | 0 => i0_
  | j4_ + 1 => (if vS ≤ (nI j4_) then (F_X7_secretsOf_4 x1 vS vOw i0_ j4_) else (if (vOw j4_) = x1 then ((F_X7_secretsOf_4 x1 vS vOw i0_ j4_) ||| (1 <<< ((nI j4_) &&& 31))) else (F_X7_secretsOf_4 x1 vS vOw i0_ j4_)))
def f_X7_secretsOf (vS : Int32) (vOw : Nat → Int32) (p0 : Int32) : Int32 := (F_X7_secretsOf_4 p0 vS vOw 0 8)
abbrev rm_X7_secretsOf : Room := { frames := 0, cells := 0, slots := 0, locals := 0 }
set_option maxRecDepth 100000 in
set_option maxHeartbeats 4000000 in
theorem c_X7_secretsOf (l : Launch) (D : va_G) (cI cC cG : ClassId) (v0 : Nat) (v1 : Nat) (v2 : Nat) (v3 : Nat) (v4 : Nat) (v5 : Nat) (vP : Int32) (vS : Int32) (vD : Int32) (vAg : Nat → Int32) (vKi : Nat → Int32) (vMe : Nat → Int32) (vOw : Nat → Int32) (vFk : Nat → Int32) (p0 : Int32) : RoI l yX7_secretsOf wsX7_secretsOf rm_X7_secretsOf D (q_t cI cC cG) (wV cI cC cG v0 v1 v2 v3 v4 v5 vP vS vD vAg vKi vMe vOw vFk) [.ref v0, .int p0] (f_X7_secretsOf vS vOw p0) := by
  refine ro_enter (cc := cX7_secretsOf) (maxL := 4) (ret := (some .int)) (by decide) rfl (Nat.le_of_ble_eq_true rfl) ?_
  intro p e s m below meth c ls B hP hK hl
  obtain ⟨hx, hb, hr, hlocks, hml, hown, hts, hN⟩ := B
  have hS : va_S q_no s.heap s.heap [] := va_S.rf
  have hown : s.vm.findClass RX7 = some m.cls := hown
  have hl : lv_has ls 4 [(0, .ref v0), (1, .int p0)] := hl
  have hf31 := hts (.fieldLink RX7 31 "OlderByABlush$Village" "secrets" "I") (by decide +kernel)
  have hinX7 : ∀ w ∈ u_ws RX7 TX7 8, w ∈ wsX7_secretsOf := by decide +kernel
  have hf21 := hts (.fieldLink RX7 21 "OlderByABlush$Village" "owners" "[I") (by decide +kernel)
  refine lv_iconst (v := 0) hx hb dX7_secretsOf_0 (by decide) ?_
  refine lv_istore_n (lv' := [(2, .int 0), (0, .ref v0), (1, .int p0)]) hx hb dX7_secretsOf_1 rfl hl (by decide) rfl (fun ls hl => ?_)
  refine lv_iconst (v := 0) hx hb dX7_secretsOf_2 (by decide) ?_
  refine lv_istore_n (lv' := [(3, .int 0), (2, .int 0), (0, .ref v0), (1, .int p0)]) hx hb dX7_secretsOf_3 rfl hl (by decide) rfl (fun ls hl => ?_)
  have K4_ : ∀ (H : Heap) (locs : List Loc), va_P D vwCl [(v0, .inr (7, [.ref v1, .ref v2, .ref v3, .ref v4, .ref v5, .int vP, .int vS, .int vD])), (v1, .inl (cI, 6, .inl vAg)), (v2, .inl (cI, 6, .inl vKi)), (v3, .inl (cI, 6, .inl vMe)), (v4, .inl (cI, 8, .inl vOw)), (v5, .inl (cI, 8, .inl vFk))] H → va_S q_no s.heap H locs → ∀ ls : Array Slot, lv_has ls 4 [(2, .int (F_X7_secretsOf_4 p0 vS vOw 0 8))] → W p l e rm_X7_secretsOf s m ([.ref v0, .int p0] : List Value).toArray below meth c H locs 0 0 (MQ below (q_Qi (f_X7_secretsOf vS vOw p0)) ([.ref v0, .int p0] : List Value).toArray s 0 0 q_no) (F0 m 40 ls []) := by
    intro H locs hP hS ls hl
    refine lv_iload_n hx hb dX7_secretsOf_40 rfl (lv_at hl 0 rfl) ?_
    exact ro_iret hx hb hr hlocks hS (by simp only [f_X7_secretsOf]) dX7_secretsOf_41
  have loop4_ : ∀ (n4_ j4_ : Nat), j4_ + n4_ = 8 → ∀ (H : Heap) (locs : List Loc), va_P D vwCl [(v0, .inr (7, [.ref v1, .ref v2, .ref v3, .ref v4, .ref v5, .int vP, .int vS, .int vD])), (v1, .inl (cI, 6, .inl vAg)), (v2, .inl (cI, 6, .inl vKi)), (v3, .inl (cI, 6, .inl vMe)), (v4, .inl (cI, 8, .inl vOw)), (v5, .inl (cI, 8, .inl vFk))] H → va_S q_no s.heap H locs → ∀ ls : Array Slot, lv_has ls 4 [(0, .ref v0), (1, .int p0), (2, .int (F_X7_secretsOf_4 p0 vS vOw 0 j4_)), (3, .int (nI j4_))] → W p l e rm_X7_secretsOf s m ([.ref v0, .int p0] : List Value).toArray below meth c H locs 0 0 (MQ below (q_Qi (f_X7_secretsOf vS vOw p0)) ([.ref v0, .int p0] : List Value).toArray s 0 0 q_no) (F0 m 4 ls []) := by
    intro n4_
    induction n4_ with
    | zero =>
      intro j4_ hj4_ H locs hP hS ls hl
      obtain rfl : j4_ = 8 := by omega
      refine lv_iload_n hx hb dX7_secretsOf_4 rfl (lv_at hl 3 rfl) ?_
      refine lv_bipush (v := 8) hx hb dX7_secretsOf_5 (by decide) ?_
      refine lv_icmp_ge (tgt := 40) hx hb dX7_secretsOf_7 (by decide) (fun c_1 => ?_) (fun c_1 => ?_)
      rotate_left
      · exact absurd (nI_le (Nat.le_refl 8) (by decide)) c_1
      exact K4_ _ _ hP hS _ (lv_sub hl [2] rfl)
    | succ n4_ ih4_ =>
      intro j4_ hj4_ H locs hP hS ls hl
      refine lv_iload_n hx hb dX7_secretsOf_4 rfl (lv_at hl 3 rfl) ?_
      refine lv_bipush (v := 8) hx hb dX7_secretsOf_5 (by decide) ?_
      refine lv_icmp_ge (tgt := 40) hx hb dX7_secretsOf_7 (by decide) (fun c_2 => ?_) (fun c_2 => ?_)
      · exact absurd c_2 (nI_ge (b := 8) (by omega) (by decide))
      refine lv_iload_n hx hb dX7_secretsOf_10 rfl (lv_at hl 3 rfl) ?_
      refine lv_aload_n hx hb dX7_secretsOf_11 rfl (lv_at hl 0 rfl) ?_
      refine va_get (D := D) (ci := 7) (v := .int vS) (C := RX7) (T := TX7) (N := 8) hx hb hts hinX7 hown hK hP 0 rfl rfl 6 (by decide) hf31 (fun _ h9 => h9) rfl dX7_secretsOf_12 ?_
      refine lv_icmp_ge (tgt := 34) hx hb dX7_secretsOf_15 (by decide) (fun c_3 => ?_) (fun c_3 => ?_)
      · refine lv_iinc (v := (nI (j4_ + 1))) (lv' := [(3, .int (nI (j4_ + 1))), (0, .ref v0), (1, .int p0), (2, .int (F_X7_secretsOf_4 p0 vS vOw 0 j4_))]) hx hb dX7_secretsOf_34 hl (k := 3) rfl (nI_1 _) (by decide) rfl (fun ls hl => ?_)
        refine lv_goto (tgt := 4) hx hb dX7_secretsOf_37 (by decide) ?_
        have e_4 : (F_X7_secretsOf_4 p0 vS vOw 0 (j4_ + 1)) = (F_X7_secretsOf_4 p0 vS vOw 0 j4_) := by simp only [F_X7_secretsOf_4, if_pos c_3]
        exact ih4_ (j4_ + 1) (by omega) _ _ hP hS _ (by rw [e_4]; exact (lv_sub hl [1, 2, 3, 0] rfl))
      refine lv_aload_n hx hb dX7_secretsOf_18 rfl (lv_at hl 0 rfl) ?_
      refine va_get (D := D) (ci := 7) (v := .ref v4) (C := RX7) (T := TX7) (N := 8) hx hb hts hinX7 hown hK hP 0 rfl rfl 3 (by decide) hf21 (fun _ h9 => h9) rfl dX7_secretsOf_19 ?_
      refine lv_iload_n hx hb dX7_secretsOf_22 rfl (lv_at hl 3 rfl) ?_
      refine q_iald hx hb hK hP 4 0 rfl rfl (vp_in_nI (by omega) (by decide)) j4_ (nI_clamp (by omega)) dX7_secretsOf_23 ?_
      refine lv_iload_n hx hb dX7_secretsOf_24 rfl (lv_at hl 1 rfl) ?_
      refine lv_icmp_ne (tgt := 34) hx hb dX7_secretsOf_25 (by decide) (fun c_5 => ?_) (fun c_5 => ?_)
      · refine lv_iinc (v := (nI (j4_ + 1))) (lv' := [(3, .int (nI (j4_ + 1))), (0, .ref v0), (1, .int p0), (2, .int (F_X7_secretsOf_4 p0 vS vOw 0 j4_))]) hx hb dX7_secretsOf_34 hl (k := 3) rfl (nI_1 _) (by decide) rfl (fun ls hl => ?_)
        refine lv_goto (tgt := 4) hx hb dX7_secretsOf_37 (by decide) ?_
        have e_6 : (F_X7_secretsOf_4 p0 vS vOw 0 (j4_ + 1)) = (F_X7_secretsOf_4 p0 vS vOw 0 j4_) := by simp only [F_X7_secretsOf_4, if_neg c_3, if_neg c_5]
        exact ih4_ (j4_ + 1) (by omega) _ _ hP hS _ (by rw [e_6]; exact (lv_sub hl [1, 2, 3, 0] rfl))
      refine lv_iload_n hx hb dX7_secretsOf_28 rfl (lv_at hl 2 rfl) ?_
      refine lv_iconst (v := 1) hx hb dX7_secretsOf_29 (by decide) ?_
      refine lv_iload_n hx hb dX7_secretsOf_30 rfl (lv_at hl 3 rfl) ?_
      refine lv_ishl hx hb dX7_secretsOf_31 ?_
      refine lv_ior hx hb dX7_secretsOf_32 ?_
      refine lv_istore_n (lv' := [(2, .int ((F_X7_secretsOf_4 p0 vS vOw 0 j4_) ||| (1 <<< ((nI j4_) &&& 31)))), (0, .ref v0), (1, .int p0), (3, .int (nI j4_))]) hx hb dX7_secretsOf_33 rfl hl (by decide) rfl (fun ls hl => ?_)
      refine lv_iinc (v := (nI (j4_ + 1))) (lv' := [(3, .int (nI (j4_ + 1))), (2, .int ((F_X7_secretsOf_4 p0 vS vOw 0 j4_) ||| (1 <<< ((nI j4_) &&& 31)))), (0, .ref v0), (1, .int p0)]) hx hb dX7_secretsOf_34 hl (k := 3) rfl (nI_1 _) (by decide) rfl (fun ls hl => ?_)
      refine lv_goto (tgt := 4) hx hb dX7_secretsOf_37 (by decide) ?_
      have e_7 : (F_X7_secretsOf_4 p0 vS vOw 0 (j4_ + 1)) = ((F_X7_secretsOf_4 p0 vS vOw 0 j4_) ||| (1 <<< ((nI j4_) &&& 31))) := by simp only [F_X7_secretsOf_4, if_neg c_3, if_pos c_5]
      exact ih4_ (j4_ + 1) (by omega) _ _ hP hS _ (by rw [e_7]; exact (lv_sub hl [2, 3, 1, 0] rfl))
  exact loop4_ 8 0 (by omega) _ _ hP hS _ (lv_sub hl [2, 3, 1, 0] rfl)
def L_X7_canLive_2 (vP : Int32) (vD : Int32) (vAg : Nat → Int32) : Nat → Nat → Int32
  | 0, j2_ => (if vP ≤ 0 then 0 else 1)
  | n2_ + 1, j2_ => (if vP ≤ (nI j2_) then L_X7_canLive_2 vP vD vAg n2_ (j2_ + 1)  else (if (vAg j2_) < vD then L_X7_canLive_2 vP vD vAg n2_ (j2_ + 1)  else 0))
def f_X7_canLive (vP : Int32) (vD : Int32) (vAg : Nat → Int32) : Int32 := (L_X7_canLive_2 vP vD vAg 6 0)
abbrev rm_X7_canLive : Room := { frames := 0, cells := 0, slots := 0, locals := 0 }
set_option maxRecDepth 100000 in
set_option maxHeartbeats 4000000 in
theorem c_X7_canLive (l : Launch) (D : va_G) (cI cC cG : ClassId) (v0 : Nat) (v1 : Nat) (v2 : Nat) (v3 : Nat) (v4 : Nat) (v5 : Nat) (vP : Int32) (vS : Int32) (vD : Int32) (vAg : Nat → Int32) (vKi : Nat → Int32) (vMe : Nat → Int32) (vOw : Nat → Int32) (vFk : Nat → Int32) : RoI l yX7_canLive wsX7_canLive rm_X7_canLive D (q_t cI cC cG) (wV cI cC cG v0 v1 v2 v3 v4 v5 vP vS vD vAg vKi vMe vOw vFk) [.ref v0] (f_X7_canLive vP vD vAg) := by
  refine ro_enter (cc := cX7_canLive) (maxL := 2) (ret := (some .boolean)) (by decide) rfl (Nat.le_of_ble_eq_true rfl) ?_
  intro p e s m below meth c ls B hP hK hl
  obtain ⟨hx, hb, hr, hlocks, hml, hown, hts, hN⟩ := B
  have hS : va_S q_no s.heap s.heap [] := va_S.rf
  have hown : s.vm.findClass RX7 = some m.cls := hown
  have hl : lv_has ls 2 [(0, .ref v0)] := hl
  have hf27 := hts (.fieldLink RX7 27 "OlderByABlush$Village" "people" "I") (by decide +kernel)
  have hinX7 : ∀ w ∈ u_ws RX7 TX7 8, w ∈ wsX7_canLive := by decide +kernel
  have hf9 := hts (.fieldLink RX7 9 "OlderByABlush$Village" "firstAges" "[I") (by decide +kernel)
  have hf34 := hts (.fieldLink RX7 34 "OlderByABlush$Village" "deathAge" "I") (by decide +kernel)
  refine lv_iconst (v := 0) hx hb dX7_canLive_0 (by decide) ?_
  refine lv_istore_n (lv' := [(1, .int 0), (0, .ref v0)]) hx hb dX7_canLive_1 rfl hl (by decide) rfl (fun ls hl => ?_)
  have hr2_ : (f_X7_canLive vP vD vAg) = (L_X7_canLive_2 vP vD vAg 6 0) := by simp only [f_X7_canLive]
  have loop2_ : ∀ (n2_ j2_ : Nat), j2_ + n2_ = 6 → (L_X7_canLive_2 vP vD vAg n2_ j2_) = (L_X7_canLive_2 vP vD vAg 6 0) → ∀ (H : Heap) (locs : List Loc), va_P D vwCl [(v0, .inr (7, [.ref v1, .ref v2, .ref v3, .ref v4, .ref v5, .int vP, .int vS, .int vD])), (v1, .inl (cI, 6, .inl vAg)), (v2, .inl (cI, 6, .inl vKi)), (v3, .inl (cI, 6, .inl vMe)), (v4, .inl (cI, 8, .inl vOw)), (v5, .inl (cI, 8, .inl vFk))] H → va_S q_no s.heap H locs → ∀ ls : Array Slot, lv_has ls 2 [(0, .ref v0), (1, .int (nI j2_))] → W p l e rm_X7_canLive s m ([.ref v0] : List Value).toArray below meth c H locs 0 0 (MQ below (q_Qi (f_X7_canLive vP vD vAg)) ([.ref v0] : List Value).toArray s 0 0 q_no) (F0 m 2 ls []) := by
    intro n2_
    induction n2_ with
    | zero =>
      intro j2_ hj2_ hv2_ H locs hP hS ls hl
      obtain rfl : j2_ = 6 := by omega
      refine lv_iload_n hx hb dX7_canLive_2 rfl (lv_at hl 1 rfl) ?_
      refine lv_bipush (v := 6) hx hb dX7_canLive_3 (by decide) ?_
      refine lv_icmp_ge (tgt := 37) hx hb dX7_canLive_5 (by decide) (fun c_1 => ?_) (fun c_1 => ?_)
      rotate_left
      · exact absurd (nI_le (Nat.le_refl 6) (by decide)) c_1
      refine lv_aload_n hx hb dX7_canLive_37 rfl (lv_at hl 0 rfl) ?_
      refine va_get (D := D) (ci := 7) (v := .int vP) (C := RX7) (T := TX7) (N := 8) hx hb hts hinX7 hown hK hP 0 rfl rfl 5 (by decide) hf27 (fun _ h9 => h9) rfl dX7_canLive_38 ?_
      refine lv_if_le (tgt := 48) hx hb dX7_canLive_41 (by decide) (fun c_2 => ?_) (fun c_2 => ?_)
      · refine lv_iconst (v := 0) hx hb dX7_canLive_48 (by decide) ?_
        exact ro_zret hx hb hr (by rfl) hlocks hS (by rw [hr2_, ← hv2_]; simp only [L_X7_canLive_2, if_pos c_2]) dX7_canLive_49
      refine lv_iconst (v := 1) hx hb dX7_canLive_44 (by decide) ?_
      refine lv_goto (tgt := 49) hx hb dX7_canLive_45 (by decide) ?_
      exact ro_zret hx hb hr (by rfl) hlocks hS (by rw [hr2_, ← hv2_]; simp only [L_X7_canLive_2, if_neg c_2]) dX7_canLive_49
    | succ n2_ ih2_ =>
      intro j2_ hj2_ hv2_ H locs hP hS ls hl
      refine lv_iload_n hx hb dX7_canLive_2 rfl (lv_at hl 1 rfl) ?_
      refine lv_bipush (v := 6) hx hb dX7_canLive_3 (by decide) ?_
      refine lv_icmp_ge (tgt := 37) hx hb dX7_canLive_5 (by decide) (fun c_3 => ?_) (fun c_3 => ?_)
      · exact absurd c_3 (nI_ge (b := 6) (by omega) (by decide))
      refine lv_iload_n hx hb dX7_canLive_8 rfl (lv_at hl 1 rfl) ?_
      refine lv_aload_n hx hb dX7_canLive_9 rfl (lv_at hl 0 rfl) ?_
      refine va_get (D := D) (ci := 7) (v := .int vP) (C := RX7) (T := TX7) (N := 8) hx hb hts hinX7 hown hK hP 0 rfl rfl 5 (by decide) hf27 (fun _ h9 => h9) rfl dX7_canLive_10 ?_
      refine lv_icmp_ge (tgt := 31) hx hb dX7_canLive_13 (by decide) (fun c_4 => ?_) (fun c_4 => ?_)
      · refine lv_iinc (v := (nI (j2_ + 1))) (lv' := [(1, .int (nI (j2_ + 1))), (0, .ref v0)]) hx hb dX7_canLive_31 hl (k := 1) rfl (nI_1 _) (by decide) rfl (fun ls hl => ?_)
        refine lv_goto (tgt := 2) hx hb dX7_canLive_34 (by decide) ?_
        exact ih2_ (j2_ + 1) (by omega) (by rw [← hv2_]; simp only [L_X7_canLive_2, if_pos c_4]) _ _ hP hS _ (lv_sub hl [1, 0] rfl)
      refine lv_aload_n hx hb dX7_canLive_16 rfl (lv_at hl 0 rfl) ?_
      refine va_get (D := D) (ci := 7) (v := .ref v1) (C := RX7) (T := TX7) (N := 8) hx hb hts hinX7 hown hK hP 0 rfl rfl 0 (by decide) hf9 (fun _ h9 => h9) rfl dX7_canLive_17 ?_
      refine lv_iload_n hx hb dX7_canLive_20 rfl (lv_at hl 1 rfl) ?_
      refine q_iald hx hb hK hP 1 0 rfl rfl (vp_in_nI (by omega) (by decide)) j2_ (nI_clamp (by omega)) dX7_canLive_21 ?_
      refine lv_aload_n hx hb dX7_canLive_22 rfl (lv_at hl 0 rfl) ?_
      refine va_get (D := D) (ci := 7) (v := .int vD) (C := RX7) (T := TX7) (N := 8) hx hb hts hinX7 hown hK hP 0 rfl rfl 7 (by decide) hf34 (fun _ h9 => h9) rfl dX7_canLive_23 ?_
      refine lv_icmp_lt (tgt := 31) hx hb dX7_canLive_26 (by decide) (fun c_5 => ?_) (fun c_5 => ?_)
      · refine lv_iinc (v := (nI (j2_ + 1))) (lv' := [(1, .int (nI (j2_ + 1))), (0, .ref v0)]) hx hb dX7_canLive_31 hl (k := 1) rfl (nI_1 _) (by decide) rfl (fun ls hl => ?_)
        refine lv_goto (tgt := 2) hx hb dX7_canLive_34 (by decide) ?_
        exact ih2_ (j2_ + 1) (by omega) (by rw [← hv2_]; simp only [L_X7_canLive_2, if_neg c_4, if_pos c_5]) _ _ hP hS _ (lv_sub hl [1, 0] rfl)
      refine lv_iconst (v := 0) hx hb dX7_canLive_29 (by decide) ?_
      exact ro_zret hx hb hr (by rfl) hlocks hS (by rw [hr2_, ← hv2_]; simp only [L_X7_canLive_2, if_neg c_4, if_neg c_5]) dX7_canLive_30
  exact loop2_ 6 0 (by omega) rfl _ _ hP hS _ (lv_sub hl [1, 0] rfl)
def g_X7_clear_vP  : Int32 := 0
def g_X7_clear_vS  : Int32 := 0
def g_X7_clear_vD  : Int32 := 80
abbrev rm_X7_clear : Room := { frames := 0, cells := 0, slots := 0, locals := 0 }
set_option maxRecDepth 100000 in
set_option maxHeartbeats 4000000 in
theorem c_X7_clear (l : Launch) (D : va_G) (cI cC cG : ClassId) (v0 : Nat) (v1 : Nat) (v2 : Nat) (v3 : Nat) (v4 : Nat) (v5 : Nat) (vP : Int32) (vS : Int32) (vD : Int32) (vAg : Nat → Int32) (vKi : Nat → Int32) (vMe : Nat → Int32) (vOw : Nat → Int32) (vFk : Nat → Int32) (sz : Nat) : RwV l yX7_clear wsX7_clear rm_X7_clear D (q_t cI cC cG) (wV cI cC cG v0 v1 v2 v3 v4 v5 vP vS vD vAg vKi vMe vOw vFk) (wV cI cC cG v0 v1 v2 v3 v4 v5 g_X7_clear_vP g_X7_clear_vS g_X7_clear_vD vAg vKi vMe vOw vFk) sz [.ref v0] := by
  refine rw_enter (cc := cX7_clear) (maxL := 1) (ret := none) (by decide) rfl (Nat.le_of_ble_eq_true rfl) ?_
  intro p e s m below meth c ls B hP hK hD hS hA hl
  obtain ⟨hx, hb, hr, hlocks, hml, hown, hts, hN⟩ := B
  have hown : s.vm.findClass RX7 = some m.cls := hown
  have hl : lv_has ls 1 [(0, .ref v0)] := hl
  have hf27 := hts (.fieldLink RX7 27 "OlderByABlush$Village" "people" "I") (by decide +kernel)
  have hinX7 : ∀ w ∈ u_ws RX7 TX7 8, w ∈ wsX7_clear := by decide +kernel
  have hf31 := hts (.fieldLink RX7 31 "OlderByABlush$Village" "secrets" "I") (by decide +kernel)
  have hf34 := hts (.fieldLink RX7 34 "OlderByABlush$Village" "deathAge" "I") (by decide +kernel)
  refine lv_aload_n hx hb dX7_clear_0 rfl (lv_at hl 0 rfl) ?_
  refine lv_iconst (v := 0) hx hb dX7_clear_1 (by decide) ?_
  refine va_put (D := D) (ci := 7) (v := .int 0) (ty := .int) (C := RX7) (T := TX7) (N := 8) hx hb hts hinX7 tyX7 tyX7_ok nmX7 hown hK hP hD hS 0 rfl rfl 5 (by decide) hf27 (fun _ h9 => h9) rfl (by decide +kernel) rfl rfl (Nat.le_of_ble_eq_true rfl) dX7_clear_2 (fun H locs hP hD hS => ?_)
  have hP : va_P D vwCl [(v0, .inr (7, [.ref v1, .ref v2, .ref v3, .ref v4, .ref v5, .int 0, .int vS, .int vD])), (v1, .inl (cI, 6, .inl vAg)), (v2, .inl (cI, 6, .inl vKi)), (v3, .inl (cI, 6, .inl vMe)), (v4, .inl (cI, 8, .inl vOw)), (v5, .inl (cI, 8, .inl vFk))] H := hP
  have hD : va_D (va_A (wV cI cC cG v0 v1 v2 v3 v4 v5 vP vS vD vAg vKi vMe vOw vFk) sz) [(v0, .inr (7, [.ref v1, .ref v2, .ref v3, .ref v4, .ref v5, .int 0, .int vS, .int vD])), (v1, .inl (cI, 6, .inl vAg)), (v2, .inl (cI, 6, .inl vKi)), (v3, .inl (cI, 6, .inl vMe)), (v4, .inl (cI, 8, .inl vOw)), (v5, .inl (cI, 8, .inl vFk))] := hD
  refine lv_aload_n hx hb dX7_clear_5 rfl (lv_at hl 0 rfl) ?_
  refine lv_iconst (v := 0) hx hb dX7_clear_6 (by decide) ?_
  refine va_put (D := D) (ci := 7) (v := .int 0) (ty := .int) (C := RX7) (T := TX7) (N := 8) hx hb hts hinX7 tyX7 tyX7_ok nmX7 hown hK hP hD hS 0 rfl rfl 6 (by decide) hf31 (fun _ h9 => h9) rfl (by decide +kernel) rfl rfl (Nat.le_of_ble_eq_true rfl) dX7_clear_7 (fun H locs hP hD hS => ?_)
  have hP : va_P D vwCl [(v0, .inr (7, [.ref v1, .ref v2, .ref v3, .ref v4, .ref v5, .int 0, .int 0, .int vD])), (v1, .inl (cI, 6, .inl vAg)), (v2, .inl (cI, 6, .inl vKi)), (v3, .inl (cI, 6, .inl vMe)), (v4, .inl (cI, 8, .inl vOw)), (v5, .inl (cI, 8, .inl vFk))] H := hP
  have hD : va_D (va_A (wV cI cC cG v0 v1 v2 v3 v4 v5 vP vS vD vAg vKi vMe vOw vFk) sz) [(v0, .inr (7, [.ref v1, .ref v2, .ref v3, .ref v4, .ref v5, .int 0, .int 0, .int vD])), (v1, .inl (cI, 6, .inl vAg)), (v2, .inl (cI, 6, .inl vKi)), (v3, .inl (cI, 6, .inl vMe)), (v4, .inl (cI, 8, .inl vOw)), (v5, .inl (cI, 8, .inl vFk))] := hD
  refine lv_aload_n hx hb dX7_clear_10 rfl (lv_at hl 0 rfl) ?_
  refine lv_bipush (v := 80) hx hb dX7_clear_11 (by decide) ?_
  refine va_put (D := D) (ci := 7) (v := .int 80) (ty := .int) (C := RX7) (T := TX7) (N := 8) hx hb hts hinX7 tyX7 tyX7_ok nmX7 hown hK hP hD hS 0 rfl rfl 7 (by decide) hf34 (fun _ h9 => h9) rfl (by decide +kernel) rfl rfl (Nat.le_of_ble_eq_true rfl) dX7_clear_13 (fun H locs hP hD hS => ?_)
  have hP : va_P D vwCl [(v0, .inr (7, [.ref v1, .ref v2, .ref v3, .ref v4, .ref v5, .int 0, .int 0, .int 80])), (v1, .inl (cI, 6, .inl vAg)), (v2, .inl (cI, 6, .inl vKi)), (v3, .inl (cI, 6, .inl vMe)), (v4, .inl (cI, 8, .inl vOw)), (v5, .inl (cI, 8, .inl vFk))] H := hP
  have hD : va_D (va_A (wV cI cC cG v0 v1 v2 v3 v4 v5 vP vS vD vAg vKi vMe vOw vFk) sz) [(v0, .inr (7, [.ref v1, .ref v2, .ref v3, .ref v4, .ref v5, .int 0, .int 0, .int 80])), (v1, .inl (cI, 6, .inl vAg)), (v2, .inl (cI, 6, .inl vKi)), (v3, .inl (cI, 6, .inl vMe)), (v4, .inl (cI, 8, .inl vOw)), (v5, .inl (cI, 8, .inl vFk))] := hD
  have e_1 : g_X7_clear_vP = 0 := by simp only [g_X7_clear_vP]
  have e_2 : g_X7_clear_vS = 0 := by simp only [g_X7_clear_vS]
  have e_3 : g_X7_clear_vD = 80 := by simp only [g_X7_clear_vD]
  exact rw_vret hx hb hr hlocks hP hD hS (by rw [e_1, e_2, e_3]) dX7_clear_16
def f_X7_addPerson (vP : Int32) (p0 : Int32) (p1 : Int32) : Int32 := (if vP < 0 then 0 else (if 6 ≤ vP then 0 else (if 60 < p0 then 0 else (if p1 < 5 then 1 else 0))))
theorem b_X7_addPerson (vP : Int32) (p0 : Int32) (p1 : Int32) : (f_X7_addPerson vP p0 p1) = 0 ∨ (f_X7_addPerson vP p0 p1) = 1 := by
  unfold f_X7_addPerson
  repeat' split
  all_goals first | exact Or.inl rfl | exact Or.inr rfl
def g_X7_addPerson_vP (vP : Int32) (p0 : Int32) (p1 : Int32) : Int32 := (if vP < 0 then vP else (if 6 ≤ vP then vP else (if 60 < p0 then vP else (if p1 < 5 then (vP + 1) else vP))))
def g_X7_addPerson_vAg (vP : Int32) (vAg : Nat → Int32) (p0 : Int32) (p1 : Int32) : Nat → Int32 := (if vP < 0 then vAg else (if 6 ≤ vP then vAg else (if 60 < p0 then vAg else (if p1 < 5 then (upd vAg (Int32.toNatClampNeg vP) p0) else vAg))))
def g_X7_addPerson_vKi (vP : Int32) (vKi : Nat → Int32) (p0 : Int32) (p1 : Int32) : Nat → Int32 := (if vP < 0 then vKi else (if 6 ≤ vP then vKi else (if 60 < p0 then vKi else (if p1 < 5 then (upd vKi (Int32.toNatClampNeg vP) p1) else vKi))))
def g_X7_addPerson_vMe (vP : Int32) (vMe : Nat → Int32) (p0 : Int32) (p1 : Int32) : Nat → Int32 := (if vP < 0 then vMe else (if 6 ≤ vP then vMe else (if 60 < p0 then vMe else (if p1 < 5 then (upd vMe (Int32.toNatClampNeg vP) 0) else vMe))))
abbrev rm_X7_addPerson : Room := { frames := 0, cells := 0, slots := 0, locals := 0 }
set_option maxRecDepth 100000 in
set_option maxHeartbeats 4000000 in
theorem c_X7_addPerson (l : Launch) (D : va_G) (cI cC cG : ClassId) (v0 : Nat) (v1 : Nat) (v2 : Nat) (v3 : Nat) (v4 : Nat) (v5 : Nat) (vP : Int32) (vS : Int32) (vD : Int32) (vAg : Nat → Int32) (vKi : Nat → Int32) (vMe : Nat → Int32) (vOw : Nat → Int32) (vFk : Nat → Int32) (p0 : Int32) (p1 : Int32) (sz : Nat) : RwI l yX7_addPerson wsX7_addPerson rm_X7_addPerson D (q_t cI cC cG) (wV cI cC cG v0 v1 v2 v3 v4 v5 vP vS vD vAg vKi vMe vOw vFk) (wV cI cC cG v0 v1 v2 v3 v4 v5 (g_X7_addPerson_vP vP p0 p1) vS vD (g_X7_addPerson_vAg vP vAg p0 p1) (g_X7_addPerson_vKi vP vKi p0 p1) (g_X7_addPerson_vMe vP vMe p0 p1) vOw vFk) sz [.ref v0, .int p0, .int p1] (f_X7_addPerson vP p0 p1) := by
  refine rw_enter (cc := cX7_addPerson) (maxL := 3) (ret := (some .boolean)) (by decide) rfl (Nat.le_of_ble_eq_true rfl) ?_
  intro p e s m below meth c ls B hP hK hD hS hA hl
  obtain ⟨hx, hb, hr, hlocks, hml, hown, hts, hN⟩ := B
  have hown : s.vm.findClass RX7 = some m.cls := hown
  have hl : lv_has ls 3 [(0, .ref v0), (1, .int p0), (2, .int p1)] := hl
  have hf27 := hts (.fieldLink RX7 27 "OlderByABlush$Village" "people" "I") (by decide +kernel)
  have hinX7 : ∀ w ∈ u_ws RX7 TX7 8, w ∈ wsX7_addPerson := by decide +kernel
  have hf9 := hts (.fieldLink RX7 9 "OlderByABlush$Village" "firstAges" "[I") (by decide +kernel)
  have hf15 := hts (.fieldLink RX7 15 "OlderByABlush$Village" "kindRow" "[I") (by decide +kernel)
  have hf18 := hts (.fieldLink RX7 18 "OlderByABlush$Village" "meetings" "[I") (by decide +kernel)
  refine lv_aload_n hx hb dX7_addPerson_0 rfl (lv_at hl 0 rfl) ?_
  refine va_get (D := D) (ci := 7) (v := .int vP) (C := RX7) (T := TX7) (N := 8) hx hb hts hinX7 hown hK hP 0 rfl rfl 5 (by decide) hf27 (fun _ h9 => h9) rfl dX7_addPerson_1 ?_
  refine lv_if_lt (tgt := 27) hx hb dX7_addPerson_4 (by decide) (fun c_1 => ?_) (fun c_1 => ?_)
  · refine lv_iconst (v := 0) hx hb dX7_addPerson_27 (by decide) ?_
    have e_2 : (g_X7_addPerson_vP vP p0 p1) = vP := by simp only [g_X7_addPerson_vP, if_pos c_1]
    have e_3 : (g_X7_addPerson_vAg vP vAg p0 p1) = vAg := by simp only [g_X7_addPerson_vAg, if_pos c_1]
    have e_4 : (g_X7_addPerson_vKi vP vKi p0 p1) = vKi := by simp only [g_X7_addPerson_vKi, if_pos c_1]
    have e_5 : (g_X7_addPerson_vMe vP vMe p0 p1) = vMe := by simp only [g_X7_addPerson_vMe, if_pos c_1]
    exact rw_zret hx hb hr (by rfl) hlocks hP hD hS (by simp only [f_X7_addPerson, if_pos c_1]) (by rw [e_2, e_3, e_4, e_5]) dX7_addPerson_28
  refine lv_aload_n hx hb dX7_addPerson_7 rfl (lv_at hl 0 rfl) ?_
  refine va_get (D := D) (ci := 7) (v := .int vP) (C := RX7) (T := TX7) (N := 8) hx hb hts hinX7 hown hK hP 0 rfl rfl 5 (by decide) hf27 (fun _ h9 => h9) rfl dX7_addPerson_8 ?_
  refine lv_bipush (v := 6) hx hb dX7_addPerson_11 (by decide) ?_
  refine lv_icmp_ge (tgt := 27) hx hb dX7_addPerson_13 (by decide) (fun c_6 => ?_) (fun c_6 => ?_)
  · refine lv_iconst (v := 0) hx hb dX7_addPerson_27 (by decide) ?_
    have e_7 : (g_X7_addPerson_vP vP p0 p1) = vP := by simp only [g_X7_addPerson_vP, if_neg c_1, if_pos c_6]
    have e_8 : (g_X7_addPerson_vAg vP vAg p0 p1) = vAg := by simp only [g_X7_addPerson_vAg, if_neg c_1, if_pos c_6]
    have e_9 : (g_X7_addPerson_vKi vP vKi p0 p1) = vKi := by simp only [g_X7_addPerson_vKi, if_neg c_1, if_pos c_6]
    have e_10 : (g_X7_addPerson_vMe vP vMe p0 p1) = vMe := by simp only [g_X7_addPerson_vMe, if_neg c_1, if_pos c_6]
    exact rw_zret hx hb hr (by rfl) hlocks hP hD hS (by simp only [f_X7_addPerson, if_neg c_1, if_pos c_6]) (by rw [e_7, e_8, e_9, e_10]) dX7_addPerson_28
  refine lv_iload_n hx hb dX7_addPerson_16 rfl (lv_at hl 1 rfl) ?_
  refine lv_bipush (v := 60) hx hb dX7_addPerson_17 (by decide) ?_
  refine lv_icmp_gt (tgt := 27) hx hb dX7_addPerson_19 (by decide) (fun c_11 => ?_) (fun c_11 => ?_)
  · refine lv_iconst (v := 0) hx hb dX7_addPerson_27 (by decide) ?_
    have e_12 : (g_X7_addPerson_vP vP p0 p1) = vP := by simp only [g_X7_addPerson_vP, if_neg c_1, if_neg c_6, if_pos c_11]
    have e_13 : (g_X7_addPerson_vAg vP vAg p0 p1) = vAg := by simp only [g_X7_addPerson_vAg, if_neg c_1, if_neg c_6, if_pos c_11]
    have e_14 : (g_X7_addPerson_vKi vP vKi p0 p1) = vKi := by simp only [g_X7_addPerson_vKi, if_neg c_1, if_neg c_6, if_pos c_11]
    have e_15 : (g_X7_addPerson_vMe vP vMe p0 p1) = vMe := by simp only [g_X7_addPerson_vMe, if_neg c_1, if_neg c_6, if_pos c_11]
    exact rw_zret hx hb hr (by rfl) hlocks hP hD hS (by simp only [f_X7_addPerson, if_neg c_1, if_neg c_6, if_pos c_11]) (by rw [e_12, e_13, e_14, e_15]) dX7_addPerson_28
  refine lv_iload_n hx hb dX7_addPerson_22 rfl (lv_at hl 2 rfl) ?_
  refine lv_iconst (v := 5) hx hb dX7_addPerson_23 (by decide) ?_
  refine lv_icmp_lt (tgt := 29) hx hb dX7_addPerson_24 (by decide) (fun c_16 => ?_) (fun c_16 => ?_)
  · refine lv_aload_n hx hb dX7_addPerson_29 rfl (lv_at hl 0 rfl) ?_
    refine va_get (D := D) (ci := 7) (v := .ref v1) (C := RX7) (T := TX7) (N := 8) hx hb hts hinX7 hown hK hP 0 rfl rfl 0 (by decide) hf9 (fun _ h9 => h9) rfl dX7_addPerson_30 ?_
    refine lv_aload_n hx hb dX7_addPerson_33 rfl (lv_at hl 0 rfl) ?_
    refine va_get (D := D) (ci := 7) (v := .int vP) (C := RX7) (T := TX7) (N := 8) hx hb hts hinX7 hown hK hP 0 rfl rfl 5 (by decide) hf27 (fun _ h9 => h9) rfl dX7_addPerson_34 ?_
    refine lv_iload_n hx hb dX7_addPerson_37 rfl (lv_at hl 1 rfl) ?_
    refine q_iast hx hb hK hP hD hS 1 0 rfl rfl (in_cmp c_1 c_6) (Int32.toNatClampNeg vP) rfl dX7_addPerson_38 (fun H locs hP hD hS => ?_)
    have hP : va_P D vwCl [(v0, .inr (7, [.ref v1, .ref v2, .ref v3, .ref v4, .ref v5, .int vP, .int vS, .int vD])), (v1, .inl (cI, 6, .inl (upd vAg (Int32.toNatClampNeg vP) p0))), (v2, .inl (cI, 6, .inl vKi)), (v3, .inl (cI, 6, .inl vMe)), (v4, .inl (cI, 8, .inl vOw)), (v5, .inl (cI, 8, .inl vFk))] H := hP
    have hD : va_D (va_A (wV cI cC cG v0 v1 v2 v3 v4 v5 vP vS vD vAg vKi vMe vOw vFk) sz) [(v0, .inr (7, [.ref v1, .ref v2, .ref v3, .ref v4, .ref v5, .int vP, .int vS, .int vD])), (v1, .inl (cI, 6, .inl (upd vAg (Int32.toNatClampNeg vP) p0))), (v2, .inl (cI, 6, .inl vKi)), (v3, .inl (cI, 6, .inl vMe)), (v4, .inl (cI, 8, .inl vOw)), (v5, .inl (cI, 8, .inl vFk))] := hD
    refine lv_aload_n hx hb dX7_addPerson_39 rfl (lv_at hl 0 rfl) ?_
    refine va_get (D := D) (ci := 7) (v := .ref v2) (C := RX7) (T := TX7) (N := 8) hx hb hts hinX7 hown hK hP 0 rfl rfl 1 (by decide) hf15 (fun _ h9 => h9) rfl dX7_addPerson_40 ?_
    refine lv_aload_n hx hb dX7_addPerson_43 rfl (lv_at hl 0 rfl) ?_
    refine va_get (D := D) (ci := 7) (v := .int vP) (C := RX7) (T := TX7) (N := 8) hx hb hts hinX7 hown hK hP 0 rfl rfl 5 (by decide) hf27 (fun _ h9 => h9) rfl dX7_addPerson_44 ?_
    refine lv_iload_n hx hb dX7_addPerson_47 rfl (lv_at hl 2 rfl) ?_
    refine q_iast hx hb hK hP hD hS 2 0 rfl rfl (in_cmp c_1 c_6) (Int32.toNatClampNeg vP) rfl dX7_addPerson_48 (fun H locs hP hD hS => ?_)
    have hP : va_P D vwCl [(v0, .inr (7, [.ref v1, .ref v2, .ref v3, .ref v4, .ref v5, .int vP, .int vS, .int vD])), (v1, .inl (cI, 6, .inl (upd vAg (Int32.toNatClampNeg vP) p0))), (v2, .inl (cI, 6, .inl (upd vKi (Int32.toNatClampNeg vP) p1))), (v3, .inl (cI, 6, .inl vMe)), (v4, .inl (cI, 8, .inl vOw)), (v5, .inl (cI, 8, .inl vFk))] H := hP
    have hD : va_D (va_A (wV cI cC cG v0 v1 v2 v3 v4 v5 vP vS vD vAg vKi vMe vOw vFk) sz) [(v0, .inr (7, [.ref v1, .ref v2, .ref v3, .ref v4, .ref v5, .int vP, .int vS, .int vD])), (v1, .inl (cI, 6, .inl (upd vAg (Int32.toNatClampNeg vP) p0))), (v2, .inl (cI, 6, .inl (upd vKi (Int32.toNatClampNeg vP) p1))), (v3, .inl (cI, 6, .inl vMe)), (v4, .inl (cI, 8, .inl vOw)), (v5, .inl (cI, 8, .inl vFk))] := hD
    refine lv_aload_n hx hb dX7_addPerson_49 rfl (lv_at hl 0 rfl) ?_
    refine va_get (D := D) (ci := 7) (v := .ref v3) (C := RX7) (T := TX7) (N := 8) hx hb hts hinX7 hown hK hP 0 rfl rfl 2 (by decide) hf18 (fun _ h9 => h9) rfl dX7_addPerson_50 ?_
    refine lv_aload_n hx hb dX7_addPerson_53 rfl (lv_at hl 0 rfl) ?_
    refine va_get (D := D) (ci := 7) (v := .int vP) (C := RX7) (T := TX7) (N := 8) hx hb hts hinX7 hown hK hP 0 rfl rfl 5 (by decide) hf27 (fun _ h9 => h9) rfl dX7_addPerson_54 ?_
    refine lv_iconst (v := 0) hx hb dX7_addPerson_57 (by decide) ?_
    refine q_iast hx hb hK hP hD hS 3 0 rfl rfl (in_cmp c_1 c_6) (Int32.toNatClampNeg vP) rfl dX7_addPerson_58 (fun H locs hP hD hS => ?_)
    have hP : va_P D vwCl [(v0, .inr (7, [.ref v1, .ref v2, .ref v3, .ref v4, .ref v5, .int vP, .int vS, .int vD])), (v1, .inl (cI, 6, .inl (upd vAg (Int32.toNatClampNeg vP) p0))), (v2, .inl (cI, 6, .inl (upd vKi (Int32.toNatClampNeg vP) p1))), (v3, .inl (cI, 6, .inl (upd vMe (Int32.toNatClampNeg vP) 0))), (v4, .inl (cI, 8, .inl vOw)), (v5, .inl (cI, 8, .inl vFk))] H := hP
    have hD : va_D (va_A (wV cI cC cG v0 v1 v2 v3 v4 v5 vP vS vD vAg vKi vMe vOw vFk) sz) [(v0, .inr (7, [.ref v1, .ref v2, .ref v3, .ref v4, .ref v5, .int vP, .int vS, .int vD])), (v1, .inl (cI, 6, .inl (upd vAg (Int32.toNatClampNeg vP) p0))), (v2, .inl (cI, 6, .inl (upd vKi (Int32.toNatClampNeg vP) p1))), (v3, .inl (cI, 6, .inl (upd vMe (Int32.toNatClampNeg vP) 0))), (v4, .inl (cI, 8, .inl vOw)), (v5, .inl (cI, 8, .inl vFk))] := hD
    refine lv_aload_n hx hb dX7_addPerson_59 rfl (lv_at hl 0 rfl) ?_
    refine lv_dup hx hb dX7_addPerson_60 rfl ?_
    refine va_get (D := D) (ci := 7) (v := .int vP) (C := RX7) (T := TX7) (N := 8) hx hb hts hinX7 hown hK hP 0 rfl rfl 5 (by decide) hf27 (fun _ h9 => h9) rfl dX7_addPerson_61 ?_
    refine lv_iconst (v := 1) hx hb dX7_addPerson_64 (by decide) ?_
    refine lv_iadd hx hb dX7_addPerson_65 ?_
    refine va_put (D := D) (ci := 7) (v := .int (vP + 1)) (ty := .int) (C := RX7) (T := TX7) (N := 8) hx hb hts hinX7 tyX7 tyX7_ok nmX7 hown hK hP hD hS 0 rfl rfl 5 (by decide) hf27 (fun _ h9 => h9) rfl (by decide +kernel) rfl rfl (Nat.le_of_ble_eq_true rfl) dX7_addPerson_66 (fun H locs hP hD hS => ?_)
    have hP : va_P D vwCl [(v0, .inr (7, [.ref v1, .ref v2, .ref v3, .ref v4, .ref v5, .int (vP + 1), .int vS, .int vD])), (v1, .inl (cI, 6, .inl (upd vAg (Int32.toNatClampNeg vP) p0))), (v2, .inl (cI, 6, .inl (upd vKi (Int32.toNatClampNeg vP) p1))), (v3, .inl (cI, 6, .inl (upd vMe (Int32.toNatClampNeg vP) 0))), (v4, .inl (cI, 8, .inl vOw)), (v5, .inl (cI, 8, .inl vFk))] H := hP
    have hD : va_D (va_A (wV cI cC cG v0 v1 v2 v3 v4 v5 vP vS vD vAg vKi vMe vOw vFk) sz) [(v0, .inr (7, [.ref v1, .ref v2, .ref v3, .ref v4, .ref v5, .int (vP + 1), .int vS, .int vD])), (v1, .inl (cI, 6, .inl (upd vAg (Int32.toNatClampNeg vP) p0))), (v2, .inl (cI, 6, .inl (upd vKi (Int32.toNatClampNeg vP) p1))), (v3, .inl (cI, 6, .inl (upd vMe (Int32.toNatClampNeg vP) 0))), (v4, .inl (cI, 8, .inl vOw)), (v5, .inl (cI, 8, .inl vFk))] := hD
    refine lv_iconst (v := 1) hx hb dX7_addPerson_69 (by decide) ?_
    have e_17 : (g_X7_addPerson_vP vP p0 p1) = (vP + 1) := by simp only [g_X7_addPerson_vP, if_neg c_1, if_neg c_6, if_neg c_11, if_pos c_16]
    have e_18 : (g_X7_addPerson_vAg vP vAg p0 p1) = (upd vAg (Int32.toNatClampNeg vP) p0) := by simp only [g_X7_addPerson_vAg, if_neg c_1, if_neg c_6, if_neg c_11, if_pos c_16]
    have e_19 : (g_X7_addPerson_vKi vP vKi p0 p1) = (upd vKi (Int32.toNatClampNeg vP) p1) := by simp only [g_X7_addPerson_vKi, if_neg c_1, if_neg c_6, if_neg c_11, if_pos c_16]
    have e_20 : (g_X7_addPerson_vMe vP vMe p0 p1) = (upd vMe (Int32.toNatClampNeg vP) 0) := by simp only [g_X7_addPerson_vMe, if_neg c_1, if_neg c_6, if_neg c_11, if_pos c_16]
    exact rw_zret hx hb hr (by rfl) hlocks hP hD hS (by simp only [f_X7_addPerson, if_neg c_1, if_neg c_6, if_neg c_11, if_pos c_16]) (by rw [e_17, e_18, e_19, e_20]) dX7_addPerson_70
  refine lv_iconst (v := 0) hx hb dX7_addPerson_27 (by decide) ?_
  have e_21 : (g_X7_addPerson_vP vP p0 p1) = vP := by simp only [g_X7_addPerson_vP, if_neg c_1, if_neg c_6, if_neg c_11, if_neg c_16]
  have e_22 : (g_X7_addPerson_vAg vP vAg p0 p1) = vAg := by simp only [g_X7_addPerson_vAg, if_neg c_1, if_neg c_6, if_neg c_11, if_neg c_16]
  have e_23 : (g_X7_addPerson_vKi vP vKi p0 p1) = vKi := by simp only [g_X7_addPerson_vKi, if_neg c_1, if_neg c_6, if_neg c_11, if_neg c_16]
  have e_24 : (g_X7_addPerson_vMe vP vMe p0 p1) = vMe := by simp only [g_X7_addPerson_vMe, if_neg c_1, if_neg c_6, if_neg c_11, if_neg c_16]
  exact rw_zret hx hb hr (by rfl) hlocks hP hD hS (by simp only [f_X7_addPerson, if_neg c_1, if_neg c_6, if_neg c_11, if_neg c_16]) (by rw [e_21, e_22, e_23, e_24]) dX7_addPerson_28
def f_X7_addMeeting (vP : Int32) (p0 : Int32) (p1 : Int32) : Int32 := (if (f_X7_hasPerson vP p0) = 0 then 0 else (if (f_X7_hasPerson vP p1) = 0 then 0 else (if p0 = p1 then 0 else 1)))
theorem b_X7_addMeeting (vP : Int32) (p0 : Int32) (p1 : Int32) : (f_X7_addMeeting vP p0 p1) = 0 ∨ (f_X7_addMeeting vP p0 p1) = 1 := by
  unfold f_X7_addMeeting
  repeat' split
  all_goals first | exact Or.inl rfl | exact Or.inr rfl | exact b_X7_hasPerson _ _
def g_X7_addMeeting_vMe (vP : Int32) (vMe : Nat → Int32) (p0 : Int32) (p1 : Int32) : Nat → Int32 := (if (f_X7_hasPerson vP p0) = 0 then vMe else (if (f_X7_hasPerson vP p1) = 0 then vMe else (if p0 = p1 then vMe else (upd (upd vMe (Int32.toNatClampNeg p0) ((vMe (Int32.toNatClampNeg p0)) ||| (1 <<< (p1 &&& 31)))) (Int32.toNatClampNeg p1) (((upd vMe (Int32.toNatClampNeg p0) ((vMe (Int32.toNatClampNeg p0)) ||| (1 <<< (p1 &&& 31)))) (Int32.toNatClampNeg p1)) ||| (1 <<< (p0 &&& 31)))))))
abbrev rm_X7_addMeeting : Room := { frames := 1, cells := 0, slots := 0, locals := 21 }
set_option maxRecDepth 100000 in
set_option maxHeartbeats 4000000 in
theorem c_X7_addMeeting (l : Launch) (D : va_G) (cI cC cG : ClassId) (v0 : Nat) (v1 : Nat) (v2 : Nat) (v3 : Nat) (v4 : Nat) (v5 : Nat) (vP : Int32) (vS : Int32) (vD : Int32) (vAg : Nat → Int32) (vKi : Nat → Int32) (vMe : Nat → Int32) (vOw : Nat → Int32) (vFk : Nat → Int32) (p0 : Int32) (p1 : Int32) (sz : Nat) : RwI l yX7_addMeeting wsX7_addMeeting rm_X7_addMeeting D (q_t cI cC cG) (wV cI cC cG v0 v1 v2 v3 v4 v5 vP vS vD vAg vKi vMe vOw vFk) (wV cI cC cG v0 v1 v2 v3 v4 v5 vP vS vD vAg vKi (g_X7_addMeeting_vMe vP vMe p0 p1) vOw vFk) sz [.ref v0, .int p0, .int p1] (f_X7_addMeeting vP p0 p1) := by
  refine rw_enter (cc := cX7_addMeeting) (maxL := 3) (ret := (some .boolean)) (by decide) rfl (Nat.le_of_ble_eq_true rfl) ?_
  intro p e s m below meth c ls B hP hK hD hS hA hl
  obtain ⟨hx, hb, hr, hlocks, hml, hown, hts, hN⟩ := B
  have hown : s.vm.findClass RX7 = some m.cls := hown
  have hl : lv_has ls 3 [(0, .ref v0), (1, .int p0), (2, .int p1)] := hl
  have hf18 := hts (.fieldLink RX7 18 "OlderByABlush$Village" "meetings" "[I") (by decide +kernel)
  have hinX7 : ∀ w ∈ u_ws RX7 TX7 8, w ∈ wsX7_addMeeting := by decide +kernel
  refine lv_aload_n hx hb dX7_addMeeting_0 rfl (lv_at hl 0 rfl) ?_
  refine lv_iload_n hx hb dX7_addMeeting_1 rfl (lv_at hl 1 rfl) ?_
  refine ro_i (va_runV (As := [.int p0]) (rest := []) ⟨hx, hb, hml, hown, hts⟩ (c_X7_hasPerson l D cI cC cG v0 v1 v2 v3 v4 v5 vP vS vD vAg vKi vMe vOw vFk p0) (cwV 1 hts gX7_addMeeting_X7_hasPerson rfl rfl rfl (by decide +kernel) ⟨Nat.le_of_ble_eq_true rfl, Nat.le_of_ble_eq_true rfl⟩) (q_preV hK hP hN [0, 1, 2, 3, 4, 5] rfl (ci := 7) (q0 := 0) rfl rfl) rfl rfl hl.1 rfl (lv_room (Nat.le_of_ble_eq_true rfl)) dX7_addMeeting_2 ⟨Nat.zero_le _, Nat.zero_le _⟩) hS hP (fun H locs hP hS => ?_)
  refine lv_if_eq (tgt := 21) hx hb dX7_addMeeting_5 (by decide) (fun c_1 => ?_) (fun c_1 => ?_)
  · refine lv_iconst (v := 0) hx hb dX7_addMeeting_21 (by decide) ?_
    have e_2 : (g_X7_addMeeting_vMe vP vMe p0 p1) = vMe := by simp only [g_X7_addMeeting_vMe, if_pos c_1]
    exact rw_zret hx hb hr (by rfl) hlocks hP hD hS (by simp only [f_X7_addMeeting, if_pos c_1]) (by rw [e_2]) dX7_addMeeting_22
  refine lv_aload_n hx hb dX7_addMeeting_8 rfl (lv_at hl 0 rfl) ?_
  refine lv_iload_n hx hb dX7_addMeeting_9 rfl (lv_at hl 2 rfl) ?_
  refine ro_i (va_runV (As := [.int p1]) (rest := []) ⟨hx, hb, hml, hown, hts⟩ (c_X7_hasPerson l D cI cC cG v0 v1 v2 v3 v4 v5 vP vS vD vAg vKi vMe vOw vFk p1) (cwV 1 hts gX7_addMeeting_X7_hasPerson rfl rfl rfl (by decide +kernel) ⟨Nat.le_of_ble_eq_true rfl, Nat.le_of_ble_eq_true rfl⟩) (q_preV hK hP hN [0, 1, 2, 3, 4, 5] rfl (ci := 7) (q0 := 0) rfl rfl) rfl rfl hl.1 rfl (lv_room (Nat.le_of_ble_eq_true rfl)) dX7_addMeeting_10 ⟨Nat.zero_le _, Nat.zero_le _⟩) hS hP (fun H locs hP hS => ?_)
  refine lv_if_eq (tgt := 21) hx hb dX7_addMeeting_13 (by decide) (fun c_3 => ?_) (fun c_3 => ?_)
  · refine lv_iconst (v := 0) hx hb dX7_addMeeting_21 (by decide) ?_
    have e_4 : (g_X7_addMeeting_vMe vP vMe p0 p1) = vMe := by simp only [g_X7_addMeeting_vMe, if_neg c_1, if_pos c_3]
    exact rw_zret hx hb hr (by rfl) hlocks hP hD hS (by simp only [f_X7_addMeeting, if_neg c_1, if_pos c_3]) (by rw [e_4]) dX7_addMeeting_22
  refine lv_iload_n hx hb dX7_addMeeting_16 rfl (lv_at hl 1 rfl) ?_
  refine lv_iload_n hx hb dX7_addMeeting_17 rfl (lv_at hl 2 rfl) ?_
  refine lv_icmp_ne (tgt := 23) hx hb dX7_addMeeting_18 (by decide) (fun c_5 => ?_) (fun c_5 => ?_)
  · refine lv_aload_n hx hb dX7_addMeeting_23 rfl (lv_at hl 0 rfl) ?_
    refine va_get (D := D) (ci := 7) (v := .ref v3) (C := RX7) (T := TX7) (N := 8) hx hb hts hinX7 hown hK hP 0 rfl rfl 2 (by decide) hf18 (fun _ h9 => h9) rfl dX7_addMeeting_24 ?_
    refine lv_iload_n hx hb dX7_addMeeting_27 rfl (lv_at hl 1 rfl) ?_
    refine lv_dup2_11 hx hb dX7_addMeeting_28 rfl rfl ?_
    refine q_iald hx hb hK hP 3 0 rfl rfl (vp_mono (in_person c_1) (by decide)) (Int32.toNatClampNeg p0) rfl dX7_addMeeting_29 ?_
    refine lv_iconst (v := 1) hx hb dX7_addMeeting_30 (by decide) ?_
    refine lv_iload_n hx hb dX7_addMeeting_31 rfl (lv_at hl 2 rfl) ?_
    refine lv_ishl hx hb dX7_addMeeting_32 ?_
    refine lv_ior hx hb dX7_addMeeting_33 ?_
    refine q_iast hx hb hK hP hD hS 3 0 rfl rfl (vp_mono (in_person c_1) (by decide)) (Int32.toNatClampNeg p0) rfl dX7_addMeeting_34 (fun H locs hP hD hS => ?_)
    have hP : va_P D vwCl [(v0, .inr (7, [.ref v1, .ref v2, .ref v3, .ref v4, .ref v5, .int vP, .int vS, .int vD])), (v1, .inl (cI, 6, .inl vAg)), (v2, .inl (cI, 6, .inl vKi)), (v3, .inl (cI, 6, .inl (upd vMe (Int32.toNatClampNeg p0) ((vMe (Int32.toNatClampNeg p0)) ||| (1 <<< (p1 &&& 31)))))), (v4, .inl (cI, 8, .inl vOw)), (v5, .inl (cI, 8, .inl vFk))] H := hP
    have hD : va_D (va_A (wV cI cC cG v0 v1 v2 v3 v4 v5 vP vS vD vAg vKi vMe vOw vFk) sz) [(v0, .inr (7, [.ref v1, .ref v2, .ref v3, .ref v4, .ref v5, .int vP, .int vS, .int vD])), (v1, .inl (cI, 6, .inl vAg)), (v2, .inl (cI, 6, .inl vKi)), (v3, .inl (cI, 6, .inl (upd vMe (Int32.toNatClampNeg p0) ((vMe (Int32.toNatClampNeg p0)) ||| (1 <<< (p1 &&& 31)))))), (v4, .inl (cI, 8, .inl vOw)), (v5, .inl (cI, 8, .inl vFk))] := hD
    refine lv_aload_n hx hb dX7_addMeeting_35 rfl (lv_at hl 0 rfl) ?_
    refine va_get (D := D) (ci := 7) (v := .ref v3) (C := RX7) (T := TX7) (N := 8) hx hb hts hinX7 hown hK hP 0 rfl rfl 2 (by decide) hf18 (fun _ h9 => h9) rfl dX7_addMeeting_36 ?_
    refine lv_iload_n hx hb dX7_addMeeting_39 rfl (lv_at hl 2 rfl) ?_
    refine lv_dup2_11 hx hb dX7_addMeeting_40 rfl rfl ?_
    refine q_iald hx hb hK hP 3 0 rfl rfl (vp_mono (in_person c_3) (by decide)) (Int32.toNatClampNeg p1) rfl dX7_addMeeting_41 ?_
    refine lv_iconst (v := 1) hx hb dX7_addMeeting_42 (by decide) ?_
    refine lv_iload_n hx hb dX7_addMeeting_43 rfl (lv_at hl 1 rfl) ?_
    refine lv_ishl hx hb dX7_addMeeting_44 ?_
    refine lv_ior hx hb dX7_addMeeting_45 ?_
    refine q_iast hx hb hK hP hD hS 3 0 rfl rfl (vp_mono (in_person c_3) (by decide)) (Int32.toNatClampNeg p1) rfl dX7_addMeeting_46 (fun H locs hP hD hS => ?_)
    have hP : va_P D vwCl [(v0, .inr (7, [.ref v1, .ref v2, .ref v3, .ref v4, .ref v5, .int vP, .int vS, .int vD])), (v1, .inl (cI, 6, .inl vAg)), (v2, .inl (cI, 6, .inl vKi)), (v3, .inl (cI, 6, .inl (upd (upd vMe (Int32.toNatClampNeg p0) ((vMe (Int32.toNatClampNeg p0)) ||| (1 <<< (p1 &&& 31)))) (Int32.toNatClampNeg p1) (((upd vMe (Int32.toNatClampNeg p0) ((vMe (Int32.toNatClampNeg p0)) ||| (1 <<< (p1 &&& 31)))) (Int32.toNatClampNeg p1)) ||| (1 <<< (p0 &&& 31)))))), (v4, .inl (cI, 8, .inl vOw)), (v5, .inl (cI, 8, .inl vFk))] H := hP
    have hD : va_D (va_A (wV cI cC cG v0 v1 v2 v3 v4 v5 vP vS vD vAg vKi vMe vOw vFk) sz) [(v0, .inr (7, [.ref v1, .ref v2, .ref v3, .ref v4, .ref v5, .int vP, .int vS, .int vD])), (v1, .inl (cI, 6, .inl vAg)), (v2, .inl (cI, 6, .inl vKi)), (v3, .inl (cI, 6, .inl (upd (upd vMe (Int32.toNatClampNeg p0) ((vMe (Int32.toNatClampNeg p0)) ||| (1 <<< (p1 &&& 31)))) (Int32.toNatClampNeg p1) (((upd vMe (Int32.toNatClampNeg p0) ((vMe (Int32.toNatClampNeg p0)) ||| (1 <<< (p1 &&& 31)))) (Int32.toNatClampNeg p1)) ||| (1 <<< (p0 &&& 31)))))), (v4, .inl (cI, 8, .inl vOw)), (v5, .inl (cI, 8, .inl vFk))] := hD
    refine lv_iconst (v := 1) hx hb dX7_addMeeting_47 (by decide) ?_
    have e_6 : (g_X7_addMeeting_vMe vP vMe p0 p1) = (upd (upd vMe (Int32.toNatClampNeg p0) ((vMe (Int32.toNatClampNeg p0)) ||| (1 <<< (p1 &&& 31)))) (Int32.toNatClampNeg p1) (((upd vMe (Int32.toNatClampNeg p0) ((vMe (Int32.toNatClampNeg p0)) ||| (1 <<< (p1 &&& 31)))) (Int32.toNatClampNeg p1)) ||| (1 <<< (p0 &&& 31)))) := by simp only [g_X7_addMeeting_vMe, if_neg c_1, if_neg c_3, if_neg c_5]
    exact rw_zret hx hb hr (by rfl) hlocks hP hD hS (by simp only [f_X7_addMeeting, if_neg c_1, if_neg c_3, if_neg c_5]) (by rw [e_6]) dX7_addMeeting_48
  refine lv_iconst (v := 0) hx hb dX7_addMeeting_21 (by decide) ?_
  have e_7 : (g_X7_addMeeting_vMe vP vMe p0 p1) = vMe := by simp only [g_X7_addMeeting_vMe, if_neg c_1, if_neg c_3, if_pos c_5]
  exact rw_zret hx hb hr (by rfl) hlocks hP hD hS (by simp only [f_X7_addMeeting, if_neg c_1, if_neg c_3, if_pos c_5]) (by rw [e_7]) dX7_addMeeting_22
def f_X7_addSecret (vP : Int32) (vS : Int32) (p0 : Int32) (p1 : Int32) : Int32 := (if vS < 0 then 0 else (if 8 ≤ vS then 0 else (if (f_X7_hasPerson vP p0) = 0 then 0 else (if p1 ≤ 63 then 1 else 0))))
theorem b_X7_addSecret (vP : Int32) (vS : Int32) (p0 : Int32) (p1 : Int32) : (f_X7_addSecret vP vS p0 p1) = 0 ∨ (f_X7_addSecret vP vS p0 p1) = 1 := by
  unfold f_X7_addSecret
  repeat' split
  all_goals first | exact Or.inl rfl | exact Or.inr rfl | exact b_X7_hasPerson _ _
def g_X7_addSecret_vS (vP : Int32) (vS : Int32) (p0 : Int32) (p1 : Int32) : Int32 := (if vS < 0 then vS else (if 8 ≤ vS then vS else (if (f_X7_hasPerson vP p0) = 0 then vS else (if p1 ≤ 63 then (vS + 1) else vS))))
def g_X7_addSecret_vOw (vP : Int32) (vS : Int32) (vOw : Nat → Int32) (p0 : Int32) (p1 : Int32) : Nat → Int32 := (if vS < 0 then vOw else (if 8 ≤ vS then vOw else (if (f_X7_hasPerson vP p0) = 0 then vOw else (if p1 ≤ 63 then (upd vOw (Int32.toNatClampNeg vS) p0) else vOw))))
def g_X7_addSecret_vFk (vP : Int32) (vS : Int32) (vFk : Nat → Int32) (p0 : Int32) (p1 : Int32) : Nat → Int32 := (if vS < 0 then vFk else (if 8 ≤ vS then vFk else (if (f_X7_hasPerson vP p0) = 0 then vFk else (if p1 ≤ 63 then (upd vFk (Int32.toNatClampNeg vS) (p1 ||| (1 <<< (p0 &&& 31)))) else vFk))))
abbrev rm_X7_addSecret : Room := { frames := 1, cells := 0, slots := 0, locals := 21 }
set_option maxRecDepth 100000 in
set_option maxHeartbeats 4000000 in
theorem c_X7_addSecret (l : Launch) (D : va_G) (cI cC cG : ClassId) (v0 : Nat) (v1 : Nat) (v2 : Nat) (v3 : Nat) (v4 : Nat) (v5 : Nat) (vP : Int32) (vS : Int32) (vD : Int32) (vAg : Nat → Int32) (vKi : Nat → Int32) (vMe : Nat → Int32) (vOw : Nat → Int32) (vFk : Nat → Int32) (p0 : Int32) (p1 : Int32) (sz : Nat) : RwI l yX7_addSecret wsX7_addSecret rm_X7_addSecret D (q_t cI cC cG) (wV cI cC cG v0 v1 v2 v3 v4 v5 vP vS vD vAg vKi vMe vOw vFk) (wV cI cC cG v0 v1 v2 v3 v4 v5 vP (g_X7_addSecret_vS vP vS p0 p1) vD vAg vKi vMe (g_X7_addSecret_vOw vP vS vOw p0 p1) (g_X7_addSecret_vFk vP vS vFk p0 p1)) sz [.ref v0, .int p0, .int p1] (f_X7_addSecret vP vS p0 p1) := by
  refine rw_enter (cc := cX7_addSecret) (maxL := 3) (ret := (some .boolean)) (by decide) rfl (Nat.le_of_ble_eq_true rfl) ?_
  intro p e s m below meth c ls B hP hK hD hS hA hl
  obtain ⟨hx, hb, hr, hlocks, hml, hown, hts, hN⟩ := B
  have hown : s.vm.findClass RX7 = some m.cls := hown
  have hl : lv_has ls 3 [(0, .ref v0), (1, .int p0), (2, .int p1)] := hl
  have hf31 := hts (.fieldLink RX7 31 "OlderByABlush$Village" "secrets" "I") (by decide +kernel)
  have hinX7 : ∀ w ∈ u_ws RX7 TX7 8, w ∈ wsX7_addSecret := by decide +kernel
  have hf21 := hts (.fieldLink RX7 21 "OlderByABlush$Village" "owners" "[I") (by decide +kernel)
  have hf24 := hts (.fieldLink RX7 24 "OlderByABlush$Village" "firstKnowers" "[I") (by decide +kernel)
  refine lv_aload_n hx hb dX7_addSecret_0 rfl (lv_at hl 0 rfl) ?_
  refine va_get (D := D) (ci := 7) (v := .int vS) (C := RX7) (T := TX7) (N := 8) hx hb hts hinX7 hown hK hP 0 rfl rfl 6 (by decide) hf31 (fun _ h9 => h9) rfl dX7_addSecret_1 ?_
  refine lv_if_lt (tgt := 30) hx hb dX7_addSecret_4 (by decide) (fun c_1 => ?_) (fun c_1 => ?_)
  · refine lv_iconst (v := 0) hx hb dX7_addSecret_30 (by decide) ?_
    have e_2 : (g_X7_addSecret_vS vP vS p0 p1) = vS := by simp only [g_X7_addSecret_vS, if_pos c_1]
    have e_3 : (g_X7_addSecret_vOw vP vS vOw p0 p1) = vOw := by simp only [g_X7_addSecret_vOw, if_pos c_1]
    have e_4 : (g_X7_addSecret_vFk vP vS vFk p0 p1) = vFk := by simp only [g_X7_addSecret_vFk, if_pos c_1]
    exact rw_zret hx hb hr (by rfl) hlocks hP hD hS (by simp only [f_X7_addSecret, if_pos c_1]) (by rw [e_2, e_3, e_4]) dX7_addSecret_31
  refine lv_aload_n hx hb dX7_addSecret_7 rfl (lv_at hl 0 rfl) ?_
  refine va_get (D := D) (ci := 7) (v := .int vS) (C := RX7) (T := TX7) (N := 8) hx hb hts hinX7 hown hK hP 0 rfl rfl 6 (by decide) hf31 (fun _ h9 => h9) rfl dX7_addSecret_8 ?_
  refine lv_bipush (v := 8) hx hb dX7_addSecret_11 (by decide) ?_
  refine lv_icmp_ge (tgt := 30) hx hb dX7_addSecret_13 (by decide) (fun c_5 => ?_) (fun c_5 => ?_)
  · refine lv_iconst (v := 0) hx hb dX7_addSecret_30 (by decide) ?_
    have e_6 : (g_X7_addSecret_vS vP vS p0 p1) = vS := by simp only [g_X7_addSecret_vS, if_neg c_1, if_pos c_5]
    have e_7 : (g_X7_addSecret_vOw vP vS vOw p0 p1) = vOw := by simp only [g_X7_addSecret_vOw, if_neg c_1, if_pos c_5]
    have e_8 : (g_X7_addSecret_vFk vP vS vFk p0 p1) = vFk := by simp only [g_X7_addSecret_vFk, if_neg c_1, if_pos c_5]
    exact rw_zret hx hb hr (by rfl) hlocks hP hD hS (by simp only [f_X7_addSecret, if_neg c_1, if_pos c_5]) (by rw [e_6, e_7, e_8]) dX7_addSecret_31
  refine lv_aload_n hx hb dX7_addSecret_16 rfl (lv_at hl 0 rfl) ?_
  refine lv_iload_n hx hb dX7_addSecret_17 rfl (lv_at hl 1 rfl) ?_
  refine ro_i (va_runV (As := [.int p0]) (rest := []) ⟨hx, hb, hml, hown, hts⟩ (c_X7_hasPerson l D cI cC cG v0 v1 v2 v3 v4 v5 vP vS vD vAg vKi vMe vOw vFk p0) (cwV 1 hts gX7_addSecret_X7_hasPerson rfl rfl rfl (by decide +kernel) ⟨Nat.le_of_ble_eq_true rfl, Nat.le_of_ble_eq_true rfl⟩) (q_preV hK hP hN [0, 1, 2, 3, 4, 5] rfl (ci := 7) (q0 := 0) rfl rfl) rfl rfl hl.1 rfl (lv_room (Nat.le_of_ble_eq_true rfl)) dX7_addSecret_18 ⟨Nat.zero_le _, Nat.zero_le _⟩) hS hP (fun H locs hP hS => ?_)
  refine lv_if_eq (tgt := 30) hx hb dX7_addSecret_21 (by decide) (fun c_9 => ?_) (fun c_9 => ?_)
  · refine lv_iconst (v := 0) hx hb dX7_addSecret_30 (by decide) ?_
    have e_10 : (g_X7_addSecret_vS vP vS p0 p1) = vS := by simp only [g_X7_addSecret_vS, if_neg c_1, if_neg c_5, if_pos c_9]
    have e_11 : (g_X7_addSecret_vOw vP vS vOw p0 p1) = vOw := by simp only [g_X7_addSecret_vOw, if_neg c_1, if_neg c_5, if_pos c_9]
    have e_12 : (g_X7_addSecret_vFk vP vS vFk p0 p1) = vFk := by simp only [g_X7_addSecret_vFk, if_neg c_1, if_neg c_5, if_pos c_9]
    exact rw_zret hx hb hr (by rfl) hlocks hP hD hS (by simp only [f_X7_addSecret, if_neg c_1, if_neg c_5, if_pos c_9]) (by rw [e_10, e_11, e_12]) dX7_addSecret_31
  refine lv_iload_n hx hb dX7_addSecret_24 rfl (lv_at hl 2 rfl) ?_
  refine lv_bipush (v := 63) hx hb dX7_addSecret_25 (by decide) ?_
  refine lv_icmp_le (tgt := 32) hx hb dX7_addSecret_27 (by decide) (fun c_13 => ?_) (fun c_13 => ?_)
  · refine lv_aload_n hx hb dX7_addSecret_32 rfl (lv_at hl 0 rfl) ?_
    refine va_get (D := D) (ci := 7) (v := .ref v4) (C := RX7) (T := TX7) (N := 8) hx hb hts hinX7 hown hK hP 0 rfl rfl 3 (by decide) hf21 (fun _ h9 => h9) rfl dX7_addSecret_33 ?_
    refine lv_aload_n hx hb dX7_addSecret_36 rfl (lv_at hl 0 rfl) ?_
    refine va_get (D := D) (ci := 7) (v := .int vS) (C := RX7) (T := TX7) (N := 8) hx hb hts hinX7 hown hK hP 0 rfl rfl 6 (by decide) hf31 (fun _ h9 => h9) rfl dX7_addSecret_37 ?_
    refine lv_iload_n hx hb dX7_addSecret_40 rfl (lv_at hl 1 rfl) ?_
    refine q_iast hx hb hK hP hD hS 4 0 rfl rfl (in_cmp c_1 c_5) (Int32.toNatClampNeg vS) rfl dX7_addSecret_41 (fun H locs hP hD hS => ?_)
    have hP : va_P D vwCl [(v0, .inr (7, [.ref v1, .ref v2, .ref v3, .ref v4, .ref v5, .int vP, .int vS, .int vD])), (v1, .inl (cI, 6, .inl vAg)), (v2, .inl (cI, 6, .inl vKi)), (v3, .inl (cI, 6, .inl vMe)), (v4, .inl (cI, 8, .inl (upd vOw (Int32.toNatClampNeg vS) p0))), (v5, .inl (cI, 8, .inl vFk))] H := hP
    have hD : va_D (va_A (wV cI cC cG v0 v1 v2 v3 v4 v5 vP vS vD vAg vKi vMe vOw vFk) sz) [(v0, .inr (7, [.ref v1, .ref v2, .ref v3, .ref v4, .ref v5, .int vP, .int vS, .int vD])), (v1, .inl (cI, 6, .inl vAg)), (v2, .inl (cI, 6, .inl vKi)), (v3, .inl (cI, 6, .inl vMe)), (v4, .inl (cI, 8, .inl (upd vOw (Int32.toNatClampNeg vS) p0))), (v5, .inl (cI, 8, .inl vFk))] := hD
    refine lv_aload_n hx hb dX7_addSecret_42 rfl (lv_at hl 0 rfl) ?_
    refine va_get (D := D) (ci := 7) (v := .ref v5) (C := RX7) (T := TX7) (N := 8) hx hb hts hinX7 hown hK hP 0 rfl rfl 4 (by decide) hf24 (fun _ h9 => h9) rfl dX7_addSecret_43 ?_
    refine lv_aload_n hx hb dX7_addSecret_46 rfl (lv_at hl 0 rfl) ?_
    refine va_get (D := D) (ci := 7) (v := .int vS) (C := RX7) (T := TX7) (N := 8) hx hb hts hinX7 hown hK hP 0 rfl rfl 6 (by decide) hf31 (fun _ h9 => h9) rfl dX7_addSecret_47 ?_
    refine lv_iload_n hx hb dX7_addSecret_50 rfl (lv_at hl 2 rfl) ?_
    refine lv_iconst (v := 1) hx hb dX7_addSecret_51 (by decide) ?_
    refine lv_iload_n hx hb dX7_addSecret_52 rfl (lv_at hl 1 rfl) ?_
    refine lv_ishl hx hb dX7_addSecret_53 ?_
    refine lv_ior hx hb dX7_addSecret_54 ?_
    refine q_iast hx hb hK hP hD hS 5 0 rfl rfl (in_cmp c_1 c_5) (Int32.toNatClampNeg vS) rfl dX7_addSecret_55 (fun H locs hP hD hS => ?_)
    have hP : va_P D vwCl [(v0, .inr (7, [.ref v1, .ref v2, .ref v3, .ref v4, .ref v5, .int vP, .int vS, .int vD])), (v1, .inl (cI, 6, .inl vAg)), (v2, .inl (cI, 6, .inl vKi)), (v3, .inl (cI, 6, .inl vMe)), (v4, .inl (cI, 8, .inl (upd vOw (Int32.toNatClampNeg vS) p0))), (v5, .inl (cI, 8, .inl (upd vFk (Int32.toNatClampNeg vS) (p1 ||| (1 <<< (p0 &&& 31))))))] H := hP
    have hD : va_D (va_A (wV cI cC cG v0 v1 v2 v3 v4 v5 vP vS vD vAg vKi vMe vOw vFk) sz) [(v0, .inr (7, [.ref v1, .ref v2, .ref v3, .ref v4, .ref v5, .int vP, .int vS, .int vD])), (v1, .inl (cI, 6, .inl vAg)), (v2, .inl (cI, 6, .inl vKi)), (v3, .inl (cI, 6, .inl vMe)), (v4, .inl (cI, 8, .inl (upd vOw (Int32.toNatClampNeg vS) p0))), (v5, .inl (cI, 8, .inl (upd vFk (Int32.toNatClampNeg vS) (p1 ||| (1 <<< (p0 &&& 31))))))] := hD
    refine lv_aload_n hx hb dX7_addSecret_56 rfl (lv_at hl 0 rfl) ?_
    refine lv_dup hx hb dX7_addSecret_57 rfl ?_
    refine va_get (D := D) (ci := 7) (v := .int vS) (C := RX7) (T := TX7) (N := 8) hx hb hts hinX7 hown hK hP 0 rfl rfl 6 (by decide) hf31 (fun _ h9 => h9) rfl dX7_addSecret_58 ?_
    refine lv_iconst (v := 1) hx hb dX7_addSecret_61 (by decide) ?_
    refine lv_iadd hx hb dX7_addSecret_62 ?_
    refine va_put (D := D) (ci := 7) (v := .int (vS + 1)) (ty := .int) (C := RX7) (T := TX7) (N := 8) hx hb hts hinX7 tyX7 tyX7_ok nmX7 hown hK hP hD hS 0 rfl rfl 6 (by decide) hf31 (fun _ h9 => h9) rfl (by decide +kernel) rfl rfl (Nat.le_of_ble_eq_true rfl) dX7_addSecret_63 (fun H locs hP hD hS => ?_)
    have hP : va_P D vwCl [(v0, .inr (7, [.ref v1, .ref v2, .ref v3, .ref v4, .ref v5, .int vP, .int (vS + 1), .int vD])), (v1, .inl (cI, 6, .inl vAg)), (v2, .inl (cI, 6, .inl vKi)), (v3, .inl (cI, 6, .inl vMe)), (v4, .inl (cI, 8, .inl (upd vOw (Int32.toNatClampNeg vS) p0))), (v5, .inl (cI, 8, .inl (upd vFk (Int32.toNatClampNeg vS) (p1 ||| (1 <<< (p0 &&& 31))))))] H := hP
    have hD : va_D (va_A (wV cI cC cG v0 v1 v2 v3 v4 v5 vP vS vD vAg vKi vMe vOw vFk) sz) [(v0, .inr (7, [.ref v1, .ref v2, .ref v3, .ref v4, .ref v5, .int vP, .int (vS + 1), .int vD])), (v1, .inl (cI, 6, .inl vAg)), (v2, .inl (cI, 6, .inl vKi)), (v3, .inl (cI, 6, .inl vMe)), (v4, .inl (cI, 8, .inl (upd vOw (Int32.toNatClampNeg vS) p0))), (v5, .inl (cI, 8, .inl (upd vFk (Int32.toNatClampNeg vS) (p1 ||| (1 <<< (p0 &&& 31))))))] := hD
    refine lv_iconst (v := 1) hx hb dX7_addSecret_66 (by decide) ?_
    have e_14 : (g_X7_addSecret_vS vP vS p0 p1) = (vS + 1) := by simp only [g_X7_addSecret_vS, if_neg c_1, if_neg c_5, if_neg c_9, if_pos c_13]
    have e_15 : (g_X7_addSecret_vOw vP vS vOw p0 p1) = (upd vOw (Int32.toNatClampNeg vS) p0) := by simp only [g_X7_addSecret_vOw, if_neg c_1, if_neg c_5, if_neg c_9, if_pos c_13]
    have e_16 : (g_X7_addSecret_vFk vP vS vFk p0 p1) = (upd vFk (Int32.toNatClampNeg vS) (p1 ||| (1 <<< (p0 &&& 31)))) := by simp only [g_X7_addSecret_vFk, if_neg c_1, if_neg c_5, if_neg c_9, if_pos c_13]
    exact rw_zret hx hb hr (by rfl) hlocks hP hD hS (by simp only [f_X7_addSecret, if_neg c_1, if_neg c_5, if_neg c_9, if_pos c_13]) (by rw [e_14, e_15, e_16]) dX7_addSecret_67
  refine lv_iconst (v := 0) hx hb dX7_addSecret_30 (by decide) ?_
  have e_17 : (g_X7_addSecret_vS vP vS p0 p1) = vS := by simp only [g_X7_addSecret_vS, if_neg c_1, if_neg c_5, if_neg c_9, if_neg c_13]
  have e_18 : (g_X7_addSecret_vOw vP vS vOw p0 p1) = vOw := by simp only [g_X7_addSecret_vOw, if_neg c_1, if_neg c_5, if_neg c_9, if_neg c_13]
  have e_19 : (g_X7_addSecret_vFk vP vS vFk p0 p1) = vFk := by simp only [g_X7_addSecret_vFk, if_neg c_1, if_neg c_5, if_neg c_9, if_neg c_13]
  exact rw_zret hx hb hr (by rfl) hlocks hP hD hS (by simp only [f_X7_addSecret, if_neg c_1, if_neg c_5, if_neg c_9, if_neg c_13]) (by rw [e_17, e_18, e_19]) dX7_addSecret_31
def f_X7_addDeath (p0 : Int32) : Int32 := (if p0 < 1 then 0 else (if p0 ≤ 99 then 1 else 0))
def g_X7_addDeath_vD (vD : Int32) (p0 : Int32) : Int32 := (if p0 < 1 then vD else (if p0 ≤ 99 then p0 else vD))
abbrev rm_X7_addDeath : Room := { frames := 0, cells := 0, slots := 0, locals := 0 }
set_option maxRecDepth 100000 in
set_option maxHeartbeats 4000000 in
theorem c_X7_addDeath (l : Launch) (D : va_G) (cI cC cG : ClassId) (v0 : Nat) (v1 : Nat) (v2 : Nat) (v3 : Nat) (v4 : Nat) (v5 : Nat) (vP : Int32) (vS : Int32) (vD : Int32) (vAg : Nat → Int32) (vKi : Nat → Int32) (vMe : Nat → Int32) (vOw : Nat → Int32) (vFk : Nat → Int32) (p0 : Int32) (sz : Nat) : RwI l yX7_addDeath wsX7_addDeath rm_X7_addDeath D (q_t cI cC cG) (wV cI cC cG v0 v1 v2 v3 v4 v5 vP vS vD vAg vKi vMe vOw vFk) (wV cI cC cG v0 v1 v2 v3 v4 v5 vP vS (g_X7_addDeath_vD vD p0) vAg vKi vMe vOw vFk) sz [.ref v0, .int p0] (f_X7_addDeath p0) := by
  refine rw_enter (cc := cX7_addDeath) (maxL := 2) (ret := (some .boolean)) (by decide) rfl (Nat.le_of_ble_eq_true rfl) ?_
  intro p e s m below meth c ls B hP hK hD hS hA hl
  obtain ⟨hx, hb, hr, hlocks, hml, hown, hts, hN⟩ := B
  have hown : s.vm.findClass RX7 = some m.cls := hown
  have hl : lv_has ls 2 [(0, .ref v0), (1, .int p0)] := hl
  have hf34 := hts (.fieldLink RX7 34 "OlderByABlush$Village" "deathAge" "I") (by decide +kernel)
  have hinX7 : ∀ w ∈ u_ws RX7 TX7 8, w ∈ wsX7_addDeath := by decide +kernel
  refine lv_iload_n hx hb dX7_addDeath_0 rfl (lv_at hl 1 rfl) ?_
  refine lv_iconst (v := 1) hx hb dX7_addDeath_1 (by decide) ?_
  refine lv_icmp_lt (tgt := 11) hx hb dX7_addDeath_2 (by decide) (fun c_1 => ?_) (fun c_1 => ?_)
  · refine lv_iconst (v := 0) hx hb dX7_addDeath_11 (by decide) ?_
    have e_2 : (g_X7_addDeath_vD vD p0) = vD := by simp only [g_X7_addDeath_vD, if_pos c_1]
    exact rw_zret hx hb hr (by rfl) hlocks hP hD hS (by simp only [f_X7_addDeath, if_pos c_1]) (by rw [e_2]) dX7_addDeath_12
  refine lv_iload_n hx hb dX7_addDeath_5 rfl (lv_at hl 1 rfl) ?_
  refine lv_bipush (v := 99) hx hb dX7_addDeath_6 (by decide) ?_
  refine lv_icmp_le (tgt := 13) hx hb dX7_addDeath_8 (by decide) (fun c_3 => ?_) (fun c_3 => ?_)
  · refine lv_aload_n hx hb dX7_addDeath_13 rfl (lv_at hl 0 rfl) ?_
    refine lv_iload_n hx hb dX7_addDeath_14 rfl (lv_at hl 1 rfl) ?_
    refine va_put (D := D) (ci := 7) (v := .int p0) (ty := .int) (C := RX7) (T := TX7) (N := 8) hx hb hts hinX7 tyX7 tyX7_ok nmX7 hown hK hP hD hS 0 rfl rfl 7 (by decide) hf34 (fun _ h9 => h9) rfl (by decide +kernel) rfl rfl (Nat.le_of_ble_eq_true rfl) dX7_addDeath_15 (fun H locs hP hD hS => ?_)
    have hP : va_P D vwCl [(v0, .inr (7, [.ref v1, .ref v2, .ref v3, .ref v4, .ref v5, .int vP, .int vS, .int p0])), (v1, .inl (cI, 6, .inl vAg)), (v2, .inl (cI, 6, .inl vKi)), (v3, .inl (cI, 6, .inl vMe)), (v4, .inl (cI, 8, .inl vOw)), (v5, .inl (cI, 8, .inl vFk))] H := hP
    have hD : va_D (va_A (wV cI cC cG v0 v1 v2 v3 v4 v5 vP vS vD vAg vKi vMe vOw vFk) sz) [(v0, .inr (7, [.ref v1, .ref v2, .ref v3, .ref v4, .ref v5, .int vP, .int vS, .int p0])), (v1, .inl (cI, 6, .inl vAg)), (v2, .inl (cI, 6, .inl vKi)), (v3, .inl (cI, 6, .inl vMe)), (v4, .inl (cI, 8, .inl vOw)), (v5, .inl (cI, 8, .inl vFk))] := hD
    refine lv_iconst (v := 1) hx hb dX7_addDeath_18 (by decide) ?_
    have e_4 : (g_X7_addDeath_vD vD p0) = p0 := by simp only [g_X7_addDeath_vD, if_neg c_1, if_pos c_3]
    exact rw_zret hx hb hr (by rfl) hlocks hP hD hS (by simp only [f_X7_addDeath, if_neg c_1, if_pos c_3]) (by rw [e_4]) dX7_addDeath_19
  refine lv_iconst (v := 0) hx hb dX7_addDeath_11 (by decide) ?_
  have e_5 : (g_X7_addDeath_vD vD p0) = vD := by simp only [g_X7_addDeath_vD, if_neg c_1, if_neg c_3]
  exact rw_zret hx hb hr (by rfl) hlocks hP hD hS (by simp only [f_X7_addDeath, if_neg c_1, if_neg c_3]) (by rw [e_5]) dX7_addDeath_12
