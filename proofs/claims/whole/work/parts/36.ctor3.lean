abbrev rm_X4_init8 : Room := { frames := 1, cells := 9, slots := 128, locals := 12 }
set_option maxRecDepth 100000 in
set_option maxHeartbeats 4000000 in
theorem c_X4_init8 (l : Launch) (D : va_G) (cI cC cG : ClassId) (u0 : Nat) (sz : Nat) : Met l yX4_init wsX4_init rm_X4_init8 (q_PX (va_AOA .int) D (q_t cI cC cG) [(u0, .inr (4, [.null, .int 0]))] sz [.ref u0, .int 8]) (q_QN D [(u0, .inr (4, [.null, .int 0]))] (fun u => [(u0, .inr (4, [.ref (u 0), .int 0])), ((u 0), .inl (cG, 8, .inr (.inr (.inr (.inr (q_g [(u 1), (u 2), (u 3), (u 4), (u 5), (u 6), (u 7), (u 8)])))))), ((u 1), .inl (cI, 15, .inl (fun _ => 0))), ((u 2), .inl (cI, 15, .inl (fun _ => 0))), ((u 3), .inl (cI, 15, .inl (fun _ => 0))), ((u 4), .inl (cI, 15, .inl (fun _ => 0))), ((u 5), .inl (cI, 15, .inl (fun _ => 0))), ((u 6), .inl (cI, 15, .inl (fun _ => 0))), ((u 7), .inl (cI, 15, .inl (fun _ => 0))), ((u 8), .inl (cI, 15, .inl (fun _ => 0)))]) sz) 9 128 (va_A [(u0, .inr (4, [.null, .int 0]))] sz) := by
  refine rx_enter (cc := cX4_init) (maxL := 2) (by decide) rfl (Nat.le_of_ble_eq_true rfl) rfl ?_
  intro p e s m below meth c ls B hXs hin hsz hP hK hD hS hA hl
  obtain ⟨hx, hb, hr, hlocks, hml, hown, hts, hN⟩ := B
  have hown : s.vm.findClass RX4 = some m.cls := hown
  have hl : lv_has ls 2 [(0, .ref u0), (1, .int 8)] := hl
  have hoi := hts (.methodLink RX4 1 objectInit) (by decide +kernel)
  have hoin := hts (.instanceMethod objectInit) (by decide +kernel)
  have hoic := hts (.code objectInit ⟨#[0xb1]⟩ 1 none) (by decide +kernel)
  have hf7 := hts (.fieldLink RX4 7 "OlderByABlush$Shelf" "height" "I") (by decide +kernel)
  have hinX4 : ∀ w ∈ u_ws RX4 TX4 2, w ∈ wsX4_init := by decide +kernel
  have harr_int := hts (.arrayClass .int) (by decide +kernel)
  have hcl15 := hts (.classLink RX4 15 "[[I") (by decide +kernel)
  have hf17 := hts (.fieldLink RX4 17 "OlderByABlush$Shelf" "rows" "[[I") (by decide +kernel)
  refine lv_aload_n hx hb dX4_init_0 rfl (lv_at hl 0 rfl) ?_
  refine W.objInit hx hb hown hoi hoin hoic rfl (by rw [hml]; exact hl.1) rfl dX4_init_1 (Nat.le_of_ble_eq_true rfl) (Nat.le_of_ble_eq_true rfl) ?_
  refine W.eq (g2 := F0 m 4 ls []) rfl ?_
  refine lv_aload_n hx hb dX4_init_4 rfl (lv_at hl 0 rfl) ?_
  refine lv_iconst (v := 0) hx hb dX4_init_5 (by decide) ?_
  refine va_put (D := D) (ci := 4) (v := .int 0) (ty := .int) (C := RX4) (T := TX4) (N := 2) hx hb hts hinX4 tyX4 tyX4_ok nmX4 hown hK hP hD hS 0 rfl rfl 1 (by decide) hf7 (fun _ h9 => h9) rfl (by decide +kernel) rfl rfl (Nat.le_of_ble_eq_true rfl) dX4_init_6 (fun H locs hP hD hS => ?_)
  have hP : va_P D vwCl [(u0, .inr (4, [.null, .int 0]))] H := hP
  have hD : va_D (va_A [(u0, .inr (4, [.null, .int 0]))] sz) [(u0, .inr (4, [.null, .int 0]))] := hD
  refine lv_aload_n hx hb dX4_init_9 rfl (lv_at hl 0 rfl) ?_
  refine lv_iload_n hx hb dX4_init_10 rfl (lv_at hl 1 rfl) ?_
  refine lv_if_le (tgt := 18) hx hb dX4_init_11 (by decide) (fun c_1 => ?_) (fun c_1 => ?_)
  · exact absurd c_1 (by decide : ¬ ((8 : Int32) ≤ 0))
  refine lv_iload_n hx hb dX4_init_14 rfl (lv_at hl 1 rfl) ?_
  refine lv_goto (tgt := 19) hx hb dX4_init_15 (by decide) ?_
  refine lv_bipush (v := 15) hx hb dX4_init_19 (by decide) ?_
  refine q_mna hx hb hown hcl15 hXs harr_int hK hP hD hS hA 8 15 (by decide) (by decide) (by decide) (by decide) (by decide) (by decide) (Nat.le_of_ble_eq_true rfl) (Nat.le_of_ble_eq_true rfl) dX4_init_21 (fun q21 r21 H hP hD hS => ?_)
  have hP : va_P D vwCl [(u0, .inr (4, [.null, .int 0])), (q21, .inl (cG, 8, .inr (.inr (.inr (.inr (q_g [(r21 0), (r21 1), (r21 2), (r21 3), (r21 4), (r21 5), (r21 6), (r21 7)])))))), ((r21 0), .inl (cI, 15, .inl (fun _ => 0))), ((r21 1), .inl (cI, 15, .inl (fun _ => 0))), ((r21 2), .inl (cI, 15, .inl (fun _ => 0))), ((r21 3), .inl (cI, 15, .inl (fun _ => 0))), ((r21 4), .inl (cI, 15, .inl (fun _ => 0))), ((r21 5), .inl (cI, 15, .inl (fun _ => 0))), ((r21 6), .inl (cI, 15, .inl (fun _ => 0))), ((r21 7), .inl (cI, 15, .inl (fun _ => 0)))] H := hP
  have hD : va_D (va_A [(u0, .inr (4, [.null, .int 0]))] sz) [(u0, .inr (4, [.null, .int 0])), (q21, .inl (cG, 8, .inr (.inr (.inr (.inr (q_g [(r21 0), (r21 1), (r21 2), (r21 3), (r21 4), (r21 5), (r21 6), (r21 7)])))))), ((r21 0), .inl (cI, 15, .inl (fun _ => 0))), ((r21 1), .inl (cI, 15, .inl (fun _ => 0))), ((r21 2), .inl (cI, 15, .inl (fun _ => 0))), ((r21 3), .inl (cI, 15, .inl (fun _ => 0))), ((r21 4), .inl (cI, 15, .inl (fun _ => 0))), ((r21 5), .inl (cI, 15, .inl (fun _ => 0))), ((r21 6), .inl (cI, 15, .inl (fun _ => 0))), ((r21 7), .inl (cI, 15, .inl (fun _ => 0)))] := hD
  refine va_putF (D := D) (ci := 4) (v := .ref q21) (ty := .array (.array .int)) (C := RX4) (T := TX4) (N := 2) hx hb hts hinX4 tyX4 tyX4_ok nmX4 hown hK hP hD hS 0 rfl rfl 0 (by decide) hf17 (fun _ h9 => h9) rfl hin rfl (by decide +kernel) rfl rfl (Nat.le_of_ble_eq_true rfl) dX4_init_25 (fun H locs hP hD hS => ?_)
  have hP : va_P D vwCl [(u0, .inr (4, [.ref q21, .int 0])), (q21, .inl (cG, 8, .inr (.inr (.inr (.inr (q_g [(r21 0), (r21 1), (r21 2), (r21 3), (r21 4), (r21 5), (r21 6), (r21 7)])))))), ((r21 0), .inl (cI, 15, .inl (fun _ => 0))), ((r21 1), .inl (cI, 15, .inl (fun _ => 0))), ((r21 2), .inl (cI, 15, .inl (fun _ => 0))), ((r21 3), .inl (cI, 15, .inl (fun _ => 0))), ((r21 4), .inl (cI, 15, .inl (fun _ => 0))), ((r21 5), .inl (cI, 15, .inl (fun _ => 0))), ((r21 6), .inl (cI, 15, .inl (fun _ => 0))), ((r21 7), .inl (cI, 15, .inl (fun _ => 0)))] H := hP
  have hD : va_D (va_A [(u0, .inr (4, [.null, .int 0]))] sz) [(u0, .inr (4, [.ref q21, .int 0])), (q21, .inl (cG, 8, .inr (.inr (.inr (.inr (q_g [(r21 0), (r21 1), (r21 2), (r21 3), (r21 4), (r21 5), (r21 6), (r21 7)])))))), ((r21 0), .inl (cI, 15, .inl (fun _ => 0))), ((r21 1), .inl (cI, 15, .inl (fun _ => 0))), ((r21 2), .inl (cI, 15, .inl (fun _ => 0))), ((r21 3), .inl (cI, 15, .inl (fun _ => 0))), ((r21 4), .inl (cI, 15, .inl (fun _ => 0))), ((r21 5), .inl (cI, 15, .inl (fun _ => 0))), ((r21 6), .inl (cI, 15, .inl (fun _ => 0))), ((r21 7), .inl (cI, 15, .inl (fun _ => 0)))] := hD
  exact rn_vret hx hb hr hlocks (Nat.le_of_ble_eq_true rfl) (Nat.le_of_ble_eq_true rfl) hP hD hS (q_u [q21, (r21 0), (r21 1), (r21 2), (r21 3), (r21 4), (r21 5), (r21 6), (r21 7)]) rfl dX4_init_28
abbrev rm_X4_init2 : Room := { frames := 1, cells := 3, slots := 32, locals := 12 }
set_option maxRecDepth 100000 in
set_option maxHeartbeats 4000000 in
theorem c_X4_init2 (l : Launch) (D : va_G) (cI cC cG : ClassId) (u0 : Nat) (sz : Nat) : Met l yX4_init wsX4_init rm_X4_init2 (q_PX (va_AOA .int) D (q_t cI cC cG) [(u0, .inr (4, [.null, .int 0]))] sz [.ref u0, .int 2]) (q_QN D [(u0, .inr (4, [.null, .int 0]))] (fun u => [(u0, .inr (4, [.ref (u 0), .int 0])), ((u 0), .inl (cG, 2, .inr (.inr (.inr (.inr (q_g [(u 1), (u 2)])))))), ((u 1), .inl (cI, 15, .inl (fun _ => 0))), ((u 2), .inl (cI, 15, .inl (fun _ => 0)))]) sz) 3 32 (va_A [(u0, .inr (4, [.null, .int 0]))] sz) := by
  refine rx_enter (cc := cX4_init) (maxL := 2) (by decide) rfl (Nat.le_of_ble_eq_true rfl) rfl ?_
  intro p e s m below meth c ls B hXs hin hsz hP hK hD hS hA hl
  obtain ⟨hx, hb, hr, hlocks, hml, hown, hts, hN⟩ := B
  have hown : s.vm.findClass RX4 = some m.cls := hown
  have hl : lv_has ls 2 [(0, .ref u0), (1, .int 2)] := hl
  have hoi := hts (.methodLink RX4 1 objectInit) (by decide +kernel)
  have hoin := hts (.instanceMethod objectInit) (by decide +kernel)
  have hoic := hts (.code objectInit ⟨#[0xb1]⟩ 1 none) (by decide +kernel)
  have hf7 := hts (.fieldLink RX4 7 "OlderByABlush$Shelf" "height" "I") (by decide +kernel)
  have hinX4 : ∀ w ∈ u_ws RX4 TX4 2, w ∈ wsX4_init := by decide +kernel
  have harr_int := hts (.arrayClass .int) (by decide +kernel)
  have hcl15 := hts (.classLink RX4 15 "[[I") (by decide +kernel)
  have hf17 := hts (.fieldLink RX4 17 "OlderByABlush$Shelf" "rows" "[[I") (by decide +kernel)
  refine lv_aload_n hx hb dX4_init_0 rfl (lv_at hl 0 rfl) ?_
  refine W.objInit hx hb hown hoi hoin hoic rfl (by rw [hml]; exact hl.1) rfl dX4_init_1 (Nat.le_of_ble_eq_true rfl) (Nat.le_of_ble_eq_true rfl) ?_
  refine W.eq (g2 := F0 m 4 ls []) rfl ?_
  refine lv_aload_n hx hb dX4_init_4 rfl (lv_at hl 0 rfl) ?_
  refine lv_iconst (v := 0) hx hb dX4_init_5 (by decide) ?_
  refine va_put (D := D) (ci := 4) (v := .int 0) (ty := .int) (C := RX4) (T := TX4) (N := 2) hx hb hts hinX4 tyX4 tyX4_ok nmX4 hown hK hP hD hS 0 rfl rfl 1 (by decide) hf7 (fun _ h9 => h9) rfl (by decide +kernel) rfl rfl (Nat.le_of_ble_eq_true rfl) dX4_init_6 (fun H locs hP hD hS => ?_)
  have hP : va_P D vwCl [(u0, .inr (4, [.null, .int 0]))] H := hP
  have hD : va_D (va_A [(u0, .inr (4, [.null, .int 0]))] sz) [(u0, .inr (4, [.null, .int 0]))] := hD
  refine lv_aload_n hx hb dX4_init_9 rfl (lv_at hl 0 rfl) ?_
  refine lv_iload_n hx hb dX4_init_10 rfl (lv_at hl 1 rfl) ?_
  refine lv_if_le (tgt := 18) hx hb dX4_init_11 (by decide) (fun c_1 => ?_) (fun c_1 => ?_)
  · exact absurd c_1 (by decide : ¬ ((2 : Int32) ≤ 0))
  refine lv_iload_n hx hb dX4_init_14 rfl (lv_at hl 1 rfl) ?_
  refine lv_goto (tgt := 19) hx hb dX4_init_15 (by decide) ?_
  refine lv_bipush (v := 15) hx hb dX4_init_19 (by decide) ?_
  refine q_mna hx hb hown hcl15 hXs harr_int hK hP hD hS hA 2 15 (by decide) (by decide) (by decide) (by decide) (by decide) (by decide) (Nat.le_of_ble_eq_true rfl) (Nat.le_of_ble_eq_true rfl) dX4_init_21 (fun q21 r21 H hP hD hS => ?_)
  have hP : va_P D vwCl [(u0, .inr (4, [.null, .int 0])), (q21, .inl (cG, 2, .inr (.inr (.inr (.inr (q_g [(r21 0), (r21 1)])))))), ((r21 0), .inl (cI, 15, .inl (fun _ => 0))), ((r21 1), .inl (cI, 15, .inl (fun _ => 0)))] H := hP
  have hD : va_D (va_A [(u0, .inr (4, [.null, .int 0]))] sz) [(u0, .inr (4, [.null, .int 0])), (q21, .inl (cG, 2, .inr (.inr (.inr (.inr (q_g [(r21 0), (r21 1)])))))), ((r21 0), .inl (cI, 15, .inl (fun _ => 0))), ((r21 1), .inl (cI, 15, .inl (fun _ => 0)))] := hD
  refine va_putF (D := D) (ci := 4) (v := .ref q21) (ty := .array (.array .int)) (C := RX4) (T := TX4) (N := 2) hx hb hts hinX4 tyX4 tyX4_ok nmX4 hown hK hP hD hS 0 rfl rfl 0 (by decide) hf17 (fun _ h9 => h9) rfl hin rfl (by decide +kernel) rfl rfl (Nat.le_of_ble_eq_true rfl) dX4_init_25 (fun H locs hP hD hS => ?_)
  have hP : va_P D vwCl [(u0, .inr (4, [.ref q21, .int 0])), (q21, .inl (cG, 2, .inr (.inr (.inr (.inr (q_g [(r21 0), (r21 1)])))))), ((r21 0), .inl (cI, 15, .inl (fun _ => 0))), ((r21 1), .inl (cI, 15, .inl (fun _ => 0)))] H := hP
  have hD : va_D (va_A [(u0, .inr (4, [.null, .int 0]))] sz) [(u0, .inr (4, [.ref q21, .int 0])), (q21, .inl (cG, 2, .inr (.inr (.inr (.inr (q_g [(r21 0), (r21 1)])))))), ((r21 0), .inl (cI, 15, .inl (fun _ => 0))), ((r21 1), .inl (cI, 15, .inl (fun _ => 0)))] := hD
  exact rn_vret hx hb hr hlocks (Nat.le_of_ble_eq_true rfl) (Nat.le_of_ble_eq_true rfl) hP hD hS (q_u [q21, (r21 0), (r21 1)]) rfl dX4_init_28
