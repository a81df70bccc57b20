def F_X6_copyInto_2 (row : Nat → Int32) (i0_ : Nat → Int32) : Nat → (Nat → Int32)
  | 0 => i0_
  | j2_ + 1 => (upd (F_X6_copyInto_2 row i0_ j2_) j2_ (row j2_))
def g_X6_copyInto_cel (row : Nat → Int32) (cel : Nat → Int32) : Nat → Int32 := (F_X6_copyInto_2 row cel 15)
abbrev rm_X6_copyInto : Room := { frames := 0, cells := 0, slots := 0, locals := 0 }
set_option maxRecDepth 100000 in
set_option maxHeartbeats 4000000 in
theorem c_X6_copyInto (l : Launch) (D : va_G) (cI cC cG : ClassId) (s0 : Nat) (s1 : Nat) (k0 : Nat) (v0 : Nat) (row : Nat → Int32) (cel : Nat → Int32) (sz : Nat) : RwV l yX6_copyInto wsX6_copyInto rm_X6_copyInto D (q_t cI cC cG) (wSc cI cC cG s0 s1 k0 v0 row cel) (wSc cI cC cG s0 s1 k0 v0 row (g_X6_copyInto_cel row cel)) sz [.ref s0, .ref k0] := by
  refine rw_enter (cc := cX6_copyInto) (maxL := 3) (ret := none) (by decide) rfl (Nat.le_of_ble_eq_true rfl) ?_
  intro p e s m below meth c ls B hP hK hD hS hA hl
  obtain ⟨hx, hb, hr, hlocks, hml, hown, hts, hN⟩ := B
  have hown : s.vm.findClass RX6 = some m.cls := hown
  have hl : lv_has ls 3 [(0, .ref s0), (1, .ref k0)] := hl
  have hf11 := hts (.fieldLink RX6 11 "OlderByABlush$Standing" "row" "[I") (by decide +kernel)
  have hinX6 : ∀ w ∈ u_ws RX6 TX6 2, w ∈ wsX6_copyInto := by decide +kernel
  refine lv_iconst (v := 0) hx hb dX6_copyInto_0 (by decide) ?_
  refine lv_istore_n (lv' := [(2, .int 0), (0, .ref s0), (1, .ref k0)]) hx hb dX6_copyInto_1 rfl hl (by decide) rfl (fun ls hl => ?_)
  have K2_ : ∀ (H : Heap) (locs : List Loc), va_P D vwCl [(s0, .inr (6, [.ref v0, .ref s1])), (s1, .inl (cI, 15, .inl row)), (k0, .inl (cI, 15, .inl (F_X6_copyInto_2 row cel 15)))] H → va_D (va_A (wSc cI cC cG s0 s1 k0 v0 row cel) sz) [(s0, .inr (6, [.ref v0, .ref s1])), (s1, .inl (cI, 15, .inl row)), (k0, .inl (cI, 15, .inl (F_X6_copyInto_2 row cel 15)))] → va_S (va_A (wSc cI cC cG s0 s1 k0 v0 row cel) sz) s.heap H locs → ∀ ls : Array Slot, lv_has ls 3 [] → W p l e rm_X6_copyInto s m ([.ref s0, .ref k0] : List Value).toArray below meth c H locs 0 0 (MQ below (q_QWv D (wSc cI cC cG s0 s1 k0 v0 row cel) (wSc cI cC cG s0 s1 k0 v0 row (g_X6_copyInto_cel row cel)) sz) ([.ref s0, .ref k0] : List Value).toArray s 0 0 (va_A (wSc cI cC cG s0 s1 k0 v0 row cel) sz)) (F0 m 29 ls []) := by
    intro H locs hP hD hS ls hl
    have e_1 : (g_X6_copyInto_cel row cel) = (F_X6_copyInto_2 row cel 15) := by simp only [g_X6_copyInto_cel]
    exact rw_vret hx hb hr hlocks hP hD hS (by rw [e_1]) dX6_copyInto_29
  have loop2_ : ∀ (n2_ j2_ : Nat), j2_ + n2_ = 15 → ∀ (H : Heap) (locs : List Loc), va_P D vwCl [(s0, .inr (6, [.ref v0, .ref s1])), (s1, .inl (cI, 15, .inl row)), (k0, .inl (cI, 15, .inl (F_X6_copyInto_2 row cel j2_)))] H → va_D (va_A (wSc cI cC cG s0 s1 k0 v0 row cel) sz) [(s0, .inr (6, [.ref v0, .ref s1])), (s1, .inl (cI, 15, .inl row)), (k0, .inl (cI, 15, .inl (F_X6_copyInto_2 row cel j2_)))] → va_S (va_A (wSc cI cC cG s0 s1 k0 v0 row cel) sz) s.heap H locs → ∀ ls : Array Slot, lv_has ls 3 [(0, .ref s0), (1, .ref k0), (2, .int (nI j2_))] → W p l e rm_X6_copyInto s m ([.ref s0, .ref k0] : List Value).toArray below meth c H locs 0 0 (MQ below (q_QWv D (wSc cI cC cG s0 s1 k0 v0 row cel) (wSc cI cC cG s0 s1 k0 v0 row (g_X6_copyInto_cel row cel)) sz) ([.ref s0, .ref k0] : List Value).toArray s 0 0 (va_A (wSc cI cC cG s0 s1 k0 v0 row cel) sz)) (F0 m 2 ls []) := by
    intro n2_
    induction n2_ with
    | zero =>
      intro j2_ hj2_ H locs hP hD hS ls hl
      obtain rfl : j2_ = 15 := by omega
      refine lv_iload_n hx hb dX6_copyInto_2 rfl (lv_at hl 2 rfl) ?_
      refine lv_bipush (v := 15) hx hb dX6_copyInto_3 (by decide) ?_
      refine lv_icmp_ge (tgt := 29) hx hb dX6_copyInto_5 (by decide) (fun c_2 => ?_) (fun c_2 => ?_)
      rotate_left
      · exact absurd (nI_le (Nat.le_refl 15) (by decide)) c_2
      exact K2_ _ _ hP hD hS _ (lv_sub hl [] rfl)
    | succ n2_ ih2_ =>
      intro j2_ hj2_ H locs hP hD hS ls hl
      refine lv_iload_n hx hb dX6_copyInto_2 rfl (lv_at hl 2 rfl) ?_
      refine lv_bipush (v := 15) hx hb dX6_copyInto_3 (by decide) ?_
      refine lv_icmp_ge (tgt := 29) hx hb dX6_copyInto_5 (by decide) (fun c_3 => ?_) (fun c_3 => ?_)
      · exact absurd c_3 (nI_ge (b := 15) (by omega) (by decide))
      refine lv_iload_n hx hb dX6_copyInto_8 rfl (lv_at hl 2 rfl) ?_
      refine lv_aload_n hx hb dX6_copyInto_9 rfl (lv_at hl 1 rfl) ?_
      refine va_alen (v := 15) hx hb hK hP 2 0 rfl rfl rfl dX6_copyInto_10 ?_
      refine lv_icmp_ge (tgt := 29) hx hb dX6_copyInto_11 (by decide) (fun c_4 => ?_) (fun c_4 => ?_)
      · exact absurd c_4 (nI_ge (b := 15) (by omega) (by decide))
      refine lv_aload_n hx hb dX6_copyInto_14 rfl (lv_at hl 1 rfl) ?_
      refine lv_iload_n hx hb dX6_copyInto_15 rfl (lv_at hl 2 rfl) ?_
      refine lv_aload_n hx hb dX6_copyInto_16 rfl (lv_at hl 0 rfl) ?_
      refine va_get (D := D) (ci := 6) (v := .ref s1) (C := RX6) (T := TX6) (N := 2) hx hb hts hinX6 hown hK hP 0 rfl rfl 1 (by decide) hf11 (fun _ h9 => h9) rfl dX6_copyInto_17 ?_
      refine lv_iload_n hx hb dX6_copyInto_20 rfl (lv_at hl 2 rfl) ?_
      refine q_iald hx hb hK hP 1 0 rfl rfl (vp_in_nI (by omega) (by decide)) j2_ (nI_clamp (by omega)) dX6_copyInto_21 ?_
      refine q_iast hx hb hK hP hD hS 2 0 rfl rfl (vp_in_nI (by omega) (by decide)) j2_ (nI_clamp (by omega)) dX6_copyInto_22 (fun H locs hP hD hS => ?_)
      have hP : va_P D vwCl [(s0, .inr (6, [.ref v0, .ref s1])), (s1, .inl (cI, 15, .inl row)), (k0, .inl (cI, 15, .inl (upd (F_X6_copyInto_2 row cel j2_) j2_ (row j2_))))] H := hP
      have hD : va_D (va_A (wSc cI cC cG s0 s1 k0 v0 row cel) sz) [(s0, .inr (6, [.ref v0, .ref s1])), (s1, .inl (cI, 15, .inl row)), (k0, .inl (cI, 15, .inl (upd (F_X6_copyInto_2 row cel j2_) j2_ (row j2_))))] := hD
      refine lv_iinc (v := (nI (j2_ + 1))) (lv' := [(2, .int (nI (j2_ + 1))), (0, .ref s0), (1, .ref k0)]) hx hb dX6_copyInto_23 hl (k := 2) rfl (nI_1 _) (by decide) rfl (fun ls hl => ?_)
      refine lv_goto (tgt := 2) hx hb dX6_copyInto_26 (by decide) ?_
      have e_5 : (F_X6_copyInto_2 row cel (j2_ + 1)) = (upd (F_X6_copyInto_2 row cel j2_) j2_ (row j2_)) := by simp only [F_X6_copyInto_2]
      exact ih2_ (j2_ + 1) (by omega) _ _ (by rw [e_5]; exact hP) (by rw [e_5]; exact hD) hS _ (lv_sub hl [1, 2, 0] rfl)
  exact loop2_ 15 0 (by omega) _ _ hP hD hS _ (lv_sub hl [1, 2, 0] rfl)
def F_X6_copyFrom_2 (cel : Nat → Int32) (i0_ : Nat → Int32) : Nat → (Nat → Int32)
  | 0 => i0_
  | j2_ + 1 => (upd (F_X6_copyFrom_2 cel i0_ j2_) j2_ (cel j2_))
def g_X6_copyFrom_row (row : Nat → Int32) (cel : Nat → Int32) : Nat → Int32 := (F_X6_copyFrom_2 cel row 15)
abbrev rm_X6_copyFrom : Room := { frames := 0, cells := 0, slots := 0, locals := 0 }
set_option maxRecDepth 100000 in
set_option maxHeartbeats 4000000 in
theorem c_X6_copyFrom (l : Launch) (D : va_G) (cI cC cG : ClassId) (s0 : Nat) (s1 : Nat) (k0 : Nat) (v0 : Nat) (row : Nat → Int32) (cel : Nat → Int32) (sz : Nat) : RwV l yX6_copyFrom wsX6_copyFrom rm_X6_copyFrom D (q_t cI cC cG) (wSc cI cC cG s0 s1 k0 v0 row cel) (wSc cI cC cG s0 s1 k0 v0 (g_X6_copyFrom_row row cel) cel) sz [.ref s0, .ref k0] := by
  refine rw_enter (cc := cX6_copyFrom) (maxL := 3) (ret := none) (by decide) rfl (Nat.le_of_ble_eq_true rfl) ?_
  intro p e s m below meth c ls B hP hK hD hS hA hl
  obtain ⟨hx, hb, hr, hlocks, hml, hown, hts, hN⟩ := B
  have hown : s.vm.findClass RX6 = some m.cls := hown
  have hl : lv_has ls 3 [(0, .ref s0), (1, .ref k0)] := hl
  have hf11 := hts (.fieldLink RX6 11 "OlderByABlush$Standing" "row" "[I") (by decide +kernel)
  have hinX6 : ∀ w ∈ u_ws RX6 TX6 2, w ∈ wsX6_copyFrom := by decide +kernel
  refine lv_iconst (v := 0) hx hb dX6_copyFrom_0 (by decide) ?_
  refine lv_istore_n (lv' := [(2, .int 0), (0, .ref s0), (1, .ref k0)]) hx hb dX6_copyFrom_1 rfl hl (by decide) rfl (fun ls hl => ?_)
  have K2_ : ∀ (H : Heap) (locs : List Loc), va_P D vwCl [(s0, .inr (6, [.ref v0, .ref s1])), (s1, .inl (cI, 15, .inl (F_X6_copyFrom_2 cel row 15))), (k0, .inl (cI, 15, .inl cel))] H → va_D (va_A (wSc cI cC cG s0 s1 k0 v0 row cel) sz) [(s0, .inr (6, [.ref v0, .ref s1])), (s1, .inl (cI, 15, .inl (F_X6_copyFrom_2 cel row 15))), (k0, .inl (cI, 15, .inl cel))] → va_S (va_A (wSc cI cC cG s0 s1 k0 v0 row cel) sz) s.heap H locs → ∀ ls : Array Slot, lv_has ls 3 [] → W p l e rm_X6_copyFrom s m ([.ref s0, .ref k0] : List Value).toArray below meth c H locs 0 0 (MQ below (q_QWv D (wSc cI cC cG s0 s1 k0 v0 row cel) (wSc cI cC cG s0 s1 k0 v0 (g_X6_copyFrom_row row cel) cel) sz) ([.ref s0, .ref k0] : List Value).toArray s 0 0 (va_A (wSc cI cC cG s0 s1 k0 v0 row cel) sz)) (F0 m 29 ls []) := by
    intro H locs hP hD hS ls hl
    have e_1 : (g_X6_copyFrom_row row cel) = (F_X6_copyFrom_2 cel row 15) := by simp only [g_X6_copyFrom_row]
    exact rw_vret hx hb hr hlocks hP hD hS (by rw [e_1]) dX6_copyFrom_29
  have loop2_ : ∀ (n2_ j2_ : Nat), j2_ + n2_ = 15 → ∀ (H : Heap) (locs : List Loc), va_P D vwCl [(s0, .inr (6, [.ref v0, .ref s1])), (s1, .inl (cI, 15, .inl (F_X6_copyFrom_2 cel row j2_))), (k0, .inl (cI, 15, .inl cel))] H → va_D (va_A (wSc cI cC cG s0 s1 k0 v0 row cel) sz) [(s0, .inr (6, [.ref v0, .ref s1])), (s1, .inl (cI, 15, .inl (F_X6_copyFrom_2 cel row j2_))), (k0, .inl (cI, 15, .inl cel))] → va_S (va_A (wSc cI cC cG s0 s1 k0 v0 row cel) sz) s.heap H locs → ∀ ls : Array Slot, lv_has ls 3 [(0, .ref s0), (1, .ref k0), (2, .int (nI j2_))] → W p l e rm_X6_copyFrom s m ([.ref s0, .ref k0] : List Value).toArray below meth c H locs 0 0 (MQ below (q_QWv D (wSc cI cC cG s0 s1 k0 v0 row cel) (wSc cI cC cG s0 s1 k0 v0 (g_X6_copyFrom_row row cel) cel) sz) ([.ref s0, .ref k0] : List Value).toArray s 0 0 (va_A (wSc cI cC cG s0 s1 k0 v0 row cel) sz)) (F0 m 2 ls []) := by
    intro n2_
    induction n2_ with
    | zero =>
      intro j2_ hj2_ H locs hP hD hS ls hl
      obtain rfl : j2_ = 15 := by omega
      refine lv_iload_n hx hb dX6_copyFrom_2 rfl (lv_at hl 2 rfl) ?_
      refine lv_bipush (v := 15) hx hb dX6_copyFrom_3 (by decide) ?_
      refine lv_icmp_ge (tgt := 29) hx hb dX6_copyFrom_5 (by decide) (fun c_2 => ?_) (fun c_2 => ?_)
      rotate_left
      · exact absurd (nI_le (Nat.le_refl 15) (by decide)) c_2
      exact K2_ _ _ hP hD hS _ (lv_sub hl [] rfl)
    | succ n2_ ih2_ =>
      intro j2_ hj2_ H locs hP hD hS ls hl
      refine lv_iload_n hx hb dX6_copyFrom_2 rfl (lv_at hl 2 rfl) ?_
      refine lv_bipush (v := 15) hx hb dX6_copyFrom_3 (by decide) ?_
      refine lv_icmp_ge (tgt := 29) hx hb dX6_copyFrom_5 (by decide) (fun c_3 => ?_) (fun c_3 => ?_)
      · exact absurd c_3 (nI_ge (b := 15) (by omega) (by decide))
      refine lv_iload_n hx hb dX6_copyFrom_8 rfl (lv_at hl 2 rfl) ?_
      refine lv_aload_n hx hb dX6_copyFrom_9 rfl (lv_at hl 1 rfl) ?_
      refine va_alen (v := 15) hx hb hK hP 2 0 rfl rfl rfl dX6_copyFrom_10 ?_
      refine lv_icmp_ge (tgt := 29) hx hb dX6_copyFrom_11 (by decide) (fun c_4 => ?_) (fun c_4 => ?_)
      · exact absurd c_4 (nI_ge (b := 15) (by omega) (by decide))
      refine lv_aload_n hx hb dX6_copyFrom_14 rfl (lv_at hl 0 rfl) ?_
      refine va_get (D := D) (ci := 6) (v := .ref s1) (C := RX6) (T := TX6) (N := 2) hx hb hts hinX6 hown hK hP 0 rfl rfl 1 (by decide) hf11 (fun _ h9 => h9) rfl dX6_copyFrom_15 ?_
      refine lv_iload_n hx hb dX6_copyFrom_18 rfl (lv_at hl 2 rfl) ?_
      refine lv_aload_n hx hb dX6_copyFrom_19 rfl (lv_at hl 1 rfl) ?_
      refine lv_iload_n hx hb dX6_copyFrom_20 rfl (lv_at hl 2 rfl) ?_
      refine q_iald hx hb hK hP 2 0 rfl rfl (vp_in_nI (by omega) (by decide)) j2_ (nI_clamp (by omega)) dX6_copyFrom_21 ?_
      refine q_iast hx hb hK hP hD hS 1 0 rfl rfl (vp_in_nI (by omega) (by decide)) j2_ (nI_clamp (by omega)) dX6_copyFrom_22 (fun H locs hP hD hS => ?_)
      have hP : va_P D vwCl [(s0, .inr (6, [.ref v0, .ref s1])), (s1, .inl (cI, 15, .inl (upd (F_X6_copyFrom_2 cel row j2_) j2_ (cel j2_)))), (k0, .inl (cI, 15, .inl cel))] H := hP
      have hD : va_D (va_A (wSc cI cC cG s0 s1 k0 v0 row cel) sz) [(s0, .inr (6, [.ref v0, .ref s1])), (s1, .inl (cI, 15, .inl (upd (F_X6_copyFrom_2 cel row j2_) j2_ (cel j2_)))), (k0, .inl (cI, 15, .inl cel))] := hD
      refine lv_iinc (v := (nI (j2_ + 1))) (lv' := [(2, .int (nI (j2_ + 1))), (0, .ref s0), (1, .ref k0)]) hx hb dX6_copyFrom_23 hl (k := 2) rfl (nI_1 _) (by decide) rfl (fun ls hl => ?_)
      refine lv_goto (tgt := 2) hx hb dX6_copyFrom_26 (by decide) ?_
      have e_5 : (F_X6_copyFrom_2 cel row (j2_ + 1)) = (upd (F_X6_copyFrom_2 cel row j2_) j2_ (cel j2_)) := by simp only [F_X6_copyFrom_2]
      exact ih2_ (j2_ + 1) (by omega) _ _ (by rw [e_5]; exact hP) (by rw [e_5]; exact hD) hS _ (lv_sub hl [1, 2, 0] rfl)
  exact loop2_ 15 0 (by omega) _ _ hP hD hS _ (lv_sub hl [1, 2, 0] rfl)
def g_X6_copy_row (row : Nat → Int32) (orow : Nat → Int32) : Nat → Int32 := (g_X6_copyInto_cel orow row)
abbrev rm_X6_copy : Room := { frames := 1, cells := 0, slots := 0, locals := 22 }
set_option maxRecDepth 100000 in
set_option maxHeartbeats 4000000 in
theorem c_X6_copy (l : Launch) (D : va_G) (cI cC cG : ClassId) (s0 : Nat) (s1 : Nat) (o0 : Nat) (o1 : Nat) (v0 : Nat) (row : Nat → Int32) (orow : Nat → Int32) (sz : Nat) : RwV l yX6_copy wsX6_copy rm_X6_copy D (q_t cI cC cG) (wSs cI cC cG s0 s1 o0 o1 v0 row orow) (wSs cI cC cG s0 s1 o0 o1 v0 (g_X6_copy_row row orow) orow) sz [.ref s0, .ref o0] := by
  refine rw_enter (cc := cX6_copy) (maxL := 2) (ret := none) (by decide) rfl (Nat.le_of_ble_eq_true rfl) ?_
  intro p e s m below meth c ls B hP hK hD hS hA hl
  obtain ⟨hx, hb, hr, hlocks, hml, hown, hts, hN⟩ := B
  have hown : s.vm.findClass RX6 = some m.cls := hown
  have hl : lv_has ls 2 [(0, .ref s0), (1, .ref o0)] := hl
  have hf11 := hts (.fieldLink RX6 11 "OlderByABlush$Standing" "row" "[I") (by decide +kernel)
  have hinX6 : ∀ w ∈ u_ws RX6 TX6 2, w ∈ wsX6_copy := by decide +kernel
  refine lv_aload_n hx hb dX6_copy_0 rfl (lv_at hl 1 rfl) ?_
  refine lv_aload_n hx hb dX6_copy_1 rfl (lv_at hl 0 rfl) ?_
  refine va_get (D := D) (ci := 6) (v := .ref s1) (C := RX6) (T := TX6) (N := 2) hx hb hts hinX6 hown hK hP 0 rfl rfl 1 (by decide) hf11 (fun _ h9 => h9) rfl dX6_copy_2 ?_
  refine rw_v (wr := [(s0, .inr (6, [.ref v0, .ref s1]))]) (ws2 := [(s0, .inr (6, [.ref v0, .ref s1])), (s1, .inl (cI, 15, .inl (g_X6_copyInto_cel orow row))), (o0, .inr (6, [.ref v0, .ref o1])), (o1, .inl (cI, 15, .inl orow))]) (va_runV (As := [.ref s1]) (rest := []) ⟨hx, hb, hml, hown, hts⟩ (c_X6_copyInto l D cI cC cG o0 o1 s1 v0 orow row s.heap.size) (cwV 1 hts gX6_copy_X6_copyInto rfl rfl rfl (by decide +kernel) ⟨Nat.le_of_ble_eq_true rfl, Nat.le_of_ble_eq_true rfl⟩) (q_preWV hK hP hD hN [2, 3, 1] (by decide) rfl rfl (ci := 6) (q0 := 2) rfl rfl) rfl rfl hl.1 rfl (lv_room (Nat.le_of_ble_eq_true rfl)) dX6_copy_5 ⟨Nat.zero_le _, Nat.zero_le _⟩) hS hA hP hD [2, 3, 1] [0] rfl rfl (by decide) (by decide) [0, 3, 1, 2] (by decide) rfl rfl (fun H locs hP hD hS => ?_)
  have e_1 : (g_X6_copy_row row orow) = (g_X6_copyInto_cel orow row) := by simp only [g_X6_copy_row]
  exact rw_vret hx hb hr hlocks hP hD hS (by rw [e_1]) dX6_copy_8
def F_X6_begin_2 (vP : Int32) (vAg : Nat → Int32) (i0_ : Nat → Int32) : Nat → (Nat → Int32)
  | 0 => i0_
  | j2_ + 1 => (upd (F_X6_begin_2 vP vAg i0_ j2_) j2_ (f_X7_firstAgeOf vP vAg (nI j2_)))
def F_X6_begin_30 (vP : Int32) (vS : Int32) (vFk : Nat → Int32) (i0_ : Nat → Int32) : Nat → (Nat → Int32)
  | 0 => i0_
  | j30_ + 1 => (upd (F_X6_begin_30 vP vS vFk i0_ j30_) (6 + j30_) (f_X7_firstKnowersOf vP vS vFk (nI j30_)))
def g_X6_begin_row (row : Nat → Int32) (vP : Int32) (vS : Int32) (vAg : Nat → Int32) (vFk : Nat → Int32) : Nat → Int32 := (upd (F_X6_begin_30 vP vS vFk (F_X6_begin_2 vP vAg row 6) 8) 14 0)
abbrev rm_X6_begin : Room := { frames := 2, cells := 0, slots := 0, locals := 42 }
set_option maxRecDepth 100000 in
set_option maxHeartbeats 4000000 in
theorem c_X6_begin (l : Launch) (D : va_G) (cI cC cG : ClassId) (s0 : Nat) (s1 : Nat) (v0 : Nat) (v1 : Nat) (v2 : Nat) (v3 : Nat) (v4 : Nat) (v5 : Nat) (row : Nat → Int32) (vP : Int32) (vS : Int32) (vD : Int32) (vAg : Nat → Int32) (vKi : Nat → Int32) (vMe : Nat → Int32) (vOw : Nat → Int32) (vFk : Nat → Int32) (sz : Nat) : RwV l yX6_begin wsX6_begin rm_X6_begin D (q_t cI cC cG) (wS cI cC cG s0 s1 v0 v1 v2 v3 v4 v5 row vP vS vD vAg vKi vMe vOw vFk) (wS cI cC cG s0 s1 v0 v1 v2 v3 v4 v5 (g_X6_begin_row row vP vS vAg vFk) vP vS vD vAg vKi vMe vOw vFk) sz [.ref s0] := by
  refine rw_enter (cc := cX6_begin) (maxL := 2) (ret := none) (by decide) rfl (Nat.le_of_ble_eq_true rfl) ?_
  intro p e s m below meth c ls B hP hK hD hS hA hl
  obtain ⟨hx, hb, hr, hlocks, hml, hown, hts, hN⟩ := B
  have hown : s.vm.findClass RX6 = some m.cls := hown
  have hl : lv_has ls 2 [(0, .ref s0)] := hl
  have hf11 := hts (.fieldLink RX6 11 "OlderByABlush$Standing" "row" "[I") (by decide +kernel)
  have hinX6 : ∀ w ∈ u_ws RX6 TX6 2, w ∈ wsX6_begin := by decide +kernel
  have hf15 := hts (.fieldLink RX6 15 "OlderByABlush$Standing" "village" "LOlderByABlush$Village;") (by decide +kernel)
  refine lv_iconst (v := 0) hx hb dX6_begin_0 (by decide) ?_
  refine lv_istore_n (lv' := [(1, .int 0), (0, .ref s0)]) hx hb dX6_begin_1 rfl hl (by decide) rfl (fun ls hl => ?_)
  have K2_ : ∀ (H : Heap) (locs : List Loc), va_P D vwCl [(s0, .inr (6, [.ref v0, .ref s1])), (s1, .inl (cI, 15, .inl (F_X6_begin_2 vP vAg row 6))), (v0, .inr (7, [.ref v1, .ref v2, .ref v3, .ref v4, .ref v5, .int vP, .int vS, .int vD])), (v1, .inl (cI, 6, .inl vAg)), (v2, .inl (cI, 6, .inl vKi)), (v3, .inl (cI, 6, .inl vMe)), (v4, .inl (cI, 8, .inl vOw)), (v5, .inl (cI, 8, .inl vFk))] H → va_D (va_A (wS cI cC cG s0 s1 v0 v1 v2 v3 v4 v5 row vP vS vD vAg vKi vMe vOw vFk) sz) [(s0, .inr (6, [.ref v0, .ref s1])), (s1, .inl (cI, 15, .inl (F_X6_begin_2 vP vAg row 6))), (v0, .inr (7, [.ref v1, .ref v2, .ref v3, .ref v4, .ref v5, .int vP, .int vS, .int vD])), (v1, .inl (cI, 6, .inl vAg)), (v2, .inl (cI, 6, .inl vKi)), (v3, .inl (cI, 6, .inl vMe)), (v4, .inl (cI, 8, .inl vOw)), (v5, .inl (cI, 8, .inl vFk))] → va_S (va_A (wS cI cC cG s0 s1 v0 v1 v2 v3 v4 v5 row vP vS vD vAg vKi vMe vOw vFk) sz) s.heap H locs → ∀ ls : Array Slot, lv_has ls 2 [(0, .ref s0)] → W p l e rm_X6_begin s m ([.ref s0] : List Value).toArray below meth c H locs 0 0 (MQ below (q_QWv D (wS cI cC cG s0 s1 v0 v1 v2 v3 v4 v5 row vP vS vD vAg vKi vMe vOw vFk) (wS cI cC cG s0 s1 v0 v1 v2 v3 v4 v5 (g_X6_begin_row row vP vS vAg vFk) vP vS vD vAg vKi vMe vOw vFk) sz) ([.ref s0] : List Value).toArray s 0 0 (va_A (wS cI cC cG s0 s1 v0 v1 v2 v3 v4 v5 row vP vS vD vAg vKi vMe vOw vFk) sz)) (F0 m 28 ls []) := by
    intro H locs hP hD hS ls hl
    refine lv_iconst (v := 0) hx hb dX6_begin_28 (by decide) ?_
    refine lv_istore_n (lv' := [(1, .int 0), (0, .ref s0)]) hx hb dX6_begin_29 rfl hl (by decide) rfl (fun ls hl => ?_)
    have K30_ : ∀ (H : Heap) (locs : List Loc), va_P D vwCl [(s0, .inr (6, [.ref v0, .ref s1])), (s1, .inl (cI, 15, .inl (F_X6_begin_30 vP vS vFk (F_X6_begin_2 vP vAg row 6) 8))), (v0, .inr (7, [.ref v1, .ref v2, .ref v3, .ref v4, .ref v5, .int vP, .int vS, .int vD])), (v1, .inl (cI, 6, .inl vAg)), (v2, .inl (cI, 6, .inl vKi)), (v3, .inl (cI, 6, .inl vMe)), (v4, .inl (cI, 8, .inl vOw)), (v5, .inl (cI, 8, .inl vFk))] H → va_D (va_A (wS cI cC cG s0 s1 v0 v1 v2 v3 v4 v5 row vP vS vD vAg vKi vMe vOw vFk) sz) [(s0, .inr (6, [.ref v0, .ref s1])), (s1, .inl (cI, 15, .inl (F_X6_begin_30 vP vS vFk (F_X6_begin_2 vP vAg row 6) 8))), (v0, .inr (7, [.ref v1, .ref v2, .ref v3, .ref v4, .ref v5, .int vP, .int vS, .int vD])), (v1, .inl (cI, 6, .inl vAg)), (v2, .inl (cI, 6, .inl vKi)), (v3, .inl (cI, 6, .inl vMe)), (v4, .inl (cI, 8, .inl vOw)), (v5, .inl (cI, 8, .inl vFk))] → va_S (va_A (wS cI cC cG s0 s1 v0 v1 v2 v3 v4 v5 row vP vS vD vAg vKi vMe vOw vFk) sz) s.heap H locs → ∀ ls : Array Slot, lv_has ls 2 [(0, .ref s0)] → W p l e rm_X6_begin s m ([.ref s0] : List Value).toArray below meth c H locs 0 0 (MQ below (q_QWv D (wS cI cC cG s0 s1 v0 v1 v2 v3 v4 v5 row vP vS vD vAg vKi vMe vOw vFk) (wS cI cC cG s0 s1 v0 v1 v2 v3 v4 v5 (g_X6_begin_row row vP vS vAg vFk) vP vS vD vAg vKi vMe vOw vFk) sz) ([.ref s0] : List Value).toArray s 0 0 (va_A (wS cI cC cG s0 s1 v0 v1 v2 v3 v4 v5 row vP vS vD vAg vKi vMe vOw vFk) sz)) (F0 m 59 ls []) := by
      intro H locs hP hD hS ls hl
      refine lv_aload_n hx hb dX6_begin_59 rfl (lv_at hl 0 rfl) ?_
      refine va_get (D := D) (ci := 6) (v := .ref s1) (C := RX6) (T := TX6) (N := 2) hx hb hts hinX6 hown hK hP 0 rfl rfl 1 (by decide) hf11 (fun _ h9 => h9) rfl dX6_begin_60 ?_
      refine lv_bipush (v := 14) hx hb dX6_begin_63 (by decide) ?_
      refine lv_iconst (v := 0) hx hb dX6_begin_65 (by decide) ?_
      refine q_iast hx hb hK hP hD hS 1 0 rfl rfl (vp_in_nI (n := 14) (N := 15) (by decide) (by decide)) 14 (by decide) dX6_begin_66 (fun H locs hP hD hS => ?_)
      have hP : va_P D vwCl [(s0, .inr (6, [.ref v0, .ref s1])), (s1, .inl (cI, 15, .inl (upd (F_X6_begin_30 vP vS vFk (F_X6_begin_2 vP vAg row 6) 8) 14 0))), (v0, .inr (7, [.ref v1, .ref v2, .ref v3, .ref v4, .ref v5, .int vP, .int vS, .int vD])), (v1, .inl (cI, 6, .inl vAg)), (v2, .inl (cI, 6, .inl vKi)), (v3, .inl (cI, 6, .inl vMe)), (v4, .inl (cI, 8, .inl vOw)), (v5, .inl (cI, 8, .inl vFk))] H := hP
      have hD : va_D (va_A (wS cI cC cG s0 s1 v0 v1 v2 v3 v4 v5 row vP vS vD vAg vKi vMe vOw vFk) sz) [(s0, .inr (6, [.ref v0, .ref s1])), (s1, .inl (cI, 15, .inl (upd (F_X6_begin_30 vP vS vFk (F_X6_begin_2 vP vAg row 6) 8) 14 0))), (v0, .inr (7, [.ref v1, .ref v2, .ref v3, .ref v4, .ref v5, .int vP, .int vS, .int vD])), (v1, .inl (cI, 6, .inl vAg)), (v2, .inl (cI, 6, .inl vKi)), (v3, .inl (cI, 6, .inl vMe)), (v4, .inl (cI, 8, .inl vOw)), (v5, .inl (cI, 8, .inl vFk))] := hD
      have e_1 : (g_X6_begin_row row vP vS vAg vFk) = (upd (F_X6_begin_30 vP vS vFk (F_X6_begin_2 vP vAg row 6) 8) 14 0) := by simp only [g_X6_begin_row]
      exact rw_vret hx hb hr hlocks hP hD hS (by rw [e_1]) dX6_begin_67
    have loop30_ : ∀ (n30_ j30_ : Nat), j30_ + n30_ = 8 → ∀ (H : Heap) (locs : List Loc), va_P D vwCl [(s0, .inr (6, [.ref v0, .ref s1])), (s1, .inl (cI, 15, .inl (F_X6_begin_30 vP vS vFk (F_X6_begin_2 vP vAg row 6) j30_))), (v0, .inr (7, [.ref v1, .ref v2, .ref v3, .ref v4, .ref v5, .int vP, .int vS, .int vD])), (v1, .inl (cI, 6, .inl vAg)), (v2, .inl (cI, 6, .inl vKi)), (v3, .inl (cI, 6, .inl vMe)), (v4, .inl (cI, 8, .inl vOw)), (v5, .inl (cI, 8, .inl vFk))] H → va_D (va_A (wS cI cC cG s0 s1 v0 v1 v2 v3 v4 v5 row vP vS vD vAg vKi vMe vOw vFk) sz) [(s0, .inr (6, [.ref v0, .ref s1])), (s1, .inl (cI, 15, .inl (F_X6_begin_30 vP vS vFk (F_X6_begin_2 vP vAg row 6) j30_))), (v0, .inr (7, [.ref v1, .ref v2, .ref v3, .ref v4, .ref v5, .int vP, .int vS, .int vD])), (v1, .inl (cI, 6, .inl vAg)), (v2, .inl (cI, 6, .inl vKi)), (v3, .inl (cI, 6, .inl vMe)), (v4, .inl (cI, 8, .inl vOw)), (v5, .inl (cI, 8, .inl vFk))] → va_S (va_A (wS cI cC cG s0 s1 v0 v1 v2 v3 v4 v5 row vP vS vD vAg vKi vMe vOw vFk) sz) s.heap H locs → ∀ ls : Array Slot, lv_has ls 2 [(0, .ref s0), (1, .int (nI j30_))] → W p l e rm_X6_begin s m ([.ref s0] : List Value).toArray below meth c H locs 0 0 (MQ below (q_QWv D (wS cI cC cG s0 s1 v0 v1 v2 v3 v4 v5 row vP vS vD vAg vKi vMe vOw vFk) (wS cI cC cG s0 s1 v0 v1 v2 v3 v4 v5 (g_X6_begin_row row vP vS vAg vFk) vP vS vD vAg vKi vMe vOw vFk) sz) ([.ref s0] : List Value).toArray s 0 0 (va_A (wS cI cC cG s0 s1 v0 v1 v2 v3 v4 v5 row vP vS vD vAg vKi vMe vOw vFk) sz)) (F0 m 30 ls []) := by
      intro n30_
      induction n30_ with
      | zero =>
        intro j30_ hj30_ H locs hP hD hS ls hl
        obtain rfl : j30_ = 8 := by omega
        refine lv_iload_n hx hb dX6_begin_30 rfl (lv_at hl 1 rfl) ?_
        refine lv_bipush (v := 8) hx hb dX6_begin_31 (by decide) ?_
        refine lv_icmp_ge (tgt := 59) hx hb dX6_begin_33 (by decide) (fun c_2 => ?_) (fun c_2 => ?_)
        rotate_left
        · exact absurd (nI_le (Nat.le_refl 8) (by decide)) c_2
        exact K30_ _ _ hP hD hS _ (lv_sub hl [0] rfl)
      | succ n30_ ih30_ =>
        intro j30_ hj30_ H locs hP hD hS ls hl
        refine lv_iload_n hx hb dX6_begin_30 rfl (lv_at hl 1 rfl) ?_
        refine lv_bipush (v := 8) hx hb dX6_begin_31 (by decide) ?_
        refine lv_icmp_ge (tgt := 59) hx hb dX6_begin_33 (by decide) (fun c_3 => ?_) (fun c_3 => ?_)
        · exact absurd c_3 (nI_ge (b := 8) (by omega) (by decide))
        refine lv_aload_n hx hb dX6_begin_36 rfl (lv_at hl 0 rfl) ?_
        refine va_get (D := D) (ci := 6) (v := .ref s1) (C := RX6) (T := TX6) (N := 2) hx hb hts hinX6 hown hK hP 0 rfl rfl 1 (by decide) hf11 (fun _ h9 => h9) rfl dX6_begin_37 ?_
        refine lv_bipush (v := 6) hx hb dX6_begin_40 (by decide) ?_
        refine lv_iload_n hx hb dX6_begin_42 rfl (lv_at hl 1 rfl) ?_
        refine lv_iadd hx hb dX6_begin_43 ?_
        refine lv_aload_n hx hb dX6_begin_44 rfl (lv_at hl 0 rfl) ?_
        refine va_get (D := D) (ci := 6) (v := .ref v0) (C := RX6) (T := TX6) (N := 2) hx hb hts hinX6 hown hK hP 0 rfl rfl 0 (by decide) hf15 (fun _ h9 => h9) rfl dX6_begin_45 ?_
        refine lv_iload_n hx hb dX6_begin_48 rfl (lv_at hl 1 rfl) ?_
        refine ro_i (va_runV (As := [.int (nI j30_)]) (rest := [.int (6 + (nI j30_)), .ref s1]) ⟨hx, hb, hml, hown, hts⟩ (c_X7_firstKnowersOf l D cI cC cG v0 v1 v2 v3 v4 v5 vP vS vD vAg vKi vMe vOw vFk (nI j30_)) (cwV 1 hts gX6_begin_X7_firstKnowersOf rfl rfl rfl (by decide +kernel) ⟨Nat.le_of_ble_eq_true rfl, Nat.le_of_ble_eq_true rfl⟩) (q_preV hK hP hN [2, 3, 4, 5, 6, 7] rfl (ci := 7) (q0 := 2) rfl rfl) rfl rfl hl.1 rfl (lv_room (Nat.le_of_ble_eq_true rfl)) dX6_begin_49 ⟨Nat.zero_le _, Nat.zero_le _⟩) hS hP (fun H locs hP hS => ?_)
        refine q_iast hx hb hK hP hD hS 1 0 rfl rfl (k_add 6 (by omega) (by decide)) (6 + j30_) (k_addc 6 (by omega)) dX6_begin_52 (fun H locs hP hD hS => ?_)
        have hP : va_P D vwCl [(s0, .inr (6, [.ref v0, .ref s1])), (s1, .inl (cI, 15, .inl (upd (F_X6_begin_30 vP vS vFk (F_X6_begin_2 vP vAg row 6) j30_) (6 + j30_) (f_X7_firstKnowersOf vP vS vFk (nI j30_))))), (v0, .inr (7, [.ref v1, .ref v2, .ref v3, .ref v4, .ref v5, .int vP, .int vS, .int vD])), (v1, .inl (cI, 6, .inl vAg)), (v2, .inl (cI, 6, .inl vKi)), (v3, .inl (cI, 6, .inl vMe)), (v4, .inl (cI, 8, .inl vOw)), (v5, .inl (cI, 8, .inl vFk))] H := hP
        have hD : va_D (va_A (wS cI cC cG s0 s1 v0 v1 v2 v3 v4 v5 row vP vS vD vAg vKi vMe vOw vFk) sz) [(s0, .inr (6, [.ref v0, .ref s1])), (s1, .inl (cI, 15, .inl (upd (F_X6_begin_30 vP vS vFk (F_X6_begin_2 vP vAg row 6) j30_) (6 + j30_) (f_X7_firstKnowersOf vP vS vFk (nI j30_))))), (v0, .inr (7, [.ref v1, .ref v2, .ref v3, .ref v4, .ref v5, .int vP, .int vS, .int vD])), (v1, .inl (cI, 6, .inl vAg)), (v2, .inl (cI, 6, .inl vKi)), (v3, .inl (cI, 6, .inl vMe)), (v4, .inl (cI, 8, .inl vOw)), (v5, .inl (cI, 8, .inl vFk))] := hD
        refine lv_iinc (v := (nI (j30_ + 1))) (lv' := [(1, .int (nI (j30_ + 1))), (0, .ref s0)]) hx hb dX6_begin_53 hl (k := 1) rfl (nI_1 _) (by decide) rfl (fun ls hl => ?_)
        refine lv_goto (tgt := 30) hx hb dX6_begin_56 (by decide) ?_
        have e_4 : (F_X6_begin_30 vP vS vFk (F_X6_begin_2 vP vAg row 6) (j30_ + 1)) = (upd (F_X6_begin_30 vP vS vFk (F_X6_begin_2 vP vAg row 6) j30_) (6 + j30_) (f_X7_firstKnowersOf vP vS vFk (nI j30_))) := by simp only [F_X6_begin_30]
        exact ih30_ (j30_ + 1) (by omega) _ _ (by rw [e_4]; exact hP) (by rw [e_4]; exact hD) hS _ (lv_sub hl [1, 0] rfl)
    exact loop30_ 8 0 (by omega) _ _ hP hD hS _ (lv_sub hl [1, 0] rfl)
  have loop2_ : ∀ (n2_ j2_ : Nat), j2_ + n2_ = 6 → ∀ (H : Heap) (locs : List Loc), va_P D vwCl [(s0, .inr (6, [.ref v0, .ref s1])), (s1, .inl (cI, 15, .inl (F_X6_begin_2 vP vAg row j2_))), (v0, .inr (7, [.ref v1, .ref v2, .ref v3, .ref v4, .ref v5, .int vP, .int vS, .int vD])), (v1, .inl (cI, 6, .inl vAg)), (v2, .inl (cI, 6, .inl vKi)), (v3, .inl (cI, 6, .inl vMe)), (v4, .inl (cI, 8, .inl vOw)), (v5, .inl (cI, 8, .inl vFk))] H → va_D (va_A (wS cI cC cG s0 s1 v0 v1 v2 v3 v4 v5 row vP vS vD vAg vKi vMe vOw vFk) sz) [(s0, .inr (6, [.ref v0, .ref s1])), (s1, .inl (cI, 15, .inl (F_X6_begin_2 vP vAg row j2_))), (v0, .inr (7, [.ref v1, .ref v2, .ref v3, .ref v4, .ref v5, .int vP, .int vS, .int vD])), (v1, .inl (cI, 6, .inl vAg)), (v2, .inl (cI, 6, .inl vKi)), (v3, .inl (cI, 6, .inl vMe)), (v4, .inl (cI, 8, .inl vOw)), (v5, .inl (cI, 8, .inl vFk))] → va_S (va_A (wS cI cC cG s0 s1 v0 v1 v2 v3 v4 v5 row vP vS vD vAg vKi vMe vOw vFk) sz) s.heap H locs → ∀ ls : Array Slot, lv_has ls 2 [(0, .ref s0), (1, .int (nI j2_))] → W p l e rm_X6_begin s m ([.ref s0] : List Value).toArray below meth c H locs 0 0 (MQ below (q_QWv D (wS cI cC cG s0 s1 v0 v1 v2 v3 v4 v5 row vP vS vD vAg vKi vMe vOw vFk) (wS cI cC cG s0 s1 v0 v1 v2 v3 v4 v5 (g_X6_begin_row row vP vS vAg vFk) vP vS vD vAg vKi vMe vOw vFk) sz) ([.ref s0] : List Value).toArray s 0 0 (va_A (wS cI cC cG s0 s1 v0 v1 v2 v3 v4 v5 row vP vS vD vAg vKi vMe vOw vFk) sz)) (F0 m 2 ls []) := by
    intro n2_
    induction n2_ with
    | zero =>
      intro j2_ hj2_ H locs hP hD hS ls hl
      obtain rfl : j2_ = 6 := by omega
      refine lv_iload_n hx hb dX6_begin_2 rfl (lv_at hl 1 rfl) ?_
      refine lv_bipush (v := 6) hx hb dX6_begin_3 (by decide) ?_
      refine lv_icmp_ge (tgt := 28) hx hb dX6_begin_5 (by decide) (fun c_5 => ?_) (fun c_5 => ?_)
      rotate_left
      · exact absurd (nI_le (Nat.le_refl 6) (by decide)) c_5
      exact K2_ _ _ hP hD hS _ (lv_sub hl [0] rfl)
    | succ n2_ ih2_ =>
      intro j2_ hj2_ H locs hP hD hS ls hl
      refine lv_iload_n hx hb dX6_begin_2 rfl (lv_at hl 1 rfl) ?_
      refine lv_bipush (v := 6) hx hb dX6_begin_3 (by decide) ?_
      refine lv_icmp_ge (tgt := 28) hx hb dX6_begin_5 (by decide) (fun c_6 => ?_) (fun c_6 => ?_)
      · exact absurd c_6 (nI_ge (b := 6) (by omega) (by decide))
      refine lv_aload_n hx hb dX6_begin_8 rfl (lv_at hl 0 rfl) ?_
      refine va_get (D := D) (ci := 6) (v := .ref s1) (C := RX6) (T := TX6) (N := 2) hx hb hts hinX6 hown hK hP 0 rfl rfl 1 (by decide) hf11 (fun _ h9 => h9) rfl dX6_begin_9 ?_
      refine lv_iload_n hx hb dX6_begin_12 rfl (lv_at hl 1 rfl) ?_
      refine lv_aload_n hx hb dX6_begin_13 rfl (lv_at hl 0 rfl) ?_
      refine va_get (D := D) (ci := 6) (v := .ref v0) (C := RX6) (T := TX6) (N := 2) hx hb hts hinX6 hown hK hP 0 rfl rfl 0 (by decide) hf15 (fun _ h9 => h9) rfl dX6_begin_14 ?_
      refine lv_iload_n hx hb dX6_begin_17 rfl (lv_at hl 1 rfl) ?_
      refine ro_i (va_runV (As := [.int (nI j2_)]) (rest := [.int (nI j2_), .ref s1]) ⟨hx, hb, hml, hown, hts⟩ (c_X7_firstAgeOf l D cI cC cG v0 v1 v2 v3 v4 v5 vP vS vD vAg vKi vMe vOw vFk (nI j2_)) (cwV 1 hts gX6_begin_X7_firstAgeOf rfl rfl rfl (by decide +kernel) ⟨Nat.le_of_ble_eq_true rfl, Nat.le_of_ble_eq_true rfl⟩) (q_preV hK hP hN [2, 3, 4, 5, 6, 7] rfl (ci := 7) (q0 := 2) rfl rfl) rfl rfl hl.1 rfl (lv_room (Nat.le_of_ble_eq_true rfl)) dX6_begin_18 ⟨Nat.zero_le _, Nat.zero_le _⟩) hS hP (fun H locs hP hS => ?_)
      refine q_iast hx hb hK hP hD hS 1 0 rfl rfl (vp_in_nI (by omega) (by decide)) j2_ (nI_clamp (by omega)) dX6_begin_21 (fun H locs hP hD hS => ?_)
      have hP : va_P D vwCl [(s0, .inr (6, [.ref v0, .ref s1])), (s1, .inl (cI, 15, .inl (upd (F_X6_begin_2 vP vAg row j2_) j2_ (f_X7_firstAgeOf vP vAg (nI j2_))))), (v0, .inr (7, [.ref v1, .ref v2, .ref v3, .ref v4, .ref v5, .int vP, .int vS, .int vD])), (v1, .inl (cI, 6, .inl vAg)), (v2, .inl (cI, 6, .inl vKi)), (v3, .inl (cI, 6, .inl vMe)), (v4, .inl (cI, 8, .inl vOw)), (v5, .inl (cI, 8, .inl vFk))] H := hP
      have hD : va_D (va_A (wS cI cC cG s0 s1 v0 v1 v2 v3 v4 v5 row vP vS vD vAg vKi vMe vOw vFk) sz) [(s0, .inr (6, [.ref v0, .ref s1])), (s1, .inl (cI, 15, .inl (upd (F_X6_begin_2 vP vAg row j2_) j2_ (f_X7_firstAgeOf vP vAg (nI j2_))))), (v0, .inr (7, [.ref v1, .ref v2, .ref v3, .ref v4, .ref v5, .int vP, .int vS, .int vD])), (v1, .inl (cI, 6, .inl vAg)), (v2, .inl (cI, 6, .inl vKi)), (v3, .inl (cI, 6, .inl vMe)), (v4, .inl (cI, 8, .inl vOw)), (v5, .inl (cI, 8, .inl vFk))] := hD
      refine lv_iinc (v := (nI (j2_ + 1))) (lv' := [(1, .int (nI (j2_ + 1))), (0, .ref s0)]) hx hb dX6_begin_22 hl (k := 1) rfl (nI_1 _) (by decide) rfl (fun ls hl => ?_)
      refine lv_goto (tgt := 2) hx hb dX6_begin_25 (by decide) ?_
      have e_7 : (F_X6_begin_2 vP vAg row (j2_ + 1)) = (upd (F_X6_begin_2 vP vAg row j2_) j2_ (f_X7_firstAgeOf vP vAg (nI j2_))) := by simp only [F_X6_begin_2]
      exact ih2_ (j2_ + 1) (by omega) _ _ (by rw [e_7]; exact hP) (by rw [e_7]; exact hD) hS _ (lv_sub hl [1, 0] rfl)
  exact loop2_ 6 0 (by omega) _ _ hP hD hS _ (lv_sub hl [1, 0] rfl)
def g_X6_growOlder_row (row : Nat → Int32) (vP : Int32) (vD : Int32) (p0 : Int32) (p1 : Int32) : Nat → Int32 := (if (f_X6_isAlive row vP vD p0) = 0 then row else (upd row (Int32.toNatClampNeg p0) ((row (Int32.toNatClampNeg p0)) + p1)))
abbrev rm_X6_growOlder : Room := { frames := 2, cells := 0, slots := 0, locals := 42 }
set_option maxRecDepth 100000 in
set_option maxHeartbeats 4000000 in
theorem c_X6_growOlder (l : Launch) (D : va_G) (cI cC cG : ClassId) (s0 : Nat) (s1 : Nat) (v0 : Nat) (v1 : Nat) (v2 : Nat) (v3 : Nat) (v4 : Nat) (v5 : Nat) (row : Nat → Int32) (vP : Int32) (vS : Int32) (vD : Int32) (vAg : Nat → Int32) (vKi : Nat → Int32) (vMe : Nat → Int32) (vOw : Nat → Int32) (vFk : Nat → Int32) (p0 : Int32) (p1 : Int32) (sz : Nat) : RwV l yX6_growOlder wsX6_growOlder rm_X6_growOlder D (q_t cI cC cG) (wS cI cC cG s0 s1 v0 v1 v2 v3 v4 v5 row vP vS vD vAg vKi vMe vOw vFk) (wS cI cC cG s0 s1 v0 v1 v2 v3 v4 v5 (g_X6_growOlder_row row vP vD p0 p1) vP vS vD vAg vKi vMe vOw vFk) sz [.ref s0, .int p0, .int p1] := by
  refine rw_enter (cc := cX6_growOlder) (maxL := 3) (ret := none) (by decide) rfl (Nat.le_of_ble_eq_true rfl) ?_
  intro p e s m below meth c ls B hP hK hD hS hA hl
  obtain ⟨hx, hb, hr, hlocks, hml, hown, hts, hN⟩ := B
  have hown : s.vm.findClass RX6 = some m.cls := hown
  have hl : lv_has ls 3 [(0, .ref s0), (1, .int p0), (2, .int p1)] := hl
  have hf11 := hts (.fieldLink RX6 11 "OlderByABlush$Standing" "row" "[I") (by decide +kernel)
  have hinX6 : ∀ w ∈ u_ws RX6 TX6 2, w ∈ wsX6_growOlder := by decide +kernel
  refine lv_aload_n hx hb dX6_growOlder_0 rfl (lv_at hl 0 rfl) ?_
  refine lv_iload_n hx hb dX6_growOlder_1 rfl (lv_at hl 1 rfl) ?_
  refine ro_i (va_runV (As := [.int p0]) (rest := []) ⟨hx, hb, hml, hown, hts⟩ (c_X6_isAlive l D cI cC cG s0 s1 v0 v1 v2 v3 v4 v5 row vP vS vD vAg vKi vMe vOw vFk p0) (cwV 1 hts gX6_growOlder_X6_isAlive rfl rfl rfl (by decide +kernel) ⟨Nat.le_of_ble_eq_true rfl, Nat.le_of_ble_eq_true rfl⟩) (q_preV hK hP hN [0, 1, 2, 3, 4, 5, 6, 7] rfl (ci := 6) (q0 := 0) rfl rfl) rfl rfl hl.1 rfl (lv_room (Nat.le_of_ble_eq_true rfl)) dX6_growOlder_2 ⟨Nat.zero_le _, Nat.zero_le _⟩) hS hP (fun H locs hP hS => ?_)
  refine lv_if_eq (tgt := 18) hx hb dX6_growOlder_5 (by decide) (fun c_1 => ?_) (fun c_1 => ?_)
  · have e_2 : (g_X6_growOlder_row row vP vD p0 p1) = row := by simp only [g_X6_growOlder_row, if_pos c_1]
    exact rw_vret hx hb hr hlocks hP hD hS (by rw [e_2]) dX6_growOlder_18
  refine lv_aload_n hx hb dX6_growOlder_8 rfl (lv_at hl 0 rfl) ?_
  refine va_get (D := D) (ci := 6) (v := .ref s1) (C := RX6) (T := TX6) (N := 2) hx hb hts hinX6 hown hK hP 0 rfl rfl 1 (by decide) hf11 (fun _ h9 => h9) rfl dX6_growOlder_9 ?_
  refine lv_iload_n hx hb dX6_growOlder_12 rfl (lv_at hl 1 rfl) ?_
  refine lv_dup2_11 hx hb dX6_growOlder_13 rfl rfl ?_
  refine q_iald hx hb hK hP 1 0 rfl rfl (vp_mono (in_alive c_1) (by decide)) (Int32.toNatClampNeg p0) rfl dX6_growOlder_14 ?_
  refine lv_iload_n hx hb dX6_growOlder_15 rfl (lv_at hl 2 rfl) ?_
  refine lv_iadd hx hb dX6_growOlder_16 ?_
  refine q_iast hx hb hK hP hD hS 1 0 rfl rfl (vp_mono (in_alive c_1) (by decide)) (Int32.toNatClampNeg p0) rfl dX6_growOlder_17 (fun H locs hP hD hS => ?_)
  have hP : va_P D vwCl [(s0, .inr (6, [.ref v0, .ref s1])), (s1, .inl (cI, 15, .inl (upd row (Int32.toNatClampNeg p0) ((row (Int32.toNatClampNeg p0)) + p1)))), (v0, .inr (7, [.ref v1, .ref v2, .ref v3, .ref v4, .ref v5, .int vP, .int vS, .int vD])), (v1, .inl (cI, 6, .inl vAg)), (v2, .inl (cI, 6, .inl vKi)), (v3, .inl (cI, 6, .inl vMe)), (v4, .inl (cI, 8, .inl vOw)), (v5, .inl (cI, 8, .inl vFk))] H := hP
  have hD : va_D (va_A (wS cI cC cG s0 s1 v0 v1 v2 v3 v4 v5 row vP vS vD vAg vKi vMe vOw vFk) sz) [(s0, .inr (6, [.ref v0, .ref s1])), (s1, .inl (cI, 15, .inl (upd row (Int32.toNatClampNeg p0) ((row (Int32.toNatClampNeg p0)) + p1)))), (v0, .inr (7, [.ref v1, .ref v2, .ref v3, .ref v4, .ref v5, .int vP, .int vS, .int vD])), (v1, .inl (cI, 6, .inl vAg)), (v2, .inl (cI, 6, .inl vKi)), (v3, .inl (cI, 6, .inl vMe)), (v4, .inl (cI, 8, .inl vOw)), (v5, .inl (cI, 8, .inl vFk))] := hD
  have e_3 : (g_X6_growOlder_row row vP vD p0 p1) = (upd row (Int32.toNatClampNeg p0) ((row (Int32.toNatClampNeg p0)) + p1)) := by simp only [g_X6_growOlder_row, if_neg c_1]
  exact rw_vret hx hb hr hlocks hP hD hS (by rw [e_3]) dX6_growOlder_18
def F_X6_speak_105 (x5 : Int32) (vP : Int32) (vD : Int32) (vKi : Nat → Int32) (i0_ : Nat → Int32) : Nat → (Nat → Int32)
  | 0 => i0_
  | j105_ + 1 => (if (f_X8_has x5 (nI j105_)) = 0 then (F_X6_speak_105 x5 vP vD vKi i0_ j105_) else (if (f_X7_kindOf vP vKi (nI j105_)) = 4 then (g_X6_growOlder_row (F_X6_speak_105 x5 vP vD vKi i0_ j105_) vP vD (nI j105_) 1) else (F_X6_speak_105 x5 vP vD vKi i0_ j105_)))
def f_X6_speak (row : Nat → Int32) (vP : Int32) (vS : Int32) (vD : Int32) (p1 : Int32) (p2 : Int32) : Int32 := (if (f_X7_hasSecret vS p1) = 0 then 0 else (f_J6_bitCount_0f7a4 ((p2 &&& (f_X6_living row vP vD)) &&& ((f_X6_knowersOf row vS p1) ^^^ (-1)))))
def g_X6_speak_row (row : Nat → Int32) (vP : Int32) (vS : Int32) (vD : Int32) (vKi : Nat → Int32) (vOw : Nat → Int32) (p0 : Int32) (p1 : Int32) (p2 : Int32) : Nat → Int32 := (if (f_X7_hasSecret vS p1) = 0 then row else (if p0 = (f_X7_ownerOf vS vOw p1) then (F_X6_speak_105 ((p2 &&& (f_X6_living row vP vD)) &&& ((f_X6_knowersOf row vS p1) ^^^ (-1))) vP vD vKi (g_X6_growOlder_row (upd row (Int32.toNatClampNeg (6 + p1)) ((row (Int32.toNatClampNeg (6 + p1))) ||| ((p2 &&& (f_X6_living row vP vD)) &&& ((f_X6_knowersOf row vS p1) ^^^ (-1))))) vP vD (f_X7_ownerOf vS vOw p1) ((f_X8_careForMany (f_X7_kindOf vP vKi (f_X7_ownerOf vS vOw p1)) (f_X6_othersKnowing row vS vOw p1) (f_J6_bitCount_0f7a4 ((p2 &&& (f_X6_living row vP vD)) &&& ((f_X6_knowersOf row vS p1) ^^^ (-1))))) / 2)) 6) else (F_X6_speak_105 ((p2 &&& (f_X6_living row vP vD)) &&& ((f_X6_knowersOf row vS p1) ^^^ (-1))) vP vD vKi (g_X6_growOlder_row (upd row (Int32.toNatClampNeg (6 + p1)) ((row (Int32.toNatClampNeg (6 + p1))) ||| ((p2 &&& (f_X6_living row vP vD)) &&& ((f_X6_knowersOf row vS p1) ^^^ (-1))))) vP vD (f_X7_ownerOf vS vOw p1) (f_X8_careForMany (f_X7_kindOf vP vKi (f_X7_ownerOf vS vOw p1)) (f_X6_othersKnowing row vS vOw p1) (f_J6_bitCount_0f7a4 ((p2 &&& (f_X6_living row vP vD)) &&& ((f_X6_knowersOf row vS p1) ^^^ (-1)))))) 6)))
abbrev rm_X6_speak : Room := { frames := 3, cells := 0, slots := 0, locals := 64 }
set_option maxRecDepth 100000 in
set_option maxHeartbeats 4000000 in
theorem c_X6_speak (l : Launch) (D : va_G) (cI cC cG : ClassId) (s0 : Nat) (s1 : Nat) (v0 : Nat) (v1 : Nat) (v2 : Nat) (v3 : Nat) (v4 : Nat) (v5 : Nat) (row : Nat → Int32) (vP : Int32) (vS : Int32) (vD : Int32) (vAg : Nat → Int32) (vKi : Nat → Int32) (vMe : Nat → Int32) (vOw : Nat → Int32) (vFk : Nat → Int32) (p0 : Int32) (p1 : Int32) (p2 : Int32) (sz : Nat) : RwI l yX6_speak wsX6_speak rm_X6_speak D (q_t cI cC cG) (wS cI cC cG s0 s1 v0 v1 v2 v3 v4 v5 row vP vS vD vAg vKi vMe vOw vFk) (wS cI cC cG s0 s1 v0 v1 v2 v3 v4 v5 (g_X6_speak_row row vP vS vD vKi vOw p0 p1 p2) vP vS vD vAg vKi vMe vOw vFk) sz [.ref s0, .int p0, .int p1, .int p2] (f_X6_speak row vP vS vD p1 p2) := by
  refine rw_enter (cc := cX6_speak) (maxL := 9) (ret := (some .int)) (by decide) rfl (Nat.le_of_ble_eq_true rfl) ?_
  intro p e s m below meth c ls B hP hK hD hS hA hl
  obtain ⟨hx, hb, hr, hlocks, hml, hown, hts, hN⟩ := B
  have hown : s.vm.findClass RX6 = some m.cls := hown
  have hl : lv_has ls 9 [(0, .ref s0), (1, .int p0), (2, .int p1), (3, .int p2)] := hl
  have hf15 := hts (.fieldLink RX6 15 "OlderByABlush$Standing" "village" "LOlderByABlush$Village;") (by decide +kernel)
  have hinX6 : ∀ w ∈ u_ws RX6 TX6 2, w ∈ wsX6_speak := by decide +kernel
  have hstX8_careForMany := hts (.static yX8_careForMany) (by decide +kernel)
  have hiniX8 := hts (.initialized RX8) (by decide +kernel)
  have hf11 := hts (.fieldLink RX6 11 "OlderByABlush$Standing" "row" "[I") (by decide +kernel)
  have hstX8_has := hts (.static yX8_has) (by decide +kernel)
  refine lv_aload_n hx hb dX6_speak_0 rfl (lv_at hl 0 rfl) ?_
  refine va_get (D := D) (ci := 6) (v := .ref v0) (C := RX6) (T := TX6) (N := 2) hx hb hts hinX6 hown hK hP 0 rfl rfl 0 (by decide) hf15 (fun _ h9 => h9) rfl dX6_speak_1 ?_
  refine lv_iload_n hx hb dX6_speak_4 rfl (lv_at hl 2 rfl) ?_
  refine ro_i (va_runV (As := [.int p1]) (rest := []) ⟨hx, hb, hml, hown, hts⟩ (c_X7_hasSecret l D cI cC cG v0 v1 v2 v3 v4 v5 vP vS vD vAg vKi vMe vOw vFk p1) (cwV 1 hts gX6_speak_X7_hasSecret rfl rfl rfl (by decide +kernel) ⟨Nat.le_of_ble_eq_true rfl, Nat.le_of_ble_eq_true rfl⟩) (q_preV hK hP hN [2, 3, 4, 5, 6, 7] rfl (ci := 7) (q0 := 2) rfl rfl) rfl rfl hl.1 rfl (lv_room (Nat.le_of_ble_eq_true rfl)) dX6_speak_5 ⟨Nat.zero_le _, Nat.zero_le _⟩) hS hP (fun H locs hP hS => ?_)
  refine lv_if_ne (tgt := 13) hx hb dX6_speak_8 (by decide) (fun c_1 => ?_) (fun c_1 => ?_)
  · refine lv_aload_n hx hb dX6_speak_13 rfl (lv_at hl 0 rfl) ?_
    refine va_get (D := D) (ci := 6) (v := .ref v0) (C := RX6) (T := TX6) (N := 2) hx hb hts hinX6 hown hK hP 0 rfl rfl 0 (by decide) hf15 (fun _ h9 => h9) rfl dX6_speak_14 ?_
    refine lv_iload_n hx hb dX6_speak_17 rfl (lv_at hl 2 rfl) ?_
    refine ro_i (va_runV (As := [.int p1]) (rest := []) ⟨hx, hb, hml, hown, hts⟩ (c_X7_ownerOf l D cI cC cG v0 v1 v2 v3 v4 v5 vP vS vD vAg vKi vMe vOw vFk p1) (cwV 1 hts gX6_speak_X7_ownerOf rfl rfl rfl (by decide +kernel) ⟨Nat.le_of_ble_eq_true rfl, Nat.le_of_ble_eq_true rfl⟩) (q_preV hK hP hN [2, 3, 4, 5, 6, 7] rfl (ci := 7) (q0 := 2) rfl rfl) rfl rfl hl.1 rfl (lv_room (Nat.le_of_ble_eq_true rfl)) dX6_speak_18 ⟨Nat.zero_le _, Nat.zero_le _⟩) hS hP (fun H locs hP hS => ?_)
    refine lv_istore (lv' := [(4, .int (f_X7_ownerOf vS vOw p1)), (0, .ref s0), (1, .int p0), (2, .int p1), (3, .int p2)]) hx hb dX6_speak_21 hl (by decide) rfl (fun ls hl => ?_)
    refine lv_iload_n hx hb dX6_speak_23 rfl (lv_at hl 4 rfl) ?_
    refine lv_aload_n hx hb dX6_speak_24 rfl (lv_at hl 1 rfl) ?_
    refine ro_i (va_runV (As := []) (rest := [.int p2]) ⟨hx, hb, hml, hown, hts⟩ (c_X6_living l D cI cC cG s0 s1 v0 v1 v2 v3 v4 v5 row vP vS vD vAg vKi vMe vOw vFk) (cwV 0 hts gX6_speak_X6_living rfl rfl rfl (by decide +kernel) ⟨Nat.le_of_ble_eq_true rfl, Nat.le_of_ble_eq_true rfl⟩) (q_preV hK hP hN [0, 1, 2, 3, 4, 5, 6, 7] rfl (ci := 6) (q0 := 0) rfl rfl) rfl rfl hl.1 rfl (lv_room (Nat.le_of_ble_eq_true rfl)) dX6_speak_25 ⟨Nat.zero_le _, Nat.zero_le _⟩) hS hP (fun H locs hP hS => ?_)
    refine lv_iand hx hb dX6_speak_28 ?_
    refine lv_aload_n hx hb dX6_speak_29 rfl (lv_at hl 1 rfl) ?_
    refine lv_iload_n hx hb dX6_speak_30 rfl (lv_at hl 3 rfl) ?_
    refine ro_i (va_runV (As := [.int p1]) (rest := [.int (p2 &&& (f_X6_living row vP vD))]) ⟨hx, hb, hml, hown, hts⟩ (c_X6_knowersOf l D cI cC cG s0 s1 v0 v1 v2 v3 v4 v5 row vP vS vD vAg vKi vMe vOw vFk p1) (cwV 1 hts gX6_speak_X6_knowersOf rfl rfl rfl (by decide +kernel) ⟨Nat.le_of_ble_eq_true rfl, Nat.le_of_ble_eq_true rfl⟩) (q_preV hK hP hN [0, 1, 2, 3, 4, 5, 6, 7] rfl (ci := 6) (q0 := 0) rfl rfl) rfl rfl hl.1 rfl (lv_room (Nat.le_of_ble_eq_true rfl)) dX6_speak_31 ⟨Nat.zero_le _, Nat.zero_le _⟩) hS hP (fun H locs hP hS => ?_)
    refine lv_iconst (v := (-1)) hx hb dX6_speak_34 (by decide) ?_
    refine lv_ixor hx hb dX6_speak_35 ?_
    refine lv_iand hx hb dX6_speak_36 ?_
    refine lv_istore (lv' := [(5, .int ((p2 &&& (f_X6_living row vP vD)) &&& ((f_X6_knowersOf row vS p1) ^^^ (-1)))), (4, .int (f_X7_ownerOf vS vOw p1)), (0, .ref s0), (1, .int p0), (2, .int p1), (3, .int p2)]) hx hb dX6_speak_37 hl (by decide) rfl (fun ls hl => ?_)
    refine lv_iload hx hb dX6_speak_39 (lv_at hl 0 rfl) ?_
    refine ro_i (va_runS (As := [.int ((p2 &&& (f_X6_living row vP vD)) &&& ((f_X6_knowersOf row vS p1) ^^^ (-1)))]) (rest := []) ⟨hx, hb, hml, hown, hts⟩ (c_J6_bitCount_0f7a4 l D cI cC cG ((p2 &&& (f_X6_living row vP vD)) &&& ((f_X6_knowersOf row vS p1) ^^^ (-1)))) (va_cwS 1 hts gX6_speak_J6_bitCount_0f7a4 rfl rfl rfl (by decide +kernel) ⟨Nat.le_of_ble_eq_true rfl, Nat.le_of_ble_eq_true rfl⟩) (q_preS hK hP hN [] rfl) rfl rfl hl.1 rfl (lv_room (Nat.le_of_ble_eq_true rfl)) dX6_speak_41 ⟨Nat.zero_le _, Nat.zero_le _⟩) hS hP (fun H locs hP hS => ?_)
    refine lv_istore (lv' := [(6, .int (f_J6_bitCount_0f7a4 ((p2 &&& (f_X6_living row vP vD)) &&& ((f_X6_knowersOf row vS p1) ^^^ (-1))))), (5, .int ((p2 &&& (f_X6_living row vP vD)) &&& ((f_X6_knowersOf row vS p1) ^^^ (-1)))), (4, .int (f_X7_ownerOf vS vOw p1)), (0, .ref s0), (1, .int p0), (2, .int p1), (3, .int p2)]) hx hb dX6_speak_44 hl (by decide) rfl (fun ls hl => ?_)
    refine lv_aload_n hx hb dX6_speak_46 rfl (lv_at hl 3 rfl) ?_
    refine va_get (D := D) (ci := 6) (v := .ref v0) (C := RX6) (T := TX6) (N := 2) hx hb hts hinX6 hown hK hP 0 rfl rfl 0 (by decide) hf15 (fun _ h9 => h9) rfl dX6_speak_47 ?_
    refine lv_iload hx hb dX6_speak_50 (lv_at hl 2 rfl) ?_
    refine ro_i (va_runV (As := [.int (f_X7_ownerOf vS vOw p1)]) (rest := []) ⟨hx, hb, hml, hown, hts⟩ (c_X7_kindOf l D cI cC cG v0 v1 v2 v3 v4 v5 vP vS vD vAg vKi vMe vOw vFk (f_X7_ownerOf vS vOw p1)) (cwV 1 hts gX6_speak_X7_kindOf rfl rfl rfl (by decide +kernel) ⟨Nat.le_of_ble_eq_true rfl, Nat.le_of_ble_eq_true rfl⟩) (q_preV hK hP hN [2, 3, 4, 5, 6, 7] rfl (ci := 7) (q0 := 2) rfl rfl) rfl rfl hl.1 rfl (lv_room (Nat.le_of_ble_eq_true rfl)) dX6_speak_52 ⟨Nat.zero_le _, Nat.zero_le _⟩) hS hP (fun H locs hP hS => ?_)
    refine lv_aload_n hx hb dX6_speak_55 rfl (lv_at hl 3 rfl) ?_
    refine lv_iload_n hx hb dX6_speak_56 rfl (lv_at hl 5 rfl) ?_
    refine ro_i (va_runV (As := [.int p1]) (rest := [.int (f_X7_kindOf vP vKi (f_X7_ownerOf vS vOw p1))]) ⟨hx, hb, hml, hown, hts⟩ (c_X6_othersKnowing l D cI cC cG s0 s1 v0 v1 v2 v3 v4 v5 row vP vS vD vAg vKi vMe vOw vFk p1) (cwV 1 hts gX6_speak_X6_othersKnowing rfl rfl rfl (by decide +kernel) ⟨Nat.le_of_ble_eq_true rfl, Nat.le_of_ble_eq_true rfl⟩) (q_preV hK hP hN [0, 1, 2, 3, 4, 5, 6, 7] rfl (ci := 6) (q0 := 0) rfl rfl) rfl rfl hl.1 rfl (lv_room (Nat.le_of_ble_eq_true rfl)) dX6_speak_57 ⟨Nat.zero_le _, Nat.zero_le _⟩) hS hP (fun H locs hP hS => ?_)
    refine lv_iload hx hb dX6_speak_60 (lv_at hl 0 rfl) ?_
    refine ro_i (va_runSN (As := [.int (f_X7_kindOf vP vKi (f_X7_ownerOf vS vOw p1)), .int (f_X6_othersKnowing row vS vOw p1), .int (f_J6_bitCount_0f7a4 ((p2 &&& (f_X6_living row vP vD)) &&& ((f_X6_knowersOf row vS p1) ^^^ (-1))))]) (rest := []) ⟨hx, hb, hml, hown, hts⟩ (c_X8_careForMany l D cI cC cG (f_X7_kindOf vP vKi (f_X7_ownerOf vS vOw p1)) (f_X6_othersKnowing row vS vOw p1) (f_J6_bitCount_0f7a4 ((p2 &&& (f_X6_living row vP vD)) &&& ((f_X6_knowersOf row vS p1) ^^^ (-1))))) ⟨va_cnB 3 hts gX6_speak_X8_careForMany_n79 rfl rfl rfl (hN.at 7 rfl) hiniX8 (by decide +kernel) ⟨Nat.le_of_ble_eq_true rfl, Nat.le_of_ble_eq_true rfl⟩, hstX8_careForMany, trivial⟩ (q_preS hK hP hN [] rfl) rfl rfl hl.1 rfl (lv_room (Nat.le_of_ble_eq_true rfl)) dX6_speak_62 ⟨Nat.zero_le _, Nat.zero_le _⟩) hS hP (fun H locs hP hS => ?_)
    refine lv_istore (lv' := [(7, .int (f_X8_careForMany (f_X7_kindOf vP vKi (f_X7_ownerOf vS vOw p1)) (f_X6_othersKnowing row vS vOw p1) (f_J6_bitCount_0f7a4 ((p2 &&& (f_X6_living row vP vD)) &&& ((f_X6_knowersOf row vS p1) ^^^ (-1)))))), (6, .int (f_J6_bitCount_0f7a4 ((p2 &&& (f_X6_living row vP vD)) &&& ((f_X6_knowersOf row vS p1) ^^^ (-1))))), (5, .int ((p2 &&& (f_X6_living row vP vD)) &&& ((f_X6_knowersOf row vS p1) ^^^ (-1)))), (4, .int (f_X7_ownerOf vS vOw p1)), (0, .ref s0), (1, .int p0), (2, .int p1), (3, .int p2)]) hx hb dX6_speak_65 hl (by decide) rfl (fun ls hl => ?_)
    refine lv_aload_n hx hb dX6_speak_67 rfl (lv_at hl 4 rfl) ?_
    refine va_get (D := D) (ci := 6) (v := .ref s1) (C := RX6) (T := TX6) (N := 2) hx hb hts hinX6 hown hK hP 0 rfl rfl 1 (by decide) hf11 (fun _ h9 => h9) rfl dX6_speak_68 ?_
    refine lv_bipush (v := 6) hx hb dX6_speak_71 (by decide) ?_
    refine lv_iload_n hx hb dX6_speak_73 rfl (lv_at hl 6 rfl) ?_
    refine lv_iadd hx hb dX6_speak_74 ?_
    refine lv_dup2_11 hx hb dX6_speak_75 rfl rfl ?_
    refine q_iald hx hb hK hP 1 0 rfl rfl (in_add 6 (in_secret c_1) (by decide) (by decide)) (Int32.toNatClampNeg (6 + p1)) rfl dX6_speak_76 ?_
    refine lv_iload hx hb dX6_speak_77 (lv_at hl 2 rfl) ?_
    refine lv_ior hx hb dX6_speak_79 ?_
    refine q_iast hx hb hK hP hD hS 1 0 rfl rfl (in_add 6 (in_secret c_1) (by decide) (by decide)) (Int32.toNatClampNeg (6 + p1)) rfl dX6_speak_80 (fun H locs hP hD hS => ?_)
    have hP : va_P D vwCl [(s0, .inr (6, [.ref v0, .ref s1])), (s1, .inl (cI, 15, .inl (upd row (Int32.toNatClampNeg (6 + p1)) ((row (Int32.toNatClampNeg (6 + p1))) ||| ((p2 &&& (f_X6_living row vP vD)) &&& ((f_X6_knowersOf row vS p1) ^^^ (-1))))))), (v0, .inr (7, [.ref v1, .ref v2, .ref v3, .ref v4, .ref v5, .int vP, .int vS, .int vD])), (v1, .inl (cI, 6, .inl vAg)), (v2, .inl (cI, 6, .inl vKi)), (v3, .inl (cI, 6, .inl vMe)), (v4, .inl (cI, 8, .inl vOw)), (v5, .inl (cI, 8, .inl vFk))] H := hP
    have hD : va_D (va_A (wS cI cC cG s0 s1 v0 v1 v2 v3 v4 v5 row vP vS vD vAg vKi vMe vOw vFk) sz) [(s0, .inr (6, [.ref v0, .ref s1])), (s1, .inl (cI, 15, .inl (upd row (Int32.toNatClampNeg (6 + p1)) ((row (Int32.toNatClampNeg (6 + p1))) ||| ((p2 &&& (f_X6_living row vP vD)) &&& ((f_X6_knowersOf row vS p1) ^^^ (-1))))))), (v0, .inr (7, [.ref v1, .ref v2, .ref v3, .ref v4, .ref v5, .int vP, .int vS, .int vD])), (v1, .inl (cI, 6, .inl vAg)), (v2, .inl (cI, 6, .inl vKi)), (v3, .inl (cI, 6, .inl vMe)), (v4, .inl (cI, 8, .inl vOw)), (v5, .inl (cI, 8, .inl vFk))] := hD
    refine lv_aload_n hx hb dX6_speak_81 rfl (lv_at hl 4 rfl) ?_
    refine lv_iload hx hb dX6_speak_82 (lv_at hl 3 rfl) ?_
    refine lv_iload_n hx hb dX6_speak_84 rfl (lv_at hl 5 rfl) ?_
    refine lv_iload hx hb dX6_speak_85 (lv_at hl 3 rfl) ?_
    refine lv_icmp_ne (tgt := 97) hx hb dX6_speak_87 (by decide) (fun c_2 => ?_) (fun c_2 => ?_)
    · refine lv_iload hx hb dX6_speak_97 (lv_at hl 0 rfl) ?_
      refine rw_v0 (va_runV (As := [.int (f_X7_ownerOf vS vOw p1), .int (f_X8_careForMany (f_X7_kindOf vP vKi (f_X7_ownerOf vS vOw p1)) (f_X6_othersKnowing row vS vOw p1) (f_J6_bitCount_0f7a4 ((p2 &&& (f_X6_living row vP vD)) &&& ((f_X6_knowersOf row vS p1) ^^^ (-1)))))]) (rest := []) ⟨hx, hb, hml, hown, hts⟩ (c_X6_growOlder l D cI cC cG s0 s1 v0 v1 v2 v3 v4 v5 (upd row (Int32.toNatClampNeg (6 + p1)) ((row (Int32.toNatClampNeg (6 + p1))) ||| ((p2 &&& (f_X6_living row vP vD)) &&& ((f_X6_knowersOf row vS p1) ^^^ (-1))))) vP vS vD vAg vKi vMe vOw vFk (f_X7_ownerOf vS vOw p1) (f_X8_careForMany (f_X7_kindOf vP vKi (f_X7_ownerOf vS vOw p1)) (f_X6_othersKnowing row vS vOw p1) (f_J6_bitCount_0f7a4 ((p2 &&& (f_X6_living row vP vD)) &&& ((f_X6_knowersOf row vS p1) ^^^ (-1))))) H.size) (cwV 2 hts gX6_speak_X6_growOlder rfl rfl rfl (by decide +kernel) ⟨Nat.le_of_ble_eq_true rfl, Nat.le_of_ble_eq_true rfl⟩) (q_preWV hK hP hD hN [0, 1, 2, 3, 4, 5, 6, 7] (by decide) rfl rfl (ci := 6) (q0 := 0) rfl rfl) rfl rfl hl.1 rfl (lv_room (Nat.le_of_ble_eq_true rfl)) dX6_speak_99 ⟨Nat.zero_le _, Nat.zero_le _⟩) hS hA hD (fun H locs hP hD hS => ?_)
      have hP : va_P D vwCl [(s0, .inr (6, [.ref v0, .ref s1])), (s1, .inl (cI, 15, .inl (g_X6_growOlder_row (upd row (Int32.toNatClampNeg (6 + p1)) ((row (Int32.toNatClampNeg (6 + p1))) ||| ((p2 &&& (f_X6_living row vP vD)) &&& ((f_X6_knowersOf row vS p1) ^^^ (-1))))) vP vD (f_X7_ownerOf vS vOw p1) (f_X8_careForMany (f_X7_kindOf vP vKi (f_X7_ownerOf vS vOw p1)) (f_X6_othersKnowing row vS vOw p1) (f_J6_bitCount_0f7a4 ((p2 &&& (f_X6_living row vP vD)) &&& ((f_X6_knowersOf row vS p1) ^^^ (-1)))))))), (v0, .inr (7, [.ref v1, .ref v2, .ref v3, .ref v4, .ref v5, .int vP, .int vS, .int vD])), (v1, .inl (cI, 6, .inl vAg)), (v2, .inl (cI, 6, .inl vKi)), (v3, .inl (cI, 6, .inl vMe)), (v4, .inl (cI, 8, .inl vOw)), (v5, .inl (cI, 8, .inl vFk))] H := hP
      have hD : va_D (va_A (wS cI cC cG s0 s1 v0 v1 v2 v3 v4 v5 row vP vS vD vAg vKi vMe vOw vFk) sz) [(s0, .inr (6, [.ref v0, .ref s1])), (s1, .inl (cI, 15, .inl (g_X6_growOlder_row (upd row (Int32.toNatClampNeg (6 + p1)) ((row (Int32.toNatClampNeg (6 + p1))) ||| ((p2 &&& (f_X6_living row vP vD)) &&& ((f_X6_knowersOf row vS p1) ^^^ (-1))))) vP vD (f_X7_ownerOf vS vOw p1) (f_X8_careForMany (f_X7_kindOf vP vKi (f_X7_ownerOf vS vOw p1)) (f_X6_othersKnowing row vS vOw p1) (f_J6_bitCount_0f7a4 ((p2 &&& (f_X6_living row vP vD)) &&& ((f_X6_knowersOf row vS p1) ^^^ (-1)))))))), (v0, .inr (7, [.ref v1, .ref v2, .ref v3, .ref v4, .ref v5, .int vP, .int vS, .int vD])), (v1, .inl (cI, 6, .inl vAg)), (v2, .inl (cI, 6, .inl vKi)), (v3, .inl (cI, 6, .inl vMe)), (v4, .inl (cI, 8, .inl vOw)), (v5, .inl (cI, 8, .inl vFk))] := hD
      refine lv_iconst (v := 0) hx hb dX6_speak_102 (by decide) ?_
      refine lv_istore (lv' := [(8, .int 0), (7, .int (f_X8_careForMany (f_X7_kindOf vP vKi (f_X7_ownerOf vS vOw p1)) (f_X6_othersKnowing row vS vOw p1) (f_J6_bitCount_0f7a4 ((p2 &&& (f_X6_living row vP vD)) &&& ((f_X6_knowersOf row vS p1) ^^^ (-1)))))), (6, .int (f_J6_bitCount_0f7a4 ((p2 &&& (f_X6_living row vP vD)) &&& ((f_X6_knowersOf row vS p1) ^^^ (-1))))), (5, .int ((p2 &&& (f_X6_living row vP vD)) &&& ((f_X6_knowersOf row vS p1) ^^^ (-1)))), (4, .int (f_X7_ownerOf vS vOw p1)), (0, .ref s0), (1, .int p0), (2, .int p1), (3, .int p2)]) hx hb dX6_speak_103 hl (by decide) rfl (fun ls hl => ?_)
      have K105_ : ∀ (H : Heap) (locs : List Loc), va_P D vwCl [(s0, .inr (6, [.ref v0, .ref s1])), (s1, .inl (cI, 15, .inl (F_X6_speak_105 ((p2 &&& (f_X6_living row vP vD)) &&& ((f_X6_knowersOf row vS p1) ^^^ (-1))) vP vD vKi (g_X6_growOlder_row (upd row (Int32.toNatClampNeg (6 + p1)) ((row (Int32.toNatClampNeg (6 + p1))) ||| ((p2 &&& (f_X6_living row vP vD)) &&& ((f_X6_knowersOf row vS p1) ^^^ (-1))))) vP vD (f_X7_ownerOf vS vOw p1) (f_X8_careForMany (f_X7_kindOf vP vKi (f_X7_ownerOf vS vOw p1)) (f_X6_othersKnowing row vS vOw p1) (f_J6_bitCount_0f7a4 ((p2 &&& (f_X6_living row vP vD)) &&& ((f_X6_knowersOf row vS p1) ^^^ (-1)))))) 6))), (v0, .inr (7, [.ref v1, .ref v2, .ref v3, .ref v4, .ref v5, .int vP, .int vS, .int vD])), (v1, .inl (cI, 6, .inl vAg)), (v2, .inl (cI, 6, .inl vKi)), (v3, .inl (cI, 6, .inl vMe)), (v4, .inl (cI, 8, .inl vOw)), (v5, .inl (cI, 8, .inl vFk))] H → va_D (va_A (wS cI cC cG s0 s1 v0 v1 v2 v3 v4 v5 row vP vS vD vAg vKi vMe vOw vFk) sz) [(s0, .inr (6, [.ref v0, .ref s1])), (s1, .inl (cI, 15, .inl (F_X6_speak_105 ((p2 &&& (f_X6_living row vP vD)) &&& ((f_X6_knowersOf row vS p1) ^^^ (-1))) vP vD vKi (g_X6_growOlder_row (upd row (Int32.toNatClampNeg (6 + p1)) ((row (Int32.toNatClampNeg (6 + p1))) ||| ((p2 &&& (f_X6_living row vP vD)) &&& ((f_X6_knowersOf row vS p1) ^^^ (-1))))) vP vD (f_X7_ownerOf vS vOw p1) (f_X8_careForMany (f_X7_kindOf vP vKi (f_X7_ownerOf vS vOw p1)) (f_X6_othersKnowing row vS vOw p1) (f_J6_bitCount_0f7a4 ((p2 &&& (f_X6_living row vP vD)) &&& ((f_X6_knowersOf row vS p1) ^^^ (-1)))))) 6))), (v0, .inr (7, [.ref v1, .ref v2, .ref v3, .ref v4, .ref v5, .int vP, .int vS, .int vD])), (v1, .inl (cI, 6, .inl vAg)), (v2, .inl (cI, 6, .inl vKi)), (v3, .inl (cI, 6, .inl vMe)), (v4, .inl (cI, 8, .inl vOw)), (v5, .inl (cI, 8, .inl vFk))] → va_S (va_A (wS cI cC cG s0 s1 v0 v1 v2 v3 v4 v5 row vP vS vD vAg vKi vMe vOw vFk) sz) s.heap H locs → ∀ ls : Array Slot, lv_has ls 9 [(6, .int (f_J6_bitCount_0f7a4 ((p2 &&& (f_X6_living row vP vD)) &&& ((f_X6_knowersOf row vS p1) ^^^ (-1)))))] → W p l e rm_X6_speak s m ([.ref s0, .int p0, .int p1, .int p2] : List Value).toArray below meth c H locs 0 0 (MQ below (q_QWi D (wS cI cC cG s0 s1 v0 v1 v2 v3 v4 v5 row vP vS vD vAg vKi vMe vOw vFk) (wS cI cC cG s0 s1 v0 v1 v2 v3 v4 v5 (g_X6_speak_row row vP vS vD vKi vOw p0 p1 p2) vP vS vD vAg vKi vMe vOw vFk) sz (f_X6_speak row vP vS vD p1 p2)) ([.ref s0, .int p0, .int p1, .int p2] : List Value).toArray s 0 0 (va_A (wS cI cC cG s0 s1 v0 v1 v2 v3 v4 v5 row vP vS vD vAg vKi vMe vOw vFk) sz)) (F0 m 148 ls []) := by
        intro H locs hP hD hS ls hl
        refine lv_iload hx hb dX6_speak_148 (lv_at hl 0 rfl) ?_
        have e_3 : (g_X6_speak_row row vP vS vD vKi vOw p0 p1 p2) = (F_X6_speak_105 ((p2 &&& (f_X6_living row vP vD)) &&& ((f_X6_knowersOf row vS p1) ^^^ (-1))) vP vD vKi (g_X6_growOlder_row (upd row (Int32.toNatClampNeg (6 + p1)) ((row (Int32.toNatClampNeg (6 + p1))) ||| ((p2 &&& (f_X6_living row vP vD)) &&& ((f_X6_knowersOf row vS p1) ^^^ (-1))))) vP vD (f_X7_ownerOf vS vOw p1) (f_X8_careForMany (f_X7_kindOf vP vKi (f_X7_ownerOf vS vOw p1)) (f_X6_othersKnowing row vS vOw p1) (f_J6_bitCount_0f7a4 ((p2 &&& (f_X6_living row vP vD)) &&& ((f_X6_knowersOf row vS p1) ^^^ (-1)))))) 6) := by simp only [g_X6_speak_row, if_neg c_1, if_neg c_2]
        exact rw_iret hx hb hr hlocks hP hD hS (by simp only [f_X6_speak, if_neg c_1, if_neg c_2]) (by rw [e_3]) dX6_speak_150
      have loop105_ : ∀ (n105_ j105_ : Nat), j105_ + n105_ = 6 → ∀ (H : Heap) (locs : List Loc), va_P D vwCl [(s0, .inr (6, [.ref v0, .ref s1])), (s1, .inl (cI, 15, .inl (F_X6_speak_105 ((p2 &&& (f_X6_living row vP vD)) &&& ((f_X6_knowersOf row vS p1) ^^^ (-1))) vP vD vKi (g_X6_growOlder_row (upd row (Int32.toNatClampNeg (6 + p1)) ((row (Int32.toNatClampNeg (6 + p1))) ||| ((p2 &&& (f_X6_living row vP vD)) &&& ((f_X6_knowersOf row vS p1) ^^^ (-1))))) vP vD (f_X7_ownerOf vS vOw p1) (f_X8_careForMany (f_X7_kindOf vP vKi (f_X7_ownerOf vS vOw p1)) (f_X6_othersKnowing row vS vOw p1) (f_J6_bitCount_0f7a4 ((p2 &&& (f_X6_living row vP vD)) &&& ((f_X6_knowersOf row vS p1) ^^^ (-1)))))) j105_))), (v0, .inr (7, [.ref v1, .ref v2, .ref v3, .ref v4, .ref v5, .int vP, .int vS, .int vD])), (v1, .inl (cI, 6, .inl vAg)), (v2, .inl (cI, 6, .inl vKi)), (v3, .inl (cI, 6, .inl vMe)), (v4, .inl (cI, 8, .inl vOw)), (v5, .inl (cI, 8, .inl vFk))] H → va_D (va_A (wS cI cC cG s0 s1 v0 v1 v2 v3 v4 v5 row vP vS vD vAg vKi vMe vOw vFk) sz) [(s0, .inr (6, [.ref v0, .ref s1])), (s1, .inl (cI, 15, .inl (F_X6_speak_105 ((p2 &&& (f_X6_living row vP vD)) &&& ((f_X6_knowersOf row vS p1) ^^^ (-1))) vP vD vKi (g_X6_growOlder_row (upd row (Int32.toNatClampNeg (6 + p1)) ((row (Int32.toNatClampNeg (6 + p1))) ||| ((p2 &&& (f_X6_living row vP vD)) &&& ((f_X6_knowersOf row vS p1) ^^^ (-1))))) vP vD (f_X7_ownerOf vS vOw p1) (f_X8_careForMany (f_X7_kindOf vP vKi (f_X7_ownerOf vS vOw p1)) (f_X6_othersKnowing row vS vOw p1) (f_J6_bitCount_0f7a4 ((p2 &&& (f_X6_living row vP vD)) &&& ((f_X6_knowersOf row vS p1) ^^^ (-1)))))) j105_))), (v0, .inr (7, [.ref v1, .ref v2, .ref v3, .ref v4, .ref v5, .int vP, .int vS, .int vD])), (v1, .inl (cI, 6, .inl vAg)), (v2, .inl (cI, 6, .inl vKi)), (v3, .inl (cI, 6, .inl vMe)), (v4, .inl (cI, 8, .inl vOw)), (v5, .inl (cI, 8, .inl vFk))] → va_S (va_A (wS cI cC cG s0 s1 v0 v1 v2 v3 v4 v5 row vP vS vD vAg vKi vMe vOw vFk) sz) s.heap H locs → ∀ ls : Array Slot, lv_has ls 9 [(0, .ref s0), (5, .int ((p2 &&& (f_X6_living row vP vD)) &&& ((f_X6_knowersOf row vS p1) ^^^ (-1)))), (6, .int (f_J6_bitCount_0f7a4 ((p2 &&& (f_X6_living row vP vD)) &&& ((f_X6_knowersOf row vS p1) ^^^ (-1))))), (8, .int (nI j105_))] → W p l e rm_X6_speak s m ([.ref s0, .int p0, .int p1, .int p2] : List Value).toArray below meth c H locs 0 0 (MQ below (q_QWi D (wS cI cC cG s0 s1 v0 v1 v2 v3 v4 v5 row vP vS vD vAg vKi vMe vOw vFk) (wS cI cC cG s0 s1 v0 v1 v2 v3 v4 v5 (g_X6_speak_row row vP vS vD vKi vOw p0 p1 p2) vP vS vD vAg vKi vMe vOw vFk) sz (f_X6_speak row vP vS vD p1 p2)) ([.ref s0, .int p0, .int p1, .int p2] : List Value).toArray s 0 0 (va_A (wS cI cC cG s0 s1 v0 v1 v2 v3 v4 v5 row vP vS vD vAg vKi vMe vOw vFk) sz)) (F0 m 105 ls []) := by
        intro n105_
        induction n105_ with
        | zero =>
          intro j105_ hj105_ H locs hP hD hS ls hl
          obtain rfl : j105_ = 6 := by omega
          refine lv_iload hx hb dX6_speak_105 (lv_at hl 3 rfl) ?_
          refine lv_bipush (v := 6) hx hb dX6_speak_107 (by decide) ?_
          refine lv_icmp_ge (tgt := 148) hx hb dX6_speak_109 (by decide) (fun c_4 => ?_) (fun c_4 => ?_)
          rotate_left
          · exact absurd (nI_le (Nat.le_refl 6) (by decide)) c_4
          exact K105_ _ _ hP hD hS _ (lv_sub hl [2] rfl)
        | succ n105_ ih105_ =>
          intro j105_ hj105_ H locs hP hD hS ls hl
          refine lv_iload hx hb dX6_speak_105 (lv_at hl 3 rfl) ?_
          refine lv_bipush (v := 6) hx hb dX6_speak_107 (by decide) ?_
          refine lv_icmp_ge (tgt := 148) hx hb dX6_speak_109 (by decide) (fun c_5 => ?_) (fun c_5 => ?_)
          · exact absurd c_5 (nI_ge (b := 6) (by omega) (by decide))
          refine lv_iload hx hb dX6_speak_112 (lv_at hl 1 rfl) ?_
          refine lv_iload hx hb dX6_speak_114 (lv_at hl 3 rfl) ?_
          refine ro_i (va_runSN (As := [.int ((p2 &&& (f_X6_living row vP vD)) &&& ((f_X6_knowersOf row vS p1) ^^^ (-1))), .int (nI j105_)]) (rest := []) ⟨hx, hb, hml, hown, hts⟩ (c_X8_has l D cI cC cG ((p2 &&& (f_X6_living row vP vD)) &&& ((f_X6_knowersOf row vS p1) ^^^ (-1))) (nI j105_)) ⟨va_cnB 2 hts gX6_speak_X8_has_n46 rfl rfl rfl (hN.at 6 rfl) hiniX8 (by decide +kernel) ⟨Nat.le_of_ble_eq_true rfl, Nat.le_of_ble_eq_true rfl⟩, hstX8_has, trivial⟩ (q_preS hK hP hN [] rfl) rfl rfl hl.1 rfl (lv_room (Nat.le_of_ble_eq_true rfl)) dX6_speak_116 ⟨Nat.zero_le _, Nat.zero_le _⟩) hS hP (fun H locs hP hS => ?_)
          refine lv_if_eq (tgt := 142) hx hb dX6_speak_119 (by decide) (fun c_6 => ?_) (fun c_6 => ?_)
          · refine lv_iinc (v := (nI (j105_ + 1))) (lv' := [(8, .int (nI (j105_ + 1))), (0, .ref s0), (5, .int ((p2 &&& (f_X6_living row vP vD)) &&& ((f_X6_knowersOf row vS p1) ^^^ (-1)))), (6, .int (f_J6_bitCount_0f7a4 ((p2 &&& (f_X6_living row vP vD)) &&& ((f_X6_knowersOf row vS p1) ^^^ (-1)))))]) hx hb dX6_speak_142 hl (k := 3) rfl (nI_1 _) (by decide) rfl (fun ls hl => ?_)
            refine lv_goto (tgt := 105) hx hb dX6_speak_145 (by decide) ?_
            have e_7 : (F_X6_speak_105 ((p2 &&& (f_X6_living row vP vD)) &&& ((f_X6_knowersOf row vS p1) ^^^ (-1))) vP vD vKi (g_X6_growOlder_row (upd row (Int32.toNatClampNeg (6 + p1)) ((row (Int32.toNatClampNeg (6 + p1))) ||| ((p2 &&& (f_X6_living row vP vD)) &&& ((f_X6_knowersOf row vS p1) ^^^ (-1))))) vP vD (f_X7_ownerOf vS vOw p1) (f_X8_careForMany (f_X7_kindOf vP vKi (f_X7_ownerOf vS vOw p1)) (f_X6_othersKnowing row vS vOw p1) (f_J6_bitCount_0f7a4 ((p2 &&& (f_X6_living row vP vD)) &&& ((f_X6_knowersOf row vS p1) ^^^ (-1)))))) (j105_ + 1)) = (F_X6_speak_105 ((p2 &&& (f_X6_living row vP vD)) &&& ((f_X6_knowersOf row vS p1) ^^^ (-1))) vP vD vKi (g_X6_growOlder_row (upd row (Int32.toNatClampNeg (6 + p1)) ((row (Int32.toNatClampNeg (6 + p1))) ||| ((p2 &&& (f_X6_living row vP vD)) &&& ((f_X6_knowersOf row vS p1) ^^^ (-1))))) vP vD (f_X7_ownerOf vS vOw p1) (f_X8_careForMany (f_X7_kindOf vP vKi (f_X7_ownerOf vS vOw p1)) (f_X6_othersKnowing row vS vOw p1) (f_J6_bitCount_0f7a4 ((p2 &&& (f_X6_living row vP vD)) &&& ((f_X6_knowersOf row vS p1) ^^^ (-1)))))) j105_) := by simp only [F_X6_speak_105, if_pos c_6]
            exact ih105_ (j105_ + 1) (by omega) _ _ (by rw [e_7]; exact hP) (by rw [e_7]; exact hD) hS _ (lv_sub hl [1, 2, 3, 0] rfl)
          refine lv_aload_n hx hb dX6_speak_122 rfl (lv_at hl 0 rfl) ?_
          refine va_get (D := D) (ci := 6) (v := .ref v0) (C := RX6) (T := TX6) (N := 2) hx hb hts hinX6 hown hK hP 0 rfl rfl 0 (by decide) hf15 (fun _ h9 => h9) rfl dX6_speak_123 ?_
          refine lv_iload hx hb dX6_speak_126 (lv_at hl 3 rfl) ?_
          refine ro_i (va_runV (As := [.int (nI j105_)]) (rest := []) ⟨hx, hb, hml, hown, hts⟩ (c_X7_kindOf l D cI cC cG v0 v1 v2 v3 v4 v5 vP vS vD vAg vKi vMe vOw vFk (nI j105_)) (cwV 1 hts gX6_speak_X7_kindOf rfl rfl rfl (by decide +kernel) ⟨Nat.le_of_ble_eq_true rfl, Nat.le_of_ble_eq_true rfl⟩) (q_preV hK hP hN [2, 3, 4, 5, 6, 7] rfl (ci := 7) (q0 := 2) rfl rfl) rfl rfl hl.1 rfl (lv_room (Nat.le_of_ble_eq_true rfl)) dX6_speak_128 ⟨Nat.zero_le _, Nat.zero_le _⟩) hS hP (fun H locs hP hS => ?_)
          refine lv_iconst (v := 4) hx hb dX6_speak_131 (by decide) ?_
          refine lv_icmp_ne (tgt := 142) hx hb dX6_speak_132 (by decide) (fun c_8 => ?_) (fun c_8 => ?_)
          · refine lv_iinc (v := (nI (j105_ + 1))) (lv' := [(8, .int (nI (j105_ + 1))), (0, .ref s0), (5, .int ((p2 &&& (f_X6_living row vP vD)) &&& ((f_X6_knowersOf row vS p1) ^^^ (-1)))), (6, .int (f_J6_bitCount_0f7a4 ((p2 &&& (f_X6_living row vP vD)) &&& ((f_X6_knowersOf row vS p1) ^^^ (-1)))))]) hx hb dX6_speak_142 hl (k := 3) rfl (nI_1 _) (by decide) rfl (fun ls hl => ?_)
            refine lv_goto (tgt := 105) hx hb dX6_speak_145 (by decide) ?_
            have e_9 : (F_X6_speak_105 ((p2 &&& (f_X6_living row vP vD)) &&& ((f_X6_knowersOf row vS p1) ^^^ (-1))) vP vD vKi (g_X6_growOlder_row (upd row (Int32.toNatClampNeg (6 + p1)) ((row (Int32.toNatClampNeg (6 + p1))) ||| ((p2 &&& (f_X6_living row vP vD)) &&& ((f_X6_knowersOf row vS p1) ^^^ (-1))))) vP vD (f_X7_ownerOf vS vOw p1) (f_X8_careForMany (f_X7_kindOf vP vKi (f_X7_ownerOf vS vOw p1)) (f_X6_othersKnowing row vS vOw p1) (f_J6_bitCount_0f7a4 ((p2 &&& (f_X6_living row vP vD)) &&& ((f_X6_knowersOf row vS p1) ^^^ (-1)))))) (j105_ + 1)) = (F_X6_speak_105 ((p2 &&& (f_X6_living row vP vD)) &&& ((f_X6_knowersOf row vS p1) ^^^ (-1))) vP vD vKi (g_X6_growOlder_row (upd row (Int32.toNatClampNeg (6 + p1)) ((row (Int32.toNatClampNeg (6 + p1))) ||| ((p2 &&& (f_X6_living row vP vD)) &&& ((f_X6_knowersOf row vS p1) ^^^ (-1))))) vP vD (f_X7_ownerOf vS vOw p1) (f_X8_careForMany (f_X7_kindOf vP vKi (f_X7_ownerOf vS vOw p1)) (f_X6_othersKnowing row vS vOw p1) (f_J6_bitCount_0f7a4 ((p2 &&& (f_X6_living row vP vD)) &&& ((f_X6_knowersOf row vS p1) ^^^ (-1)))))) j105_) := by simp only [F_X6_speak_105, if_neg c_6, if_neg c_8]
            exact ih105_ (j105_ + 1) (by omega) _ _ (by rw [e_9]; exact hP) (by rw [e_9]; exact hD) hS _ (lv_sub hl [1, 2, 3, 0] rfl)
          refine lv_aload_n hx hb dX6_speak_135 rfl (lv_at hl 0 rfl) ?_
          refine lv_iload hx hb dX6_speak_136 (lv_at hl 3 rfl) ?_
          refine lv_iconst (v := 1) hx hb dX6_speak_138 (by decide) ?_
          refine rw_v0 (va_runV (As := [.int (nI j105_), .int 1]) (rest := []) ⟨hx, hb, hml, hown, hts⟩ (c_X6_growOlder l D cI cC cG s0 s1 v0 v1 v2 v3 v4 v5 (F_X6_speak_105 ((p2 &&& (f_X6_living row vP vD)) &&& ((f_X6_knowersOf row vS p1) ^^^ (-1))) vP vD vKi (g_X6_growOlder_row (upd row (Int32.toNatClampNeg (6 + p1)) ((row (Int32.toNatClampNeg (6 + p1))) ||| ((p2 &&& (f_X6_living row vP vD)) &&& ((f_X6_knowersOf row vS p1) ^^^ (-1))))) vP vD (f_X7_ownerOf vS vOw p1) (f_X8_careForMany (f_X7_kindOf vP vKi (f_X7_ownerOf vS vOw p1)) (f_X6_othersKnowing row vS vOw p1) (f_J6_bitCount_0f7a4 ((p2 &&& (f_X6_living row vP vD)) &&& ((f_X6_knowersOf row vS p1) ^^^ (-1)))))) j105_) vP vS vD vAg vKi vMe vOw vFk (nI j105_) 1 H.size) (cwV 2 hts gX6_speak_X6_growOlder rfl rfl rfl (by decide +kernel) ⟨Nat.le_of_ble_eq_true rfl, Nat.le_of_ble_eq_true rfl⟩) (q_preWV hK hP hD hN [0, 1, 2, 3, 4, 5, 6, 7] (by decide) rfl rfl (ci := 6) (q0 := 0) rfl rfl) rfl rfl hl.1 rfl (lv_room (Nat.le_of_ble_eq_true rfl)) dX6_speak_139 ⟨Nat.zero_le _, Nat.zero_le _⟩) hS hA hD (fun H locs hP hD hS => ?_)
          have hP : va_P D vwCl [(s0, .inr (6, [.ref v0, .ref s1])), (s1, .inl (cI, 15, .inl (g_X6_growOlder_row (F_X6_speak_105 ((p2 &&& (f_X6_living row vP vD)) &&& ((f_X6_knowersOf row vS p1) ^^^ (-1))) vP vD vKi (g_X6_growOlder_row (upd row (Int32.toNatClampNeg (6 + p1)) ((row (Int32.toNatClampNeg (6 + p1))) ||| ((p2 &&& (f_X6_living row vP vD)) &&& ((f_X6_knowersOf row vS p1) ^^^ (-1))))) vP vD (f_X7_ownerOf vS vOw p1) (f_X8_careForMany (f_X7_kindOf vP vKi (f_X7_ownerOf vS vOw p1)) (f_X6_othersKnowing row vS vOw p1) (f_J6_bitCount_0f7a4 ((p2 &&& (f_X6_living row vP vD)) &&& ((f_X6_knowersOf row vS p1) ^^^ (-1)))))) j105_) vP vD (nI j105_) 1))), (v0, .inr (7, [.ref v1, .ref v2, .ref v3, .ref v4, .ref v5, .int vP, .int vS, .int vD])), (v1, .inl (cI, 6, .inl vAg)), (v2, .inl (cI, 6, .inl vKi)), (v3, .inl (cI, 6, .inl vMe)), (v4, .inl (cI, 8, .inl vOw)), (v5, .inl (cI, 8, .inl vFk))] H := hP
          have hD : va_D (va_A (wS cI cC cG s0 s1 v0 v1 v2 v3 v4 v5 row vP vS vD vAg vKi vMe vOw vFk) sz) [(s0, .inr (6, [.ref v0, .ref s1])), (s1, .inl (cI, 15, .inl (g_X6_growOlder_row (F_X6_speak_105 ((p2 &&& (f_X6_living row vP vD)) &&& ((f_X6_knowersOf row vS p1) ^^^ (-1))) vP vD vKi (g_X6_growOlder_row (upd row (Int32.toNatClampNeg (6 + p1)) ((row (Int32.toNatClampNeg (6 + p1))) ||| ((p2 &&& (f_X6_living row vP vD)) &&& ((f_X6_knowersOf row vS p1) ^^^ (-1))))) vP vD (f_X7_ownerOf vS vOw p1) (f_X8_careForMany (f_X7_kindOf vP vKi (f_X7_ownerOf vS vOw p1)) (f_X6_othersKnowing row vS vOw p1) (f_J6_bitCount_0f7a4 ((p2 &&& (f_X6_living row vP vD)) &&& ((f_X6_knowersOf row vS p1) ^^^ (-1)))))) j105_) vP vD (nI j105_) 1))), (v0, .inr (7, [.ref v1, .ref v2, .ref v3, .ref v4, .ref v5, .int vP, .int vS, .int vD])), (v1, .inl (cI, 6, .inl vAg)), (v2, .inl (cI, 6, .inl vKi)), (v3, .inl (cI, 6, .inl vMe)), (v4, .inl (cI, 8, .inl vOw)), (v5, .inl (cI, 8, .inl vFk))] := hD
          refine lv_iinc (v := (nI (j105_ + 1))) (lv' := [(8, .int (nI (j105_ + 1))), (0, .ref s0), (5, .int ((p2 &&& (f_X6_living row vP vD)) &&& ((f_X6_knowersOf row vS p1) ^^^ (-1)))), (6, .int (f_J6_bitCount_0f7a4 ((p2 &&& (f_X6_living row vP vD)) &&& ((f_X6_knowersOf row vS p1) ^^^ (-1)))))]) hx hb dX6_speak_142 hl (k := 3) rfl (nI_1 _) (by decide) rfl (fun ls hl => ?_)
          refine lv_goto (tgt := 105) hx hb dX6_speak_145 (by decide) ?_
          have e_10 : (F_X6_speak_105 ((p2 &&& (f_X6_living row vP vD)) &&& ((f_X6_knowersOf row vS p1) ^^^ (-1))) vP vD vKi (g_X6_growOlder_row (upd row (Int32.toNatClampNeg (6 + p1)) ((row (Int32.toNatClampNeg (6 + p1))) ||| ((p2 &&& (f_X6_living row vP vD)) &&& ((f_X6_knowersOf row vS p1) ^^^ (-1))))) vP vD (f_X7_ownerOf vS vOw p1) (f_X8_careForMany (f_X7_kindOf vP vKi (f_X7_ownerOf vS vOw p1)) (f_X6_othersKnowing row vS vOw p1) (f_J6_bitCount_0f7a4 ((p2 &&& (f_X6_living row vP vD)) &&& ((f_X6_knowersOf row vS p1) ^^^ (-1)))))) (j105_ + 1)) = (g_X6_growOlder_row (F_X6_speak_105 ((p2 &&& (f_X6_living row vP vD)) &&& ((f_X6_knowersOf row vS p1) ^^^ (-1))) vP vD vKi (g_X6_growOlder_row (upd row (Int32.toNatClampNeg (6 + p1)) ((row (Int32.toNatClampNeg (6 + p1))) ||| ((p2 &&& (f_X6_living row vP vD)) &&& ((f_X6_knowersOf row vS p1) ^^^ (-1))))) vP vD (f_X7_ownerOf vS vOw p1) (f_X8_careForMany (f_X7_kindOf vP vKi (f_X7_ownerOf vS vOw p1)) (f_X6_othersKnowing row vS vOw p1) (f_J6_bitCount_0f7a4 ((p2 &&& (f_X6_living row vP vD)) &&& ((f_X6_knowersOf row vS p1) ^^^ (-1)))))) j105_) vP vD (nI j105_) 1) := by simp only [F_X6_speak_105, if_neg c_6, if_pos c_8]
          exact ih105_ (j105_ + 1) (by omega) _ _ (by rw [e_10]; exact hP) (by rw [e_10]; exact hD) hS _ (lv_sub hl [1, 2, 3, 0] rfl)
      exact loop105_ 6 0 (by omega) _ _ hP hD hS _ (lv_sub hl [5, 3, 2, 0] rfl)
    refine lv_iload hx hb dX6_speak_90 (lv_at hl 0 rfl) ?_
    refine lv_iconst (v := 2) hx hb dX6_speak_92 (by decide) ?_
    refine lv_idiv hx hb dX6_speak_93 (by decide) ?_
    refine lv_goto (tgt := 99) hx hb dX6_speak_94 (by decide) ?_
    refine rw_v0 (va_runV (As := [.int (f_X7_ownerOf vS vOw p1), .int ((f_X8_careForMany (f_X7_kindOf vP vKi (f_X7_ownerOf vS vOw p1)) (f_X6_othersKnowing row vS vOw p1) (f_J6_bitCount_0f7a4 ((p2 &&& (f_X6_living row vP vD)) &&& ((f_X6_knowersOf row vS p1) ^^^ (-1))))) / 2)]) (rest := []) ⟨hx, hb, hml, hown, hts⟩ (c_X6_growOlder l D cI cC cG s0 s1 v0 v1 v2 v3 v4 v5 (upd row (Int32.toNatClampNeg (6 + p1)) ((row (Int32.toNatClampNeg (6 + p1))) ||| ((p2 &&& (f_X6_living row vP vD)) &&& ((f_X6_knowersOf row vS p1) ^^^ (-1))))) vP vS vD vAg vKi vMe vOw vFk (f_X7_ownerOf vS vOw p1) ((f_X8_careForMany (f_X7_kindOf vP vKi (f_X7_ownerOf vS vOw p1)) (f_X6_othersKnowing row vS vOw p1) (f_J6_bitCount_0f7a4 ((p2 &&& (f_X6_living row vP vD)) &&& ((f_X6_knowersOf row vS p1) ^^^ (-1))))) / 2) H.size) (cwV 2 hts gX6_speak_X6_growOlder rfl rfl rfl (by decide +kernel) ⟨Nat.le_of_ble_eq_true rfl, Nat.le_of_ble_eq_true rfl⟩) (q_preWV hK hP hD hN [0, 1, 2, 3, 4, 5, 6, 7] (by decide) rfl rfl (ci := 6) (q0 := 0) rfl rfl) rfl rfl hl.1 rfl (lv_room (Nat.le_of_ble_eq_true rfl)) dX6_speak_99 ⟨Nat.zero_le _, Nat.zero_le _⟩) hS hA hD (fun H locs hP hD hS => ?_)
    have hP : va_P D vwCl [(s0, .inr (6, [.ref v0, .ref s1])), (s1, .inl (cI, 15, .inl (g_X6_growOlder_row (upd row (Int32.toNatClampNeg (6 + p1)) ((row (Int32.toNatClampNeg (6 + p1))) ||| ((p2 &&& (f_X6_living row vP vD)) &&& ((f_X6_knowersOf row vS p1) ^^^ (-1))))) vP vD (f_X7_ownerOf vS vOw p1) ((f_X8_careForMany (f_X7_kindOf vP vKi (f_X7_ownerOf vS vOw p1)) (f_X6_othersKnowing row vS vOw p1) (f_J6_bitCount_0f7a4 ((p2 &&& (f_X6_living row vP vD)) &&& ((f_X6_knowersOf row vS p1) ^^^ (-1))))) / 2)))), (v0, .inr (7, [.ref v1, .ref v2, .ref v3, .ref v4, .ref v5, .int vP, .int vS, .int vD])), (v1, .inl (cI, 6, .inl vAg)), (v2, .inl (cI, 6, .inl vKi)), (v3, .inl (cI, 6, .inl vMe)), (v4, .inl (cI, 8, .inl vOw)), (v5, .inl (cI, 8, .inl vFk))] H := hP
    have hD : va_D (va_A (wS cI cC cG s0 s1 v0 v1 v2 v3 v4 v5 row vP vS vD vAg vKi vMe vOw vFk) sz) [(s0, .inr (6, [.ref v0, .ref s1])), (s1, .inl (cI, 15, .inl (g_X6_growOlder_row (upd row (Int32.toNatClampNeg (6 + p1)) ((row (Int32.toNatClampNeg (6 + p1))) ||| ((p2 &&& (f_X6_living row vP vD)) &&& ((f_X6_knowersOf row vS p1) ^^^ (-1))))) vP vD (f_X7_ownerOf vS vOw p1) ((f_X8_careForMany (f_X7_kindOf vP vKi (f_X7_ownerOf vS vOw p1)) (f_X6_othersKnowing row vS vOw p1) (f_J6_bitCount_0f7a4 ((p2 &&& (f_X6_living row vP vD)) &&& ((f_X6_knowersOf row vS p1) ^^^ (-1))))) / 2)))), (v0, .inr (7, [.ref v1, .ref v2, .ref v3, .ref v4, .ref v5, .int vP, .int vS, .int vD])), (v1, .inl (cI, 6, .inl vAg)), (v2, .inl (cI, 6, .inl vKi)), (v3, .inl (cI, 6, .inl vMe)), (v4, .inl (cI, 8, .inl vOw)), (v5, .inl (cI, 8, .inl vFk))] := hD
    refine lv_iconst (v := 0) hx hb dX6_speak_102 (by decide) ?_
    refine lv_istore (lv' := [(8, .int 0), (7, .int (f_X8_careForMany (f_X7_kindOf vP vKi (f_X7_ownerOf vS vOw p1)) (f_X6_othersKnowing row vS vOw p1) (f_J6_bitCount_0f7a4 ((p2 &&& (f_X6_living row vP vD)) &&& ((f_X6_knowersOf row vS p1) ^^^ (-1)))))), (6, .int (f_J6_bitCount_0f7a4 ((p2 &&& (f_X6_living row vP vD)) &&& ((f_X6_knowersOf row vS p1) ^^^ (-1))))), (5, .int ((p2 &&& (f_X6_living row vP vD)) &&& ((f_X6_knowersOf row vS p1) ^^^ (-1)))), (4, .int (f_X7_ownerOf vS vOw p1)), (0, .ref s0), (1, .int p0), (2, .int p1), (3, .int p2)]) hx hb dX6_speak_103 hl (by decide) rfl (fun ls hl => ?_)
    have K105_ : ∀ (H : Heap) (locs : List Loc), va_P D vwCl [(s0, .inr (6, [.ref v0, .ref s1])), (s1, .inl (cI, 15, .inl (F_X6_speak_105 ((p2 &&& (f_X6_living row vP vD)) &&& ((f_X6_knowersOf row vS p1) ^^^ (-1))) vP vD vKi (g_X6_growOlder_row (upd row (Int32.toNatClampNeg (6 + p1)) ((row (Int32.toNatClampNeg (6 + p1))) ||| ((p2 &&& (f_X6_living row vP vD)) &&& ((f_X6_knowersOf row vS p1) ^^^ (-1))))) vP vD (f_X7_ownerOf vS vOw p1) ((f_X8_careForMany (f_X7_kindOf vP vKi (f_X7_ownerOf vS vOw p1)) (f_X6_othersKnowing row vS vOw p1) (f_J6_bitCount_0f7a4 ((p2 &&& (f_X6_living row vP vD)) &&& ((f_X6_knowersOf row vS p1) ^^^ (-1))))) / 2)) 6))), (v0, .inr (7, [.ref v1, .ref v2, .ref v3, .ref v4, .ref v5, .int vP, .int vS, .int vD])), (v1, .inl (cI, 6, .inl vAg)), (v2, .inl (cI, 6, .inl vKi)), (v3, .inl (cI, 6, .inl vMe)), (v4, .inl (cI, 8, .inl vOw)), (v5, .inl (cI, 8, .inl vFk))] H → va_D (va_A (wS cI cC cG s0 s1 v0 v1 v2 v3 v4 v5 row vP vS vD vAg vKi vMe vOw vFk) sz) [(s0, .inr (6, [.ref v0, .ref s1])), (s1, .inl (cI, 15, .inl (F_X6_speak_105 ((p2 &&& (f_X6_living row vP vD)) &&& ((f_X6_knowersOf row vS p1) ^^^ (-1))) vP vD vKi (g_X6_growOlder_row (upd row (Int32.toNatClampNeg (6 + p1)) ((row (Int32.toNatClampNeg (6 + p1))) ||| ((p2 &&& (f_X6_living row vP vD)) &&& ((f_X6_knowersOf row vS p1) ^^^ (-1))))) vP vD (f_X7_ownerOf vS vOw p1) ((f_X8_careForMany (f_X7_kindOf vP vKi (f_X7_ownerOf vS vOw p1)) (f_X6_othersKnowing row vS vOw p1) (f_J6_bitCount_0f7a4 ((p2 &&& (f_X6_living row vP vD)) &&& ((f_X6_knowersOf row vS p1) ^^^ (-1))))) / 2)) 6))), (v0, .inr (7, [.ref v1, .ref v2, .ref v3, .ref v4, .ref v5, .int vP, .int vS, .int vD])), (v1, .inl (cI, 6, .inl vAg)), (v2, .inl (cI, 6, .inl vKi)), (v3, .inl (cI, 6, .inl vMe)), (v4, .inl (cI, 8, .inl vOw)), (v5, .inl (cI, 8, .inl vFk))] → va_S (va_A (wS cI cC cG s0 s1 v0 v1 v2 v3 v4 v5 row vP vS vD vAg vKi vMe vOw vFk) sz) s.heap H locs → ∀ ls : Array Slot, lv_has ls 9 [(6, .int (f_J6_bitCount_0f7a4 ((p2 &&& (f_X6_living row vP vD)) &&& ((f_X6_knowersOf row vS p1) ^^^ (-1)))))] → W p l e rm_X6_speak s m ([.ref s0, .int p0, .int p1, .int p2] : List Value).toArray below meth c H locs 0 0 (MQ below (q_QWi D (wS cI cC cG s0 s1 v0 v1 v2 v3 v4 v5 row vP vS vD vAg vKi vMe vOw vFk) (wS cI cC cG s0 s1 v0 v1 v2 v3 v4 v5 (g_X6_speak_row row vP vS vD vKi vOw p0 p1 p2) vP vS vD vAg vKi vMe vOw vFk) sz (f_X6_speak row vP vS vD p1 p2)) ([.ref s0, .int p0, .int p1, .int p2] : List Value).toArray s 0 0 (va_A (wS cI cC cG s0 s1 v0 v1 v2 v3 v4 v5 row vP vS vD vAg vKi vMe vOw vFk) sz)) (F0 m 148 ls []) := by
      intro H locs hP hD hS ls hl
      refine lv_iload hx hb dX6_speak_148 (lv_at hl 0 rfl) ?_
      have e_11 : (g_X6_speak_row row vP vS vD vKi vOw p0 p1 p2) = (F_X6_speak_105 ((p2 &&& (f_X6_living row vP vD)) &&& ((f_X6_knowersOf row vS p1) ^^^ (-1))) vP vD vKi (g_X6_growOlder_row (upd row (Int32.toNatClampNeg (6 + p1)) ((row (Int32.toNatClampNeg (6 + p1))) ||| ((p2 &&& (f_X6_living row vP vD)) &&& ((f_X6_knowersOf row vS p1) ^^^ (-1))))) vP vD (f_X7_ownerOf vS vOw p1) ((f_X8_careForMany (f_X7_kindOf vP vKi (f_X7_ownerOf vS vOw p1)) (f_X6_othersKnowing row vS vOw p1) (f_J6_bitCount_0f7a4 ((p2 &&& (f_X6_living row vP vD)) &&& ((f_X6_knowersOf row vS p1) ^^^ (-1))))) / 2)) 6) := by simp only [g_X6_speak_row, if_neg c_1, if_pos c_2]
      exact rw_iret hx hb hr hlocks hP hD hS (by simp only [f_X6_speak, if_neg c_1, if_pos c_2]) (by rw [e_11]) dX6_speak_150
    have loop105_ : ∀ (n105_ j105_ : Nat), j105_ + n105_ = 6 → ∀ (H : Heap) (locs : List Loc), va_P D vwCl [(s0, .inr (6, [.ref v0, .ref s1])), (s1, .inl (cI, 15, .inl (F_X6_speak_105 ((p2 &&& (f_X6_living row vP vD)) &&& ((f_X6_knowersOf row vS p1) ^^^ (-1))) vP vD vKi (g_X6_growOlder_row (upd row (Int32.toNatClampNeg (6 + p1)) ((row (Int32.toNatClampNeg (6 + p1))) ||| ((p2 &&& (f_X6_living row vP vD)) &&& ((f_X6_knowersOf row vS p1) ^^^ (-1))))) vP vD (f_X7_ownerOf vS vOw p1) ((f_X8_careForMany (f_X7_kindOf vP vKi (f_X7_ownerOf vS vOw p1)) (f_X6_othersKnowing row vS vOw p1) (f_J6_bitCount_0f7a4 ((p2 &&& (f_X6_living row vP vD)) &&& ((f_X6_knowersOf row vS p1) ^^^ (-1))))) / 2)) j105_))), (v0, .inr (7, [.ref v1, .ref v2, .ref v3, .ref v4, .ref v5, .int vP, .int vS, .int vD])), (v1, .inl (cI, 6, .inl vAg)), (v2, .inl (cI, 6, .inl vKi)), (v3, .inl (cI, 6, .inl vMe)), (v4, .inl (cI, 8, .inl vOw)), (v5, .inl (cI, 8, .inl vFk))] H → va_D (va_A (wS cI cC cG s0 s1 v0 v1 v2 v3 v4 v5 row vP vS vD vAg vKi vMe vOw vFk) sz) [(s0, .inr (6, [.ref v0, .ref s1])), (s1, .inl (cI, 15, .inl (F_X6_speak_105 ((p2 &&& (f_X6_living row vP vD)) &&& ((f_X6_knowersOf row vS p1) ^^^ (-1))) vP vD vKi (g_X6_growOlder_row (upd row (Int32.toNatClampNeg (6 + p1)) ((row (Int32.toNatClampNeg (6 + p1))) ||| ((p2 &&& (f_X6_living row vP vD)) &&& ((f_X6_knowersOf row vS p1) ^^^ (-1))))) vP vD (f_X7_ownerOf vS vOw p1) ((f_X8_careForMany (f_X7_kindOf vP vKi (f_X7_ownerOf vS vOw p1)) (f_X6_othersKnowing row vS vOw p1) (f_J6_bitCount_0f7a4 ((p2 &&& (f_X6_living row vP vD)) &&& ((f_X6_knowersOf row vS p1) ^^^ (-1))))) / 2)) j105_))), (v0, .inr (7, [.ref v1, .ref v2, .ref v3, .ref v4, .ref v5, .int vP, .int vS, .int vD])), (v1, .inl (cI, 6, .inl vAg)), (v2, .inl (cI, 6, .inl vKi)), (v3, .inl (cI, 6, .inl vMe)), (v4, .inl (cI, 8, .inl vOw)), (v5, .inl (cI, 8, .inl vFk))] → va_S (va_A (wS cI cC cG s0 s1 v0 v1 v2 v3 v4 v5 row vP vS vD vAg vKi vMe vOw vFk) sz) s.heap H locs → ∀ ls : Array Slot, lv_has ls 9 [(0, .ref s0), (5, .int ((p2 &&& (f_X6_living row vP vD)) &&& ((f_X6_knowersOf row vS p1) ^^^ (-1)))), (6, .int (f_J6_bitCount_0f7a4 ((p2 &&& (f_X6_living row vP vD)) &&& ((f_X6_knowersOf row vS p1) ^^^ (-1))))), (8, .int (nI j105_))] → W p l e rm_X6_speak s m ([.ref s0, .int p0, .int p1, .int p2] : List Value).toArray below meth c H locs 0 0 (MQ below (q_QWi D (wS cI cC cG s0 s1 v0 v1 v2 v3 v4 v5 row vP vS vD vAg vKi vMe vOw vFk) (wS cI cC cG s0 s1 v0 v1 v2 v3 v4 v5 (g_X6_speak_row row vP vS vD vKi vOw p0 p1 p2) vP vS vD vAg vKi vMe vOw vFk) sz (f_X6_speak row vP vS vD p1 p2)) ([.ref s0, .int p0, .int p1, .int p2] : List Value).toArray s 0 0 (va_A (wS cI cC cG s0 s1 v0 v1 v2 v3 v4 v5 row vP vS vD vAg vKi vMe vOw vFk) sz)) (F0 m 105 ls []) := by
      intro n105_
      induction n105_ with
      | zero =>
        intro j105_ hj105_ H locs hP hD hS ls hl
        obtain rfl : j105_ = 6 := by omega
        refine lv_iload hx hb dX6_speak_105 (lv_at hl 3 rfl) ?_
        refine lv_bipush (v := 6) hx hb dX6_speak_107 (by decide) ?_
        refine lv_icmp_ge (tgt := 148) hx hb dX6_speak_109 (by decide) (fun c_12 => ?_) (fun c_12 => ?_)
        rotate_left
        · exact absurd (nI_le (Nat.le_refl 6) (by decide)) c_12
        exact K105_ _ _ hP hD hS _ (lv_sub hl [2] rfl)
      | succ n105_ ih105_ =>
        intro j105_ hj105_ H locs hP hD hS ls hl
        refine lv_iload hx hb dX6_speak_105 (lv_at hl 3 rfl) ?_
        refine lv_bipush (v := 6) hx hb dX6_speak_107 (by decide) ?_
        refine lv_icmp_ge (tgt := 148) hx hb dX6_speak_109 (by decide) (fun c_13 => ?_) (fun c_13 => ?_)
        · exact absurd c_13 (nI_ge (b := 6) (by omega) (by decide))
        refine lv_iload hx hb dX6_speak_112 (lv_at hl 1 rfl) ?_
        refine lv_iload hx hb dX6_speak_114 (lv_at hl 3 rfl) ?_
        refine ro_i (va_runSN (As := [.int ((p2 &&& (f_X6_living row vP vD)) &&& ((f_X6_knowersOf row vS p1) ^^^ (-1))), .int (nI j105_)]) (rest := []) ⟨hx, hb, hml, hown, hts⟩ (c_X8_has l D cI cC cG ((p2 &&& (f_X6_living row vP vD)) &&& ((f_X6_knowersOf row vS p1) ^^^ (-1))) (nI j105_)) ⟨va_cnB 2 hts gX6_speak_X8_has_n46 rfl rfl rfl (hN.at 6 rfl) hiniX8 (by decide +kernel) ⟨Nat.le_of_ble_eq_true rfl, Nat.le_of_ble_eq_true rfl⟩, hstX8_has, trivial⟩ (q_preS hK hP hN [] rfl) rfl rfl hl.1 rfl (lv_room (Nat.le_of_ble_eq_true rfl)) dX6_speak_116 ⟨Nat.zero_le _, Nat.zero_le _⟩) hS hP (fun H locs hP hS => ?_)
        refine lv_if_eq (tgt := 142) hx hb dX6_speak_119 (by decide) (fun c_14 => ?_) (fun c_14 => ?_)
        · refine lv_iinc (v := (nI (j105_ + 1))) (lv' := [(8, .int (nI (j105_ + 1))), (0, .ref s0), (5, .int ((p2 &&& (f_X6_living row vP vD)) &&& ((f_X6_knowersOf row vS p1) ^^^ (-1)))), (6, .int (f_J6_bitCount_0f7a4 ((p2 &&& (f_X6_living row vP vD)) &&& ((f_X6_knowersOf row vS p1) ^^^ (-1)))))]) hx hb dX6_speak_142 hl (k := 3) rfl (nI_1 _) (by decide) rfl (fun ls hl => ?_)
          refine lv_goto (tgt := 105) hx hb dX6_speak_145 (by decide) ?_
          have e_15 : (F_X6_speak_105 ((p2 &&& (f_X6_living row vP vD)) &&& ((f_X6_knowersOf row vS p1) ^^^ (-1))) vP vD vKi (g_X6_growOlder_row (upd row (Int32.toNatClampNeg (6 + p1)) ((row (Int32.toNatClampNeg (6 + p1))) ||| ((p2 &&& (f_X6_living row vP vD)) &&& ((f_X6_knowersOf row vS p1) ^^^ (-1))))) vP vD (f_X7_ownerOf vS vOw p1) ((f_X8_careForMany (f_X7_kindOf vP vKi (f_X7_ownerOf vS vOw p1)) (f_X6_othersKnowing row vS vOw p1) (f_J6_bitCount_0f7a4 ((p2 &&& (f_X6_living row vP vD)) &&& ((f_X6_knowersOf row vS p1) ^^^ (-1))))) / 2)) (j105_ + 1)) = (F_X6_speak_105 ((p2 &&& (f_X6_living row vP vD)) &&& ((f_X6_knowersOf row vS p1) ^^^ (-1))) vP vD vKi (g_X6_growOlder_row (upd row (Int32.toNatClampNeg (6 + p1)) ((row (Int32.toNatClampNeg (6 + p1))) ||| ((p2 &&& (f_X6_living row vP vD)) &&& ((f_X6_knowersOf row vS p1) ^^^ (-1))))) vP vD (f_X7_ownerOf vS vOw p1) ((f_X8_careForMany (f_X7_kindOf vP vKi (f_X7_ownerOf vS vOw p1)) (f_X6_othersKnowing row vS vOw p1) (f_J6_bitCount_0f7a4 ((p2 &&& (f_X6_living row vP vD)) &&& ((f_X6_knowersOf row vS p1) ^^^ (-1))))) / 2)) j105_) := by simp only [F_X6_speak_105, if_pos c_14]
          exact ih105_ (j105_ + 1) (by omega) _ _ (by rw [e_15]; exact hP) (by rw [e_15]; exact hD) hS _ (lv_sub hl [1, 2, 3, 0] rfl)
        refine lv_aload_n hx hb dX6_speak_122 rfl (lv_at hl 0 rfl) ?_
        refine va_get (D := D) (ci := 6) (v := .ref v0) (C := RX6) (T := TX6) (N := 2) hx hb hts hinX6 hown hK hP 0 rfl rfl 0 (by decide) hf15 (fun _ h9 => h9) rfl dX6_speak_123 ?_
        refine lv_iload hx hb dX6_speak_126 (lv_at hl 3 rfl) ?_
        refine ro_i (va_runV (As := [.int (nI j105_)]) (rest := []) ⟨hx, hb, hml, hown, hts⟩ (c_X7_kindOf l D cI cC cG v0 v1 v2 v3 v4 v5 vP vS vD vAg vKi vMe vOw vFk (nI j105_)) (cwV 1 hts gX6_speak_X7_kindOf rfl rfl rfl (by decide +kernel) ⟨Nat.le_of_ble_eq_true rfl, Nat.le_of_ble_eq_true rfl⟩) (q_preV hK hP hN [2, 3, 4, 5, 6, 7] rfl (ci := 7) (q0 := 2) rfl rfl) rfl rfl hl.1 rfl (lv_room (Nat.le_of_ble_eq_true rfl)) dX6_speak_128 ⟨Nat.zero_le _, Nat.zero_le _⟩) hS hP (fun H locs hP hS => ?_)
        refine lv_iconst (v := 4) hx hb dX6_speak_131 (by decide) ?_
        refine lv_icmp_ne (tgt := 142) hx hb dX6_speak_132 (by decide) (fun c_16 => ?_) (fun c_16 => ?_)
        · refine lv_iinc (v := (nI (j105_ + 1))) (lv' := [(8, .int (nI (j105_ + 1))), (0, .ref s0), (5, .int ((p2 &&& (f_X6_living row vP vD)) &&& ((f_X6_knowersOf row vS p1) ^^^ (-1)))), (6, .int (f_J6_bitCount_0f7a4 ((p2 &&& (f_X6_living row vP vD)) &&& ((f_X6_knowersOf row vS p1) ^^^ (-1)))))]) hx hb dX6_speak_142 hl (k := 3) rfl (nI_1 _) (by decide) rfl (fun ls hl => ?_)
          refine lv_goto (tgt := 105) hx hb dX6_speak_145 (by decide) ?_
          have e_17 : (F_X6_speak_105 ((p2 &&& (f_X6_living row vP vD)) &&& ((f_X6_knowersOf row vS p1) ^^^ (-1))) vP vD vKi (g_X6_growOlder_row (upd row (Int32.toNatClampNeg (6 + p1)) ((row (Int32.toNatClampNeg (6 + p1))) ||| ((p2 &&& (f_X6_living row vP vD)) &&& ((f_X6_knowersOf row vS p1) ^^^ (-1))))) vP vD (f_X7_ownerOf vS vOw p1) ((f_X8_careForMany (f_X7_kindOf vP vKi (f_X7_ownerOf vS vOw p1)) (f_X6_othersKnowing row vS vOw p1) (f_J6_bitCount_0f7a4 ((p2 &&& (f_X6_living row vP vD)) &&& ((f_X6_knowersOf row vS p1) ^^^ (-1))))) / 2)) (j105_ + 1)) = (F_X6_speak_105 ((p2 &&& (f_X6_living row vP vD)) &&& ((f_X6_knowersOf row vS p1) ^^^ (-1))) vP vD vKi (g_X6_growOlder_row (upd row (Int32.toNatClampNeg (6 + p1)) ((row (Int32.toNatClampNeg (6 + p1))) ||| ((p2 &&& (f_X6_living row vP vD)) &&& ((f_X6_knowersOf row vS p1) ^^^ (-1))))) vP vD (f_X7_ownerOf vS vOw p1) ((f_X8_careForMany (f_X7_kindOf vP vKi (f_X7_ownerOf vS vOw p1)) (f_X6_othersKnowing row vS vOw p1) (f_J6_bitCount_0f7a4 ((p2 &&& (f_X6_living row vP vD)) &&& ((f_X6_knowersOf row vS p1) ^^^ (-1))))) / 2)) j105_) := by simp only [F_X6_speak_105, if_neg c_14, if_neg c_16]
          exact ih105_ (j105_ + 1) (by omega) _ _ (by rw [e_17]; exact hP) (by rw [e_17]; exact hD) hS _ (lv_sub hl [1, 2, 3, 0] rfl)
        refine lv_aload_n hx hb dX6_speak_135 rfl (lv_at hl 0 rfl) ?_
        refine lv_iload hx hb dX6_speak_136 (lv_at hl 3 rfl) ?_
        refine lv_iconst (v := 1) hx hb dX6_speak_138 (by decide) ?_
        refine rw_v0 (va_runV (As := [.int (nI j105_), .int 1]) (rest := []) ⟨hx, hb, hml, hown, hts⟩ (c_X6_growOlder l D cI cC cG s0 s1 v0 v1 v2 v3 v4 v5 (F_X6_speak_105 ((p2 &&& (f_X6_living row vP vD)) &&& ((f_X6_knowersOf row vS p1) ^^^ (-1))) vP vD vKi (g_X6_growOlder_row (upd row (Int32.toNatClampNeg (6 + p1)) ((row (Int32.toNatClampNeg (6 + p1))) ||| ((p2 &&& (f_X6_living row vP vD)) &&& ((f_X6_knowersOf row vS p1) ^^^ (-1))))) vP vD (f_X7_ownerOf vS vOw p1) ((f_X8_careForMany (f_X7_kindOf vP vKi (f_X7_ownerOf vS vOw p1)) (f_X6_othersKnowing row vS vOw p1) (f_J6_bitCount_0f7a4 ((p2 &&& (f_X6_living row vP vD)) &&& ((f_X6_knowersOf row vS p1) ^^^ (-1))))) / 2)) j105_) vP vS vD vAg vKi vMe vOw vFk (nI j105_) 1 H.size) (cwV 2 hts gX6_speak_X6_growOlder rfl rfl rfl (by decide +kernel) ⟨Nat.le_of_ble_eq_true rfl, Nat.le_of_ble_eq_true rfl⟩) (q_preWV hK hP hD hN [0, 1, 2, 3, 4, 5, 6, 7] (by decide) rfl rfl (ci := 6) (q0 := 0) rfl rfl) rfl rfl hl.1 rfl (lv_room (Nat.le_of_ble_eq_true rfl)) dX6_speak_139 ⟨Nat.zero_le _, Nat.zero_le _⟩) hS hA hD (fun H locs hP hD hS => ?_)
        have hP : va_P D vwCl [(s0, .inr (6, [.ref v0, .ref s1])), (s1, .inl (cI, 15, .inl (g_X6_growOlder_row (F_X6_speak_105 ((p2 &&& (f_X6_living row vP vD)) &&& ((f_X6_knowersOf row vS p1) ^^^ (-1))) vP vD vKi (g_X6_growOlder_row (upd row (Int32.toNatClampNeg (6 + p1)) ((row (Int32.toNatClampNeg (6 + p1))) ||| ((p2 &&& (f_X6_living row vP vD)) &&& ((f_X6_knowersOf row vS p1) ^^^ (-1))))) vP vD (f_X7_ownerOf vS vOw p1) ((f_X8_careForMany (f_X7_kindOf vP vKi (f_X7_ownerOf vS vOw p1)) (f_X6_othersKnowing row vS vOw p1) (f_J6_bitCount_0f7a4 ((p2 &&& (f_X6_living row vP vD)) &&& ((f_X6_knowersOf row vS p1) ^^^ (-1))))) / 2)) j105_) vP vD (nI j105_) 1))), (v0, .inr (7, [.ref v1, .ref v2, .ref v3, .ref v4, .ref v5, .int vP, .int vS, .int vD])), (v1, .inl (cI, 6, .inl vAg)), (v2, .inl (cI, 6, .inl vKi)), (v3, .inl (cI, 6, .inl vMe)), (v4, .inl (cI, 8, .inl vOw)), (v5, .inl (cI, 8, .inl vFk))] H := hP
        have hD : va_D (va_A (wS cI cC cG s0 s1 v0 v1 v2 v3 v4 v5 row vP vS vD vAg vKi vMe vOw vFk) sz) [(s0, .inr (6, [.ref v0, .ref s1])), (s1, .inl (cI, 15, .inl (g_X6_growOlder_row (F_X6_speak_105 ((p2 &&& (f_X6_living row vP vD)) &&& ((f_X6_knowersOf row vS p1) ^^^ (-1))) vP vD vKi (g_X6_growOlder_row (upd row (Int32.toNatClampNeg (6 + p1)) ((row (Int32.toNatClampNeg (6 + p1))) ||| ((p2 &&& (f_X6_living row vP vD)) &&& ((f_X6_knowersOf row vS p1) ^^^ (-1))))) vP vD (f_X7_ownerOf vS vOw p1) ((f_X8_careForMany (f_X7_kindOf vP vKi (f_X7_ownerOf vS vOw p1)) (f_X6_othersKnowing row vS vOw p1) (f_J6_bitCount_0f7a4 ((p2 &&& (f_X6_living row vP vD)) &&& ((f_X6_knowersOf row vS p1) ^^^ (-1))))) / 2)) j105_) vP vD (nI j105_) 1))), (v0, .inr (7, [.ref v1, .ref v2, .ref v3, .ref v4, .ref v5, .int vP, .int vS, .int vD])), (v1, .inl (cI, 6, .inl vAg)), (v2, .inl (cI, 6, .inl vKi)), (v3, .inl (cI, 6, .inl vMe)), (v4, .inl (cI, 8, .inl vOw)), (v5, .inl (cI, 8, .inl vFk))] := hD
        refine lv_iinc (v := (nI (j105_ + 1))) (lv' := [(8, .int (nI (j105_ + 1))), (0, .ref s0), (5, .int ((p2 &&& (f_X6_living row vP vD)) &&& ((f_X6_knowersOf row vS p1) ^^^ (-1)))), (6, .int (f_J6_bitCount_0f7a4 ((p2 &&& (f_X6_living row vP vD)) &&& ((f_X6_knowersOf row vS p1) ^^^ (-1)))))]) hx hb dX6_speak_142 hl (k := 3) rfl (nI_1 _) (by decide) rfl (fun ls hl => ?_)
        refine lv_goto (tgt := 105) hx hb dX6_speak_145 (by decide) ?_
        have e_18 : (F_X6_speak_105 ((p2 &&& (f_X6_living row vP vD)) &&& ((f_X6_knowersOf row vS p1) ^^^ (-1))) vP vD vKi (g_X6_growOlder_row (upd row (Int32.toNatClampNeg (6 + p1)) ((row (Int32.toNatClampNeg (6 + p1))) ||| ((p2 &&& (f_X6_living row vP vD)) &&& ((f_X6_knowersOf row vS p1) ^^^ (-1))))) vP vD (f_X7_ownerOf vS vOw p1) ((f_X8_careForMany (f_X7_kindOf vP vKi (f_X7_ownerOf vS vOw p1)) (f_X6_othersKnowing row vS vOw p1) (f_J6_bitCount_0f7a4 ((p2 &&& (f_X6_living row vP vD)) &&& ((f_X6_knowersOf row vS p1) ^^^ (-1))))) / 2)) (j105_ + 1)) = (g_X6_growOlder_row (F_X6_speak_105 ((p2 &&& (f_X6_living row vP vD)) &&& ((f_X6_knowersOf row vS p1) ^^^ (-1))) vP vD vKi (g_X6_growOlder_row (upd row (Int32.toNatClampNeg (6 + p1)) ((row (Int32.toNatClampNeg (6 + p1))) ||| ((p2 &&& (f_X6_living row vP vD)) &&& ((f_X6_knowersOf row vS p1) ^^^ (-1))))) vP vD (f_X7_ownerOf vS vOw p1) ((f_X8_careForMany (f_X7_kindOf vP vKi (f_X7_ownerOf vS vOw p1)) (f_X6_othersKnowing row vS vOw p1) (f_J6_bitCount_0f7a4 ((p2 &&& (f_X6_living row vP vD)) &&& ((f_X6_knowersOf row vS p1) ^^^ (-1))))) / 2)) j105_) vP vD (nI j105_) 1) := by simp only [F_X6_speak_105, if_neg c_14, if_pos c_16]
        exact ih105_ (j105_ + 1) (by omega) _ _ (by rw [e_18]; exact hP) (by rw [e_18]; exact hD) hS _ (lv_sub hl [1, 2, 3, 0] rfl)
    exact loop105_ 6 0 (by omega) _ _ hP hD hS _ (lv_sub hl [5, 3, 2, 0] rfl)
  refine lv_iconst (v := 0) hx hb dX6_speak_11 (by decide) ?_
  have e_19 : (g_X6_speak_row row vP vS vD vKi vOw p0 p1 p2) = row := by simp only [g_X6_speak_row, if_pos c_1]
  exact rw_iret hx hb hr hlocks hP hD hS (by simp only [f_X6_speak, if_pos c_1]) (by rw [e_19]) dX6_speak_12
def L_X6_whisper_2 (x1 : Int32) (row : Nat → Int32) (vP : Int32) (vS : Int32) (vD : Int32) (vKi : Nat → Int32) (vMe : Nat → Int32) (vOw : Nat → Int32) : Nat → Nat → Int32 × (Nat → Int32)
  | 0, j2_ => (0, row)
  | n2_ + 1, j2_ => (if (f_X6_knows row vP vS x1 (nI j2_)) = 0 then L_X6_whisper_2 x1 row vP vS vD vKi vMe vOw n2_ (j2_ + 1)  else (if (f_X7_ownerOf vS vOw (nI j2_)) = x1 then L_X6_whisper_2 x1 row vP vS vD vKi vMe vOw n2_ (j2_ + 1)  else (if ((f_X6_meetsOf row vP vD vMe x1) &&& ((f_X6_knowersOf row vS (nI j2_)) ^^^ (-1))) = 0 then L_X6_whisper_2 x1 row vP vS vD vKi vMe vOw n2_ (j2_ + 1)  else ((f_X6_speak row vP vS vD (nI j2_) (1 <<< ((f_X8_lowestOf ((f_X6_meetsOf row vP vD vMe x1) &&& ((f_X6_knowersOf row vS (nI j2_)) ^^^ (-1)))) &&& 31))), (g_X6_speak_row row vP vS vD vKi vOw x1 (nI j2_) (1 <<< ((f_X8_lowestOf ((f_X6_meetsOf row vP vD vMe x1) &&& ((f_X6_knowersOf row vS (nI j2_)) ^^^ (-1)))) &&& 31)))))))
def f_X6_whisper (row : Nat → Int32) (vP : Int32) (vS : Int32) (vD : Int32) (vKi : Nat → Int32) (vMe : Nat → Int32) (vOw : Nat → Int32) (p0 : Int32) : Int32 := (L_X6_whisper_2 p0 row vP vS vD vKi vMe vOw 8 0).1
def g_X6_whisper_row (row : Nat → Int32) (vP : Int32) (vS : Int32) (vD : Int32) (vKi : Nat → Int32) (vMe : Nat → Int32) (vOw : Nat → Int32) (p0 : Int32) : Nat → Int32 := (L_X6_whisper_2 p0 row vP vS vD vKi vMe vOw 8 0).2
abbrev rm_X6_whisper : Room := { frames := 4, cells := 0, slots := 0, locals := 92 }
set_option maxRecDepth 100000 in
set_option maxHeartbeats 4000000 in
theorem c_X6_whisper (l : Launch) (D : va_G) (cI cC cG : ClassId) (s0 : Nat) (s1 : Nat) (v0 : Nat) (v1 : Nat) (v2 : Nat) (v3 : Nat) (v4 : Nat) (v5 : Nat) (row : Nat → Int32) (vP : Int32) (vS : Int32) (vD : Int32) (vAg : Nat → Int32) (vKi : Nat → Int32) (vMe : Nat → Int32) (vOw : Nat → Int32) (vFk : Nat → Int32) (p0 : Int32) (sz : Nat) : RwI l yX6_whisper wsX6_whisper rm_X6_whisper D (q_t cI cC cG) (wS cI cC cG s0 s1 v0 v1 v2 v3 v4 v5 row vP vS vD vAg vKi vMe vOw vFk) (wS cI cC cG s0 s1 v0 v1 v2 v3 v4 v5 (g_X6_whisper_row row vP vS vD vKi vMe vOw p0) vP vS vD vAg vKi vMe vOw vFk) sz [.ref s0, .int p0] (f_X6_whisper row vP vS vD vKi vMe vOw p0) := by
  refine rw_enter (cc := cX6_whisper) (maxL := 4) (ret := (some .int)) (by decide) rfl (Nat.le_of_ble_eq_true rfl) ?_
  intro p e s m below meth c ls B hP hK hD hS hA hl
  obtain ⟨hx, hb, hr, hlocks, hml, hown, hts, hN⟩ := B
  have hown : s.vm.findClass RX6 = some m.cls := hown
  have hl : lv_has ls 4 [(0, .ref s0), (1, .int p0)] := hl
  have hf15 := hts (.fieldLink RX6 15 "OlderByABlush$Standing" "village" "LOlderByABlush$Village;") (by decide +kernel)
  have hinX6 : ∀ w ∈ u_ws RX6 TX6 2, w ∈ wsX6_whisper := by decide +kernel
  have hstX8_lowestOf := hts (.static yX8_lowestOf) (by decide +kernel)
  have hiniX8 := hts (.initialized RX8) (by decide +kernel)
  refine lv_iconst (v := 0) hx hb dX6_whisper_0 (by decide) ?_
  refine lv_istore_n (lv' := [(2, .int 0), (0, .ref s0), (1, .int p0)]) hx hb dX6_whisper_1 rfl hl (by decide) rfl (fun ls hl => ?_)
  have hr2_ : (f_X6_whisper row vP vS vD vKi vMe vOw p0) = (L_X6_whisper_2 p0 row vP vS vD vKi vMe vOw 8 0).1 := by simp only [f_X6_whisper]
  have ho2_0 : (g_X6_whisper_row row vP vS vD vKi vMe vOw p0) = (L_X6_whisper_2 p0 row vP vS vD vKi vMe vOw 8 0).2 := by simp only [g_X6_whisper_row]
  have loop2_ : ∀ (n2_ j2_ : Nat), j2_ + n2_ = 8 → (L_X6_whisper_2 p0 row vP vS vD vKi vMe vOw n2_ j2_) = (L_X6_whisper_2 p0 row vP vS vD vKi vMe vOw 8 0) → ∀ (H : Heap) (locs : List Loc), va_P D vwCl [(s0, .inr (6, [.ref v0, .ref s1])), (s1, .inl (cI, 15, .inl row)), (v0, .inr (7, [.ref v1, .ref v2, .ref v3, .ref v4, .ref v5, .int vP, .int vS, .int vD])), (v1, .inl (cI, 6, .inl vAg)), (v2, .inl (cI, 6, .inl vKi)), (v3, .inl (cI, 6, .inl vMe)), (v4, .inl (cI, 8, .inl vOw)), (v5, .inl (cI, 8, .inl vFk))] H → va_D (va_A (wS cI cC cG s0 s1 v0 v1 v2 v3 v4 v5 row vP vS vD vAg vKi vMe vOw vFk) sz) [(s0, .inr (6, [.ref v0, .ref s1])), (s1, .inl (cI, 15, .inl row)), (v0, .inr (7, [.ref v1, .ref v2, .ref v3, .ref v4, .ref v5, .int vP, .int vS, .int vD])), (v1, .inl (cI, 6, .inl vAg)), (v2, .inl (cI, 6, .inl vKi)), (v3, .inl (cI, 6, .inl vMe)), (v4, .inl (cI, 8, .inl vOw)), (v5, .inl (cI, 8, .inl vFk))] → va_S (va_A (wS cI cC cG s0 s1 v0 v1 v2 v3 v4 v5 row vP vS vD vAg vKi vMe vOw vFk) sz) s.heap H locs → ∀ ls : Array Slot, lv_has ls 4 [(0, .ref s0), (1, .int p0), (2, .int (nI j2_))] → W p l e rm_X6_whisper s m ([.ref s0, .int p0] : List Value).toArray below meth c H locs 0 0 (MQ below (q_QWi D (wS cI cC cG s0 s1 v0 v1 v2 v3 v4 v5 row vP vS vD vAg vKi vMe vOw vFk) (wS cI cC cG s0 s1 v0 v1 v2 v3 v4 v5 (g_X6_whisper_row row vP vS vD vKi vMe vOw p0) vP vS vD vAg vKi vMe vOw vFk) sz (f_X6_whisper row vP vS vD vKi vMe vOw p0)) ([.ref s0, .int p0] : List Value).toArray s 0 0 (va_A (wS cI cC cG s0 s1 v0 v1 v2 v3 v4 v5 row vP vS vD vAg vKi vMe vOw vFk) sz)) (F0 m 2 ls []) := by
    intro n2_
    induction n2_ with
    | zero =>
      intro j2_ hj2_ hv2_ H locs hP hD hS ls hl
      obtain rfl : j2_ = 8 := by omega
      refine lv_iload_n hx hb dX6_whisper_2 rfl (lv_at hl 2 rfl) ?_
      refine lv_bipush (v := 8) hx hb dX6_whisper_3 (by decide) ?_
      refine lv_icmp_ge (tgt := 66) hx hb dX6_whisper_5 (by decide) (fun c_1 => ?_) (fun c_1 => ?_)
      rotate_left
      · exact absurd (nI_le (Nat.le_refl 8) (by decide)) c_1
      refine lv_iconst (v := 0) hx hb dX6_whisper_66 (by decide) ?_
      have e_2 : (g_X6_whisper_row row vP vS vD vKi vMe vOw p0) = row := by rw [ho2_0, ← hv2_]; simp only [L_X6_whisper_2]
      exact rw_iret hx hb hr hlocks hP hD hS (by rw [hr2_, ← hv2_]; simp only [L_X6_whisper_2]) (by rw [e_2]) dX6_whisper_67
    | succ n2_ ih2_ =>
      intro j2_ hj2_ hv2_ H locs hP hD hS ls hl
      refine lv_iload_n hx hb dX6_whisper_2 rfl (lv_at hl 2 rfl) ?_
      refine lv_bipush (v := 8) hx hb dX6_whisper_3 (by decide) ?_
      refine lv_icmp_ge (tgt := 66) hx hb dX6_whisper_5 (by decide) (fun c_3 => ?_) (fun c_3 => ?_)
      · exact absurd c_3 (nI_ge (b := 8) (by omega) (by decide))
      refine lv_aload_n hx hb dX6_whisper_8 rfl (lv_at hl 0 rfl) ?_
      refine lv_iload_n hx hb dX6_whisper_9 rfl (lv_at hl 1 rfl) ?_
      refine lv_iload_n hx hb dX6_whisper_10 rfl (lv_at hl 2 rfl) ?_
      refine ro_i (va_runV (As := [.int p0, .int (nI j2_)]) (rest := []) ⟨hx, hb, hml, hown, hts⟩ (c_X6_knows l D cI cC cG s0 s1 v0 v1 v2 v3 v4 v5 row vP vS vD vAg vKi vMe vOw vFk p0 (nI j2_)) (cwV 2 hts gX6_whisper_X6_knows rfl rfl rfl (by decide +kernel) ⟨Nat.le_of_ble_eq_true rfl, Nat.le_of_ble_eq_true rfl⟩) (q_preV hK hP hN [0, 1, 2, 3, 4, 5, 6, 7] rfl (ci := 6) (q0 := 0) rfl rfl) rfl rfl hl.1 rfl (lv_room (Nat.le_of_ble_eq_true rfl)) dX6_whisper_11 ⟨Nat.zero_le _, Nat.zero_le _⟩) hS hP (fun H locs hP hS => ?_)
      refine lv_if_eq (tgt := 60) hx hb dX6_whisper_14 (by decide) (fun c_4 => ?_) (fun c_4 => ?_)
      · refine lv_iinc (v := (nI (j2_ + 1))) (lv' := [(2, .int (nI (j2_ + 1))), (0, .ref s0), (1, .int p0)]) hx hb dX6_whisper_60 hl (k := 2) rfl (nI_1 _) (by decide) rfl (fun ls hl => ?_)
        refine lv_goto (tgt := 2) hx hb dX6_whisper_63 (by decide) ?_
        exact ih2_ (j2_ + 1) (by omega) (by rw [← hv2_]; simp only [L_X6_whisper_2, if_pos c_4]) _ _ hP hD hS _ (lv_sub hl [1, 2, 0] rfl)
      refine lv_aload_n hx hb dX6_whisper_17 rfl (lv_at hl 0 rfl) ?_
      refine va_get (D := D) (ci := 6) (v := .ref v0) (C := RX6) (T := TX6) (N := 2) hx hb hts hinX6 hown hK hP 0 rfl rfl 0 (by decide) hf15 (fun _ h9 => h9) rfl dX6_whisper_18 ?_
      refine lv_iload_n hx hb dX6_whisper_21 rfl (lv_at hl 2 rfl) ?_
      refine ro_i (va_runV (As := [.int (nI j2_)]) (rest := []) ⟨hx, hb, hml, hown, hts⟩ (c_X7_ownerOf l D cI cC cG v0 v1 v2 v3 v4 v5 vP vS vD vAg vKi vMe vOw vFk (nI j2_)) (cwV 1 hts gX6_whisper_X7_ownerOf rfl rfl rfl (by decide +kernel) ⟨Nat.le_of_ble_eq_true rfl, Nat.le_of_ble_eq_true rfl⟩) (q_preV hK hP hN [2, 3, 4, 5, 6, 7] rfl (ci := 7) (q0 := 2) rfl rfl) rfl rfl hl.1 rfl (lv_room (Nat.le_of_ble_eq_true rfl)) dX6_whisper_22 ⟨Nat.zero_le _, Nat.zero_le _⟩) hS hP (fun H locs hP hS => ?_)
      refine lv_iload_n hx hb dX6_whisper_25 rfl (lv_at hl 1 rfl) ?_
      refine lv_icmp_eq (tgt := 60) hx hb dX6_whisper_26 (by decide) (fun c_5 => ?_) (fun c_5 => ?_)
      · refine lv_iinc (v := (nI (j2_ + 1))) (lv' := [(2, .int (nI (j2_ + 1))), (0, .ref s0), (1, .int p0)]) hx hb dX6_whisper_60 hl (k := 2) rfl (nI_1 _) (by decide) rfl (fun ls hl => ?_)
        refine lv_goto (tgt := 2) hx hb dX6_whisper_63 (by decide) ?_
        exact ih2_ (j2_ + 1) (by omega) (by rw [← hv2_]; simp only [L_X6_whisper_2, if_neg c_4, if_pos c_5]) _ _ hP hD hS _ (lv_sub hl [1, 2, 0] rfl)
      refine lv_aload_n hx hb dX6_whisper_29 rfl (lv_at hl 0 rfl) ?_
      refine lv_iload_n hx hb dX6_whisper_30 rfl (lv_at hl 1 rfl) ?_
      refine ro_i (va_runV (As := [.int p0]) (rest := []) ⟨hx, hb, hml, hown, hts⟩ (c_X6_meetsOf l D cI cC cG s0 s1 v0 v1 v2 v3 v4 v5 row vP vS vD vAg vKi vMe vOw vFk p0) (cwV 1 hts gX6_whisper_X6_meetsOf rfl rfl rfl (by decide +kernel) ⟨Nat.le_of_ble_eq_true rfl, Nat.le_of_ble_eq_true rfl⟩) (q_preV hK hP hN [0, 1, 2, 3, 4, 5, 6, 7] rfl (ci := 6) (q0 := 0) rfl rfl) rfl rfl hl.1 rfl (lv_room (Nat.le_of_ble_eq_true rfl)) dX6_whisper_31 ⟨Nat.zero_le _, Nat.zero_le _⟩) hS hP (fun H locs hP hS => ?_)
      refine lv_aload_n hx hb dX6_whisper_34 rfl (lv_at hl 0 rfl) ?_
      refine lv_iload_n hx hb dX6_whisper_35 rfl (lv_at hl 2 rfl) ?_
      refine ro_i (va_runV (As := [.int (nI j2_)]) (rest := [.int (f_X6_meetsOf row vP vD vMe p0)]) ⟨hx, hb, hml, hown, hts⟩ (c_X6_knowersOf l D cI cC cG s0 s1 v0 v1 v2 v3 v4 v5 row vP vS vD vAg vKi vMe vOw vFk (nI j2_)) (cwV 1 hts gX6_whisper_X6_knowersOf rfl rfl rfl (by decide +kernel) ⟨Nat.le_of_ble_eq_true rfl, Nat.le_of_ble_eq_true rfl⟩) (q_preV hK hP hN [0, 1, 2, 3, 4, 5, 6, 7] rfl (ci := 6) (q0 := 0) rfl rfl) rfl rfl hl.1 rfl (lv_room (Nat.le_of_ble_eq_true rfl)) dX6_whisper_36 ⟨Nat.zero_le _, Nat.zero_le _⟩) hS hP (fun H locs hP hS => ?_)
      refine lv_iconst (v := (-1)) hx hb dX6_whisper_39 (by decide) ?_
      refine lv_ixor hx hb dX6_whisper_40 ?_
      refine lv_iand hx hb dX6_whisper_41 ?_
      refine lv_istore_n (lv' := [(3, .int ((f_X6_meetsOf row vP vD vMe p0) &&& ((f_X6_knowersOf row vS (nI j2_)) ^^^ (-1)))), (0, .ref s0), (1, .int p0), (2, .int (nI j2_))]) hx hb dX6_whisper_42 rfl hl (by decide) rfl (fun ls hl => ?_)
      refine lv_iload_n hx hb dX6_whisper_43 rfl (lv_at hl 0 rfl) ?_
      refine lv_if_eq (tgt := 60) hx hb dX6_whisper_44 (by decide) (fun c_6 => ?_) (fun c_6 => ?_)
      · refine lv_iinc (v := (nI (j2_ + 1))) (lv' := [(2, .int (nI (j2_ + 1))), (3, .int ((f_X6_meetsOf row vP vD vMe p0) &&& ((f_X6_knowersOf row vS (nI j2_)) ^^^ (-1)))), (0, .ref s0), (1, .int p0)]) hx hb dX6_whisper_60 hl (k := 3) rfl (nI_1 _) (by decide) rfl (fun ls hl => ?_)
        refine lv_goto (tgt := 2) hx hb dX6_whisper_63 (by decide) ?_
        exact ih2_ (j2_ + 1) (by omega) (by rw [← hv2_]; simp only [L_X6_whisper_2, if_neg c_4, if_neg c_5, if_pos c_6]) _ _ hP hD hS _ (lv_sub hl [2, 3, 0] rfl)
      refine lv_aload_n hx hb dX6_whisper_47 rfl (lv_at hl 1 rfl) ?_
      refine lv_iload_n hx hb dX6_whisper_48 rfl (lv_at hl 2 rfl) ?_
      refine lv_iload_n hx hb dX6_whisper_49 rfl (lv_at hl 3 rfl) ?_
      refine lv_iconst (v := 1) hx hb dX6_whisper_50 (by decide) ?_
      refine lv_iload_n hx hb dX6_whisper_51 rfl (lv_at hl 0 rfl) ?_
      refine ro_i (va_runSN (As := [.int ((f_X6_meetsOf row vP vD vMe p0) &&& ((f_X6_knowersOf row vS (nI j2_)) ^^^ (-1)))]) (rest := [.int 1, .int (nI j2_), .int p0, .ref s0]) ⟨hx, hb, hml, hown, hts⟩ (c_X8_lowestOf l D cI cC cG ((f_X6_meetsOf row vP vD vMe p0) &&& ((f_X6_knowersOf row vS (nI j2_)) ^^^ (-1)))) ⟨va_cnB 1 hts gX6_whisper_X8_lowestOf_n93 rfl rfl rfl (hN.at 8 rfl) hiniX8 (by decide +kernel) ⟨Nat.le_of_ble_eq_true rfl, Nat.le_of_ble_eq_true rfl⟩, hstX8_lowestOf, trivial⟩ (q_preS hK hP hN [] rfl) rfl rfl hl.1 rfl (lv_room (Nat.le_of_ble_eq_true rfl)) dX6_whisper_52 ⟨Nat.zero_le _, Nat.zero_le _⟩) hS hP (fun H locs hP hS => ?_)
      refine lv_ishl hx hb dX6_whisper_55 ?_
      refine rw_i0 (va_runV (As := [.int p0, .int (nI j2_), .int (1 <<< ((f_X8_lowestOf ((f_X6_meetsOf row vP vD vMe p0) &&& ((f_X6_knowersOf row vS (nI j2_)) ^^^ (-1)))) &&& 31))]) (rest := []) ⟨hx, hb, hml, hown, hts⟩ (c_X6_speak l D cI cC cG s0 s1 v0 v1 v2 v3 v4 v5 row vP vS vD vAg vKi vMe vOw vFk p0 (nI j2_) (1 <<< ((f_X8_lowestOf ((f_X6_meetsOf row vP vD vMe p0) &&& ((f_X6_knowersOf row vS (nI j2_)) ^^^ (-1)))) &&& 31)) H.size) (cwV 3 hts gX6_whisper_X6_speak rfl rfl rfl (by decide +kernel) ⟨Nat.le_of_ble_eq_true rfl, Nat.le_of_ble_eq_true rfl⟩) (q_preWV hK hP hD hN [0, 1, 2, 3, 4, 5, 6, 7] (by decide) rfl rfl (ci := 6) (q0 := 0) rfl rfl) rfl rfl hl.1 rfl (lv_room (Nat.le_of_ble_eq_true rfl)) dX6_whisper_56 ⟨Nat.zero_le _, Nat.zero_le _⟩) hS hA hD (fun H locs hP hD hS => ?_)
      have hP : va_P D vwCl [(s0, .inr (6, [.ref v0, .ref s1])), (s1, .inl (cI, 15, .inl (g_X6_speak_row row vP vS vD vKi vOw p0 (nI j2_) (1 <<< ((f_X8_lowestOf ((f_X6_meetsOf row vP vD vMe p0) &&& ((f_X6_knowersOf row vS (nI j2_)) ^^^ (-1)))) &&& 31))))), (v0, .inr (7, [.ref v1, .ref v2, .ref v3, .ref v4, .ref v5, .int vP, .int vS, .int vD])), (v1, .inl (cI, 6, .inl vAg)), (v2, .inl (cI, 6, .inl vKi)), (v3, .inl (cI, 6, .inl vMe)), (v4, .inl (cI, 8, .inl vOw)), (v5, .inl (cI, 8, .inl vFk))] H := hP
      have hD : va_D (va_A (wS cI cC cG s0 s1 v0 v1 v2 v3 v4 v5 row vP vS vD vAg vKi vMe vOw vFk) sz) [(s0, .inr (6, [.ref v0, .ref s1])), (s1, .inl (cI, 15, .inl (g_X6_speak_row row vP vS vD vKi vOw p0 (nI j2_) (1 <<< ((f_X8_lowestOf ((f_X6_meetsOf row vP vD vMe p0) &&& ((f_X6_knowersOf row vS (nI j2_)) ^^^ (-1)))) &&& 31))))), (v0, .inr (7, [.ref v1, .ref v2, .ref v3, .ref v4, .ref v5, .int vP, .int vS, .int vD])), (v1, .inl (cI, 6, .inl vAg)), (v2, .inl (cI, 6, .inl vKi)), (v3, .inl (cI, 6, .inl vMe)), (v4, .inl (cI, 8, .inl vOw)), (v5, .inl (cI, 8, .inl vFk))] := hD
      have e_7 : (g_X6_whisper_row row vP vS vD vKi vMe vOw p0) = (g_X6_speak_row row vP vS vD vKi vOw p0 (nI j2_) (1 <<< ((f_X8_lowestOf ((f_X6_meetsOf row vP vD vMe p0) &&& ((f_X6_knowersOf row vS (nI j2_)) ^^^ (-1)))) &&& 31))) := by rw [ho2_0, ← hv2_]; simp only [L_X6_whisper_2, if_neg c_4, if_neg c_5, if_neg c_6]
      exact rw_iret hx hb hr hlocks hP hD hS (by rw [hr2_, ← hv2_]; simp only [L_X6_whisper_2, if_neg c_4, if_neg c_5, if_neg c_6]) (by rw [e_7]) dX6_whisper_59
  exact loop2_ 8 0 (by omega) rfl _ _ hP hD hS _ (lv_sub hl [1, 2, 0] rfl)
def F_X6_passDay_4 (vP : Int32) (vS : Int32) (vD : Int32) (vKi : Nat → Int32) (vMe : Nat → Int32) (vOw : Nat → Int32) (i0_ : Int32) (i1_ : Nat → Int32) : Nat → Int32 × (Nat → Int32)
  | 0 => (i0_, i1_)
  | j4_ + 1 => (if (f_X6_isAlive (F_X6_passDay_4 vP vS vD vKi vMe vOw i0_ i1_ j4_).2 vP vD (nI j4_)) = 0 then ((F_X6_passDay_4 vP vS vD vKi vMe vOw i0_ i1_ j4_).1, (F_X6_passDay_4 vP vS vD vKi vMe vOw i0_ i1_ j4_).2) else (((F_X6_passDay_4 vP vS vD vKi vMe vOw i0_ i1_ j4_).1 + (f_X6_whisper (F_X6_passDay_4 vP vS vD vKi vMe vOw i0_ i1_ j4_).2 vP vS vD vKi vMe vOw (nI j4_))), (g_X6_whisper_row (F_X6_passDay_4 vP vS vD vKi vMe vOw i0_ i1_ j4_).2 vP vS vD vKi vMe vOw (nI j4_))))
def f_X6_passDay (row : Nat → Int32) (vP : Int32) (vS : Int32) (vD : Int32) (vKi : Nat → Int32) (vMe : Nat → Int32) (vOw : Nat → Int32) : Int32 := (F_X6_passDay_4 vP vS vD vKi vMe vOw 0 row 6).1
def g_X6_passDay_row (row : Nat → Int32) (vP : Int32) (vS : Int32) (vD : Int32) (vKi : Nat → Int32) (vMe : Nat → Int32) (vOw : Nat → Int32) : Nat → Int32 := (upd ((F_X6_passDay_4 vP vS vD vKi vMe vOw 0 row 6).2) 14 ((((F_X6_passDay_4 vP vS vD vKi vMe vOw 0 row 6).2) 14) + 1))
abbrev rm_X6_passDay : Room := { frames := 5, cells := 0, slots := 0, locals := 115 }
set_option maxRecDepth 100000 in
set_option maxHeartbeats 4000000 in
theorem c_X6_passDay (l : Launch) (D : va_G) (cI cC cG : ClassId) (s0 : Nat) (s1 : Nat) (v0 : Nat) (v1 : Nat) (v2 : Nat) (v3 : Nat) (v4 : Nat) (v5 : Nat) (row : Nat → Int32) (vP : Int32) (vS : Int32) (vD : Int32) (vAg : Nat → Int32) (vKi : Nat → Int32) (vMe : Nat → Int32) (vOw : Nat → Int32) (vFk : Nat → Int32) (sz : Nat) : RwI l yX6_passDay wsX6_passDay rm_X6_passDay D (q_t cI cC cG) (wS cI cC cG s0 s1 v0 v1 v2 v3 v4 v5 row vP vS vD vAg vKi vMe vOw vFk) (wS cI cC cG s0 s1 v0 v1 v2 v3 v4 v5 (g_X6_passDay_row row vP vS vD vKi vMe vOw) vP vS vD vAg vKi vMe vOw vFk) sz [.ref s0] (f_X6_passDay row vP vS vD vKi vMe vOw) := by
  refine rw_enter (cc := cX6_passDay) (maxL := 3) (ret := (some .int)) (by decide) rfl (Nat.le_of_ble_eq_true rfl) ?_
  intro p e s m below meth c ls B hP hK hD hS hA hl
  obtain ⟨hx, hb, hr, hlocks, hml, hown, hts, hN⟩ := B
  have hown : s.vm.findClass RX6 = some m.cls := hown
  have hl : lv_has ls 3 [(0, .ref s0)] := hl
  have hf11 := hts (.fieldLink RX6 11 "OlderByABlush$Standing" "row" "[I") (by decide +kernel)
  have hinX6 : ∀ w ∈ u_ws RX6 TX6 2, w ∈ wsX6_passDay := by decide +kernel
  refine lv_iconst (v := 0) hx hb dX6_passDay_0 (by decide) ?_
  refine lv_istore_n (lv' := [(1, .int 0), (0, .ref s0)]) hx hb dX6_passDay_1 rfl hl (by decide) rfl (fun ls hl => ?_)
  refine lv_iconst (v := 0) hx hb dX6_passDay_2 (by decide) ?_
  refine lv_istore_n (lv' := [(2, .int 0), (1, .int 0), (0, .ref s0)]) hx hb dX6_passDay_3 rfl hl (by decide) rfl (fun ls hl => ?_)
  have K4_ : ∀ (H : Heap) (locs : List Loc), va_P D vwCl [(s0, .inr (6, [.ref v0, .ref s1])), (s1, .inl (cI, 15, .inl ((F_X6_passDay_4 vP vS vD vKi vMe vOw 0 row 6).2))), (v0, .inr (7, [.ref v1, .ref v2, .ref v3, .ref v4, .ref v5, .int vP, .int vS, .int vD])), (v1, .inl (cI, 6, .inl vAg)), (v2, .inl (cI, 6, .inl vKi)), (v3, .inl (cI, 6, .inl vMe)), (v4, .inl (cI, 8, .inl vOw)), (v5, .inl (cI, 8, .inl vFk))] H → va_D (va_A (wS cI cC cG s0 s1 v0 v1 v2 v3 v4 v5 row vP vS vD vAg vKi vMe vOw vFk) sz) [(s0, .inr (6, [.ref v0, .ref s1])), (s1, .inl (cI, 15, .inl ((F_X6_passDay_4 vP vS vD vKi vMe vOw 0 row 6).2))), (v0, .inr (7, [.ref v1, .ref v2, .ref v3, .ref v4, .ref v5, .int vP, .int vS, .int vD])), (v1, .inl (cI, 6, .inl vAg)), (v2, .inl (cI, 6, .inl vKi)), (v3, .inl (cI, 6, .inl vMe)), (v4, .inl (cI, 8, .inl vOw)), (v5, .inl (cI, 8, .inl vFk))] → va_S (va_A (wS cI cC cG s0 s1 v0 v1 v2 v3 v4 v5 row vP vS vD vAg vKi vMe vOw vFk) sz) s.heap H locs → ∀ ls : Array Slot, lv_has ls 3 [(0, .ref s0), (1, .int ((F_X6_passDay_4 vP vS vD vKi vMe vOw 0 row 6).1))] → W p l e rm_X6_passDay s m ([.ref s0] : List Value).toArray below meth c H locs 0 0 (MQ below (q_QWi D (wS cI cC cG s0 s1 v0 v1 v2 v3 v4 v5 row vP vS vD vAg vKi vMe vOw vFk) (wS cI cC cG s0 s1 v0 v1 v2 v3 v4 v5 (g_X6_passDay_row row vP vS vD vKi vMe vOw) vP vS vD vAg vKi vMe vOw vFk) sz (f_X6_passDay row vP vS vD vKi vMe vOw)) ([.ref s0] : List Value).toArray s 0 0 (va_A (wS cI cC cG s0 s1 v0 v1 v2 v3 v4 v5 row vP vS vD vAg vKi vMe vOw vFk) sz)) (F0 m 32 ls []) := by
    intro H locs hP hD hS ls hl
    refine lv_aload_n hx hb dX6_passDay_32 rfl (lv_at hl 0 rfl) ?_
    refine va_get (D := D) (ci := 6) (v := .ref s1) (C := RX6) (T := TX6) (N := 2) hx hb hts hinX6 hown hK hP 0 rfl rfl 1 (by decide) hf11 (fun _ h9 => h9) rfl dX6_passDay_33 ?_
    refine lv_bipush (v := 14) hx hb dX6_passDay_36 (by decide) ?_
    refine lv_dup2_11 hx hb dX6_passDay_38 rfl rfl ?_
    refine q_iald hx hb hK hP 1 0 rfl rfl (vp_in_nI (n := 14) (N := 15) (by decide) (by decide)) 14 (by decide) dX6_passDay_39 ?_
    refine lv_iconst (v := 1) hx hb dX6_passDay_40 (by decide) ?_
    refine lv_iadd hx hb dX6_passDay_41 ?_
    refine q_iast hx hb hK hP hD hS 1 0 rfl rfl (vp_in_nI (n := 14) (N := 15) (by decide) (by decide)) 14 (by decide) dX6_passDay_42 (fun H locs hP hD hS => ?_)
    have hP : va_P D vwCl [(s0, .inr (6, [.ref v0, .ref s1])), (s1, .inl (cI, 15, .inl (upd ((F_X6_passDay_4 vP vS vD vKi vMe vOw 0 row 6).2) 14 ((((F_X6_passDay_4 vP vS vD vKi vMe vOw 0 row 6).2) 14) + 1)))), (v0, .inr (7, [.ref v1, .ref v2, .ref v3, .ref v4, .ref v5, .int vP, .int vS, .int vD])), (v1, .inl (cI, 6, .inl vAg)), (v2, .inl (cI, 6, .inl vKi)), (v3, .inl (cI, 6, .inl vMe)), (v4, .inl (cI, 8, .inl vOw)), (v5, .inl (cI, 8, .inl vFk))] H := hP
    have hD : va_D (va_A (wS cI cC cG s0 s1 v0 v1 v2 v3 v4 v5 row vP vS vD vAg vKi vMe vOw vFk) sz) [(s0, .inr (6, [.ref v0, .ref s1])), (s1, .inl (cI, 15, .inl (upd ((F_X6_passDay_4 vP vS vD vKi vMe vOw 0 row 6).2) 14 ((((F_X6_passDay_4 vP vS vD vKi vMe vOw 0 row 6).2) 14) + 1)))), (v0, .inr (7, [.ref v1, .ref v2, .ref v3, .ref v4, .ref v5, .int vP, .int vS, .int vD])), (v1, .inl (cI, 6, .inl vAg)), (v2, .inl (cI, 6, .inl vKi)), (v3, .inl (cI, 6, .inl vMe)), (v4, .inl (cI, 8, .inl vOw)), (v5, .inl (cI, 8, .inl vFk))] := hD
    refine lv_iload_n hx hb dX6_passDay_43 rfl (lv_at hl 1 rfl) ?_
    have e_1 : (g_X6_passDay_row row vP vS vD vKi vMe vOw) = (upd ((F_X6_passDay_4 vP vS vD vKi vMe vOw 0 row 6).2) 14 ((((F_X6_passDay_4 vP vS vD vKi vMe vOw 0 row 6).2) 14) + 1)) := by simp only [g_X6_passDay_row]
    exact rw_iret hx hb hr hlocks hP hD hS (by simp only [f_X6_passDay]) (by rw [e_1]) dX6_passDay_44
  have loop4_ : ∀ (n4_ j4_ : Nat), j4_ + n4_ = 6 → ∀ (H : Heap) (locs : List Loc), va_P D vwCl [(s0, .inr (6, [.ref v0, .ref s1])), (s1, .inl (cI, 15, .inl ((F_X6_passDay_4 vP vS vD vKi vMe vOw 0 row j4_).2))), (v0, .inr (7, [.ref v1, .ref v2, .ref v3, .ref v4, .ref v5, .int vP, .int vS, .int vD])), (v1, .inl (cI, 6, .inl vAg)), (v2, .inl (cI, 6, .inl vKi)), (v3, .inl (cI, 6, .inl vMe)), (v4, .inl (cI, 8, .inl vOw)), (v5, .inl (cI, 8, .inl vFk))] H → va_D (va_A (wS cI cC cG s0 s1 v0 v1 v2 v3 v4 v5 row vP vS vD vAg vKi vMe vOw vFk) sz) [(s0, .inr (6, [.ref v0, .ref s1])), (s1, .inl (cI, 15, .inl ((F_X6_passDay_4 vP vS vD vKi vMe vOw 0 row j4_).2))), (v0, .inr (7, [.ref v1, .ref v2, .ref v3, .ref v4, .ref v5, .int vP, .int vS, .int vD])), (v1, .inl (cI, 6, .inl vAg)), (v2, .inl (cI, 6, .inl vKi)), (v3, .inl (cI, 6, .inl vMe)), (v4, .inl (cI, 8, .inl vOw)), (v5, .inl (cI, 8, .inl vFk))] → va_S (va_A (wS cI cC cG s0 s1 v0 v1 v2 v3 v4 v5 row vP vS vD vAg vKi vMe vOw vFk) sz) s.heap H locs → ∀ ls : Array Slot, lv_has ls 3 [(0, .ref s0), (1, .int ((F_X6_passDay_4 vP vS vD vKi vMe vOw 0 row j4_).1)), (2, .int (nI j4_))] → W p l e rm_X6_passDay s m ([.ref s0] : List Value).toArray below meth c H locs 0 0 (MQ below (q_QWi D (wS cI cC cG s0 s1 v0 v1 v2 v3 v4 v5 row vP vS vD vAg vKi vMe vOw vFk) (wS cI cC cG s0 s1 v0 v1 v2 v3 v4 v5 (g_X6_passDay_row row vP vS vD vKi vMe vOw) vP vS vD vAg vKi vMe vOw vFk) sz (f_X6_passDay row vP vS vD vKi vMe vOw)) ([.ref s0] : List Value).toArray s 0 0 (va_A (wS cI cC cG s0 s1 v0 v1 v2 v3 v4 v5 row vP vS vD vAg vKi vMe vOw vFk) sz)) (F0 m 4 ls []) := by
    intro n4_
    induction n4_ with
    | zero =>
      intro j4_ hj4_ H locs hP hD hS ls hl
      obtain rfl : j4_ = 6 := by omega
      refine lv_iload_n hx hb dX6_passDay_4 rfl (lv_at hl 2 rfl) ?_
      refine lv_bipush (v := 6) hx hb dX6_passDay_5 (by decide) ?_
      refine lv_icmp_ge (tgt := 32) hx hb dX6_passDay_7 (by decide) (fun c_2 => ?_) (fun c_2 => ?_)
      rotate_left
      · exact absurd (nI_le (Nat.le_refl 6) (by decide)) c_2
      exact K4_ _ _ hP hD hS _ (lv_sub hl [0, 1] rfl)
    | succ n4_ ih4_ =>
      intro j4_ hj4_ H locs hP hD hS ls hl
      refine lv_iload_n hx hb dX6_passDay_4 rfl (lv_at hl 2 rfl) ?_
      refine lv_bipush (v := 6) hx hb dX6_passDay_5 (by decide) ?_
      refine lv_icmp_ge (tgt := 32) hx hb dX6_passDay_7 (by decide) (fun c_3 => ?_) (fun c_3 => ?_)
      · exact absurd c_3 (nI_ge (b := 6) (by omega) (by decide))
      refine lv_aload_n hx hb dX6_passDay_10 rfl (lv_at hl 0 rfl) ?_
      refine lv_iload_n hx hb dX6_passDay_11 rfl (lv_at hl 2 rfl) ?_
      refine ro_i (va_runV (As := [.int (nI j4_)]) (rest := []) ⟨hx, hb, hml, hown, hts⟩ (c_X6_isAlive l D cI cC cG s0 s1 v0 v1 v2 v3 v4 v5 ((F_X6_passDay_4 vP vS vD vKi vMe vOw 0 row j4_).2) vP vS vD vAg vKi vMe vOw vFk (nI j4_)) (cwV 1 hts gX6_passDay_X6_isAlive rfl rfl rfl (by decide +kernel) ⟨Nat.le_of_ble_eq_true rfl, Nat.le_of_ble_eq_true rfl⟩) (q_preV hK hP hN [0, 1, 2, 3, 4, 5, 6, 7] rfl (ci := 6) (q0 := 0) rfl rfl) rfl rfl hl.1 rfl (lv_room (Nat.le_of_ble_eq_true rfl)) dX6_passDay_12 ⟨Nat.zero_le _, Nat.zero_le _⟩) hS hP (fun H locs hP hS => ?_)
      refine lv_if_eq (tgt := 26) hx hb dX6_passDay_15 (by decide) (fun c_4 => ?_) (fun c_4 => ?_)
      · refine lv_iinc (v := (nI (j4_ + 1))) (lv' := [(2, .int (nI (j4_ + 1))), (0, .ref s0), (1, .int ((F_X6_passDay_4 vP vS vD vKi vMe vOw 0 row j4_).1))]) hx hb dX6_passDay_26 hl (k := 2) rfl (nI_1 _) (by decide) rfl (fun ls hl => ?_)
        refine lv_goto (tgt := 4) hx hb dX6_passDay_29 (by decide) ?_
        have e_5 : (F_X6_passDay_4 vP vS vD vKi vMe vOw 0 row (j4_ + 1)) = ((F_X6_passDay_4 vP vS vD vKi vMe vOw 0 row j4_).1, (F_X6_passDay_4 vP vS vD vKi vMe vOw 0 row j4_).2) := by simp only [F_X6_passDay_4, if_pos c_4]
        exact ih4_ (j4_ + 1) (by omega) _ _ (by rw [e_5]; exact hP) (by rw [e_5]; exact hD) hS _ (by rw [e_5]; exact (lv_sub hl [1, 2, 0] rfl))
      refine lv_iload_n hx hb dX6_passDay_18 rfl (lv_at hl 1 rfl) ?_
      refine lv_aload_n hx hb dX6_passDay_19 rfl (lv_at hl 0 rfl) ?_
      refine lv_iload_n hx hb dX6_passDay_20 rfl (lv_at hl 2 rfl) ?_
      refine rw_i0 (va_runV (As := [.int (nI j4_)]) (rest := [.int ((F_X6_passDay_4 vP vS vD vKi vMe vOw 0 row j4_).1)]) ⟨hx, hb, hml, hown, hts⟩ (c_X6_whisper l D cI cC cG s0 s1 v0 v1 v2 v3 v4 v5 ((F_X6_passDay_4 vP vS vD vKi vMe vOw 0 row j4_).2) vP vS vD vAg vKi vMe vOw vFk (nI j4_) H.size) (cwV 1 hts gX6_passDay_X6_whisper rfl rfl rfl (by decide +kernel) ⟨Nat.le_of_ble_eq_true rfl, Nat.le_of_ble_eq_true rfl⟩) (q_preWV hK hP hD hN [0, 1, 2, 3, 4, 5, 6, 7] (by decide) rfl rfl (ci := 6) (q0 := 0) rfl rfl) rfl rfl hl.1 rfl (lv_room (Nat.le_of_ble_eq_true rfl)) dX6_passDay_21 ⟨Nat.zero_le _, Nat.zero_le _⟩) hS hA hD (fun H locs hP hD hS => ?_)
      have hP : va_P D vwCl [(s0, .inr (6, [.ref v0, .ref s1])), (s1, .inl (cI, 15, .inl (g_X6_whisper_row ((F_X6_passDay_4 vP vS vD vKi vMe vOw 0 row j4_).2) vP vS vD vKi vMe vOw (nI j4_)))), (v0, .inr (7, [.ref v1, .ref v2, .ref v3, .ref v4, .ref v5, .int vP, .int vS, .int vD])), (v1, .inl (cI, 6, .inl vAg)), (v2, .inl (cI, 6, .inl vKi)), (v3, .inl (cI, 6, .inl vMe)), (v4, .inl (cI, 8, .inl vOw)), (v5, .inl (cI, 8, .inl vFk))] H := hP
      have hD : va_D (va_A (wS cI cC cG s0 s1 v0 v1 v2 v3 v4 v5 row vP vS vD vAg vKi vMe vOw vFk) sz) [(s0, .inr (6, [.ref v0, .ref s1])), (s1, .inl (cI, 15, .inl (g_X6_whisper_row ((F_X6_passDay_4 vP vS vD vKi vMe vOw 0 row j4_).2) vP vS vD vKi vMe vOw (nI j4_)))), (v0, .inr (7, [.ref v1, .ref v2, .ref v3, .ref v4, .ref v5, .int vP, .int vS, .int vD])), (v1, .inl (cI, 6, .inl vAg)), (v2, .inl (cI, 6, .inl vKi)), (v3, .inl (cI, 6, .inl vMe)), (v4, .inl (cI, 8, .inl vOw)), (v5, .inl (cI, 8, .inl vFk))] := hD
      refine lv_iadd hx hb dX6_passDay_24 ?_
      refine lv_istore_n (lv' := [(1, .int ((F_X6_passDay_4 vP vS vD vKi vMe vOw 0 row j4_).1 + (f_X6_whisper ((F_X6_passDay_4 vP vS vD vKi vMe vOw 0 row j4_).2) vP vS vD vKi vMe vOw (nI j4_)))), (0, .ref s0), (2, .int (nI j4_))]) hx hb dX6_passDay_25 rfl hl (by decide) rfl (fun ls hl => ?_)
      refine lv_iinc (v := (nI (j4_ + 1))) (lv' := [(2, .int (nI (j4_ + 1))), (1, .int ((F_X6_passDay_4 vP vS vD vKi vMe vOw 0 row j4_).1 + (f_X6_whisper ((F_X6_passDay_4 vP vS vD vKi vMe vOw 0 row j4_).2) vP vS vD vKi vMe vOw (nI j4_)))), (0, .ref s0)]) hx hb dX6_passDay_26 hl (k := 2) rfl (nI_1 _) (by decide) rfl (fun ls hl => ?_)
      refine lv_goto (tgt := 4) hx hb dX6_passDay_29 (by decide) ?_
      have e_6 : (F_X6_passDay_4 vP vS vD vKi vMe vOw 0 row (j4_ + 1)) = (((F_X6_passDay_4 vP vS vD vKi vMe vOw 0 row j4_).1 + (f_X6_whisper ((F_X6_passDay_4 vP vS vD vKi vMe vOw 0 row j4_).2) vP vS vD vKi vMe vOw (nI j4_))), (g_X6_whisper_row ((F_X6_passDay_4 vP vS vD vKi vMe vOw 0 row j4_).2) vP vS vD vKi vMe vOw (nI j4_))) := by simp only [F_X6_passDay_4, if_neg c_4]
      exact ih4_ (j4_ + 1) (by omega) _ _ (by rw [e_6]; exact hP) (by rw [e_6]; exact hD) hS _ (by rw [e_6]; exact (lv_sub hl [2, 1, 0] rfl))
  exact loop4_ 6 0 (by omega) _ _ hP hD hS _ (lv_sub hl [2, 1, 0] rfl)
