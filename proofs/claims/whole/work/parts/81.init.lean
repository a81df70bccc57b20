def i_tx : List Nat := [112, 50, 48, 44, 48, 59, 112, 53, 44, 49, 59, 112, 51, 48, 44, 50, 59, 112, 56, 44, 52, 59, 112, 49, 50, 44, 51, 59, 109, 48, 44, 49, 59, 109, 49, 44, 50, 59, 109, 50, 44, 51, 59, 109, 48, 44, 51, 59, 109, 51, 44, 52, 59, 115, 48, 44, 48, 59, 115, 49, 44, 49, 59, 115, 50, 44, 48, 59, 115, 52, 44, 56, 59, 115, 48, 44, 49, 54, 59]
def i_c (k : Nat) : Nat := i_tx.getD k 0
theorem i_ch : ∀ k, k < 79 → vp_nar .char (q_ch k) = nI (i_c k) ∧ i_c k < 127 := by decide +kernel
theorem i_F (n : Nat) (hn : n ≤ 79) : (F_X8_init_138 0 (fun _ => 0) n).1 = nI n ∧ (∀ k, k < n → (F_X8_init_138 0 (fun _ => 0) n).2 k = nI (i_c k)) ∧ isC (F_X8_init_138 0 (fun _ => 0) n).2 := by
  induction n with
  | zero => exact ⟨rfl, fun k hk => absurd hk (Nat.not_lt_zero _), fun k => rfl⟩
  | succ n ih =>
    obtain ⟨h1, h2, h3⟩ := ih (by omega)
    rw [F_X8_init_138]
    refine ⟨?_, fun k hk => ?_, add_isC h3⟩
    · show g_X3_add_tN (F_X8_init_138 0 (fun _ => 0) n).1 = _
      rw [h1]; unfold g_X3_add_tN
      rw [if_neg (nI_pos (by omega)), if_pos (show nI n < 200 from nI_lt (b := 200) (by omega) (by decide)), nI_1]
    · show g_X3_add_tL (F_X8_init_138 0 (fun _ => 0) n).1 (F_X8_init_138 0 (fun _ => 0) n).2 (q_ch n) k = _
      rw [h1]; unfold g_X3_add_tL
      rw [if_neg (nI_pos (by omega)), if_pos (show nI n < 200 from nI_lt (b := 200) (by omega) (by decide)), nI_clamp (by omega)]
      unfold upd
      by_cases e : k = n
      · rw [if_pos e, e, (i_ch n (by omega)).1]
      · rw [if_neg e]; exact h2 k (by omega)
theorem i_T : Tx (F_X8_init_138 0 (fun _ => 0) 79).1 (F_X8_init_138 0 (fun _ => 0) 79).2 79 (F_X8_init_138 0 (fun _ => 0) 79).2 i_c := by
  obtain ⟨h1, h2, -⟩ := i_F 79 (Nat.le_refl _)
  exact ⟨h1, by decide, fun k hk => ⟨(i_ch k hk).2, h2 k hk, h2 k hk⟩⟩
theorem i_st {tN : Int32} {tL : Nat → Int32} (hT : Tx tN tL 79 tL i_c) (m j : Nat) (rn P S D : Int32) (A K M O F : Nat → Int32) : L_X2_readAll_11 tN tL (m + 1) j (nI 79) rn P S D A K M O F = (-4, nI 79, rn, P, S, D, A, K, M, O, F) := by
  rw [L_X2_readAll_11, f_X3_size, if_pos (show tN ≤ nI 79 by rw [hT.1]; exact Int32.le_refl _)]
/-- what the text tells, step by step -/
theorem i_run {tN : Int32} {tL : Nat → Int32} (hT : Tx tN tL 79 tL i_c) (rn : Int32) (vAg vKi vMe vOw vFk : Nat → Int32) : DR 5 5 (g_X2_readAll_vP rn tN tL vAg vKi vMe vOw vFk) (g_X2_readAll_vS rn tN tL vAg vKi vMe vOw vFk) (g_X2_readAll_vD rn tN tL vAg vKi vMe vOw vFk) (g_X2_readAll_vAg rn tN tL vAg vKi vMe vOw vFk) (g_X2_readAll_vKi rn tN tL vAg vKi vMe vOw vFk) (g_X2_readAll_vMe rn tN tL vAg vKi vMe vOw vFk) (g_X2_readAll_vOw rn tN tL vAg vKi vMe vOw vFk) (g_X2_readAll_vFk rn tN tL vAg vKi vMe vOw vFk) h_X9_init_3 := by
  have e0 : L_X2_readAll_11 tN tL 200 0 0 rn g_X7_clear_vP g_X7_clear_vS g_X7_clear_vD vAg vKi vMe vOw vFk = L_X2_readAll_11 tN tL 200 0 (nI 0) rn 0 0 80 vAg vKi vMe vOw vFk := rfl
  have d0 := dr_0 vAg vKi vMe vOw vFk (fun _ => 0)
  obtain ⟨_, _, _, _, _, _, _, _, _, e1, d1⟩ := (go_p (v := 20) (w := 0) (e := 6) (a := 0) hT d0 (by decide) (by decide) (by decide) (by decide) (by decide) (by decide)).1 199 0 rn
  obtain ⟨_, _, _, _, _, _, _, _, _, e2, d2⟩ := (go_p (v := 5) (w := 1) (e := 11) (a := 6) hT d1 (by decide) (by decide) (by decide) (by decide) (by decide) (by decide)).1 198 1 _
  obtain ⟨_, _, _, _, _, _, _, _, _, e3, d3⟩ := (go_p (v := 30) (w := 2) (e := 17) (a := 11) hT d2 (by decide) (by decide) (by decide) (by decide) (by decide) (by decide)).1 197 2 _
  obtain ⟨_, _, _, _, _, _, _, _, _, e4, d4⟩ := (go_p (v := 8) (w := 4) (e := 22) (a := 17) hT d3 (by decide) (by decide) (by decide) (by decide) (by decide) (by decide)).1 196 3 _
  obtain ⟨_, _, _, _, _, _, _, _, _, e5, d5⟩ := (go_p (v := 12) (w := 3) (e := 28) (a := 22) hT d4 (by decide) (by decide) (by decide) (by decide) (by decide) (by decide)).1 195 4 _
  obtain ⟨_, _, _, _, _, _, _, _, _, e6, d6⟩ := (go_m (v := 0) (w := 1) (e := 33) (a := 28) hT d5 (by decide) (by decide) (by decide) (by decide) (by decide) (by decide)).1 194 5 _
  obtain ⟨_, _, _, _, _, _, _, _, _, e7, d7⟩ := (go_m (v := 1) (w := 2) (e := 38) (a := 33) hT d6 (by decide) (by decide) (by decide) (by decide) (by decide) (by decide)).1 193 6 _
  obtain ⟨_, _, _, _, _, _, _, _, _, e8, d8⟩ := (go_m (v := 2) (w := 3) (e := 43) (a := 38) hT d7 (by decide) (by decide) (by decide) (by decide) (by decide) (by decide)).1 192 7 _
  obtain ⟨_, _, _, _, _, _, _, _, _, e9, d9⟩ := (go_m (v := 0) (w := 3) (e := 48) (a := 43) hT d8 (by decide) (by decide) (by decide) (by decide) (by decide) (by decide)).1 191 8 _
  obtain ⟨_, _, _, _, _, _, _, _, _, e10, d10⟩ := (go_m (v := 3) (w := 4) (e := 53) (a := 48) hT d9 (by decide) (by decide) (by decide) (by decide) (by decide) (by decide)).1 190 9 _
  obtain ⟨_, _, _, _, _, _, _, _, _, e11, d11⟩ := (go_s (v := 0) (w := 0) (e := 58) (a := 53) hT d10 (by decide) (by decide) (by decide) (by decide) (by decide) (by decide)).1 189 10 _
  obtain ⟨_, _, _, _, _, _, _, _, _, e12, d12⟩ := (go_s (v := 1) (w := 1) (e := 63) (a := 58) hT d11 (by decide) (by decide) (by decide) (by decide) (by decide) (by decide)).1 188 11 _
  obtain ⟨_, _, _, _, _, _, _, _, _, e13, d13⟩ := (go_s (v := 2) (w := 0) (e := 68) (a := 63) hT d12 (by decide) (by decide) (by decide) (by decide) (by decide) (by decide)).1 187 12 _
  obtain ⟨_, _, _, _, _, _, _, _, _, e14, d14⟩ := (go_s (v := 4) (w := 8) (e := 73) (a := 68) hT d13 (by decide) (by decide) (by decide) (by decide) (by decide) (by decide)).1 186 13 _
  obtain ⟨_, _, _, _, _, _, _, _, _, e15, d15⟩ := (go_s (v := 0) (w := 16) (e := 79) (a := 73) hT d14 (by decide) (by decide) (by decide) (by decide) (by decide) (by decide)).1 185 14 _
  have e16 := ((((((((((((((((e0.trans e1).trans e2).trans e3).trans e4).trans e5).trans e6).trans e7).trans e8).trans e9).trans e10).trans e11).trans e12).trans e13).trans e14).trans e15).trans (i_st hT 184 _ _ _ _ _ _ _ _ _ _))
  unfold g_X2_readAll_vP g_X2_readAll_vS g_X2_readAll_vD g_X2_readAll_vAg g_X2_readAll_vKi g_X2_readAll_vMe g_X2_readAll_vOw g_X2_readAll_vFk
  rw [e16]
  exact d15
theorem inv_init : Inv g_X3_clear_tN ((F_X8_init_138 0 (fun _ => 0) 79).2) h_X8_init_4_5 h_X8_init_4_6 h_X8_init_4_7 h_X8_init_6 h_X8_init_7 h_X8_init_8 h_X8_init_17 0 (fun _ => 0) (fun _ => 0) (fun _ => 0) (fun _ => 0) (fun _ => 0) (fun _ => 0) (fun _ => 0) (fun _ => 0) 0 (fun _ => 0) (fun _ => 0) 0 (fun _ => 0) (fun _ => 0) 0 (fun _ => 0) (fun _ => 0) (fun _ => 0) 0 g_X9_lays_mKn g_X9_lays_mKe g_X9_lays_mCa g_X9_lays_mSe (fun _ => 0) h_X9_init_2 h_X9_init_4 (fun _ => 0) (fun _ => 0) (fun _ => 0) (fun _ => 0) := by
  have hD := i_run i_T 0 (fun _ => 0) (fun _ => 0) (fun _ => 0) (fun _ => 0) (fun _ => 0)
  have hm : ∀ k, k < 37 → h_X9_init_2 k = h_X9_init_3 k := fun k hk => by
    show F_X9_lays_2 h_X9_init_3 (fun _ => 0) 37 k = _
    rw [b_la, if_pos hk]
  obtain ⟨d, hv⟩ := dr_V hD (by decide) hm
  refine ⟨⟨rfl, by decide, (i_F 79 (Nat.le_refl _)).2.2, fun k hk => absurd hk (Nat.not_lt_zero _)⟩, 5, 5, d, hv, dr_S hD hm (fun _ => 0) (fun _ => 0), ⟨rfl, by decide, fun r hr => absurd hr (Nat.not_lt_zero _), fun r hr => absurd hr (Nat.not_lt_zero _)⟩, ⟨rfl, by decide, fun r hr => absurd hr (Nat.not_lt_zero _), fun r hr => absurd hr (Nat.not_lt_zero _)⟩, ⟨rfl, by decide, fun r hr => absurd hr (Nat.not_lt_zero _), fun k hk => ?_⟩, ⟨rfl, by decide, fun r hr => absurd hr (Nat.not_lt_zero _)⟩⟩
  exact vp_in_nI (n := 0) (by decide) (by decide)
