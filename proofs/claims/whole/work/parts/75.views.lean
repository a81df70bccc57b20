/-! what one knows, what is his, shelves, trials -/
theorem v_in {N : Nat} {a M : Int32} (hM : M = nI N) (hN : N < 2 ^ 31) : (f_X9_in a 0 M = 0 ∧ (a < 0 ∨ (¬ a < 0 ∧ M < a))) ∨ ∃ j : Nat, j ≤ N ∧ a = nI j ∧ f_X9_in a 0 M = 1 ∧ ¬ a < 0 ∧ ¬ M < a ∧ a ≤ M := by
  subst hM
  unfold f_X9_in
  by_cases c : a < 0
  · left; exact ⟨if_pos c, .inl c⟩
  · obtain ⟨j, hj, rfl⟩ := nI_of c
    rcases Nat.lt_or_ge N j with w | w
    · left; rw [if_neg c]; exact ⟨if_pos (nI_lt w hj), .inr ⟨c, nI_lt w hj⟩⟩
    · right; exact ⟨j, w, rfl, by rw [if_neg c, if_neg (nI_nlt w hN)], c, nI_nlt w hN, nI_le w hN⟩
theorem v_IvS {p q : Nat} {row mTo st st' : Nat → Int32} (hq : q ≤ 8) (h : IvS p q row mTo st) (e : ∀ k, k < 15 → st' k = st k) : IvS p q row mTo st' := ⟨fun k hk => by rw [h.1 k hk, e k hk], e_StOK hq h.2 e⟩
theorem v_ho (st i0 : Nat → Int32) (n k : Nat) : F_X9_holds_2 st i0 n k = if k < n then st k else i0 k := by
  induction n with
  | zero => rfl
  | succ n ih =>
    rw [F_X9_holds_2]; unfold upd
    by_cases e : k = n
    · subst e; rw [if_pos rfl, if_pos (by omega)]
    · rw [if_neg e, ih]
      by_cases w : k < n
      · rw [if_pos w, if_pos (by omega)]
      · rw [if_neg w, if_neg (by omega)]
theorem v_le (he i0 : Nat → Int32) (n k : Nat) : F_X9_lets_2 he i0 n k = if k < n then he k else i0 k := by
  induction n with
  | zero => rfl
  | succ n ih =>
    rw [F_X9_lets_2]; unfold upd
    by_cases e : k = n
    · subst e; rw [if_pos rfl, if_pos (by omega)]
    · rw [if_neg e, ih]
      by_cases w : k < n
      · rw [if_pos w, if_pos (by omega)]
      · rw [if_neg w, if_neg (by omega)]
theorem v_lets {st X he : Nat → Int32} {k : Nat} (hk : k < 15) : g_X9_lets_mSt X (g_X9_holds_mHe st he) k = st k := by
  unfold g_X9_lets_mSt g_X9_holds_mHe
  rw [v_le, if_pos hk, v_ho, if_pos hk]
section VW
variable {p q d : Nat} {vP vS vD : Int32} {vKi vMe vOw mTo row st : Nat → Int32}
theorem v_copy {orow : Nat → Int32} (hr : ∀ k, k < 15 → row k = st k) (k : Nat) (hk : k < 15) : g_X6_copy_row orow row k = st k := by
  unfold g_X6_copy_row; rw [e_ci k hk, hr k hk]
theorem v_kt6 (hV : IvV p q d vP vS vD vKi vMe vOw mTo) (hr : ∀ k, k < 15 → row k = st k) (hS : StOK p q mTo st) {i : Nat} (hi : i < p) (n : Nat) (hn : n ≤ 8) : F_X6_knownTo_4 (nI i) row vP vS 0 n = nI (bs (fun k => decide (k < q) && (zK st k).testBit i) n) := by
  have hp := hV.1.2.1
  induction n with
  | zero => rfl
  | succ n ih =>
    have e := bs_step (fun k => decide (k < q) && (zK st k).testBit i) (n := n) (by omega) (ih (by omega))
    rw [← e, F_X6_knownTo_4]
    by_cases h : n < q
    · rw [s_knows6 hV hr hS (by omega) h]
      by_cases b : (zK st n).testBit i = true
      · rw [if_pos b, if_neg i1, if_pos (by simp [h, b])]
      · rw [if_neg b, if_pos rfl, if_neg (by simp [b])]
    · rw [s_knows6n hV (by omega) h (by omega), if_pos rfl, if_neg (by simp [h])]
theorem v_kt9 (hV : IvV p q d vP vS vD vKi vMe vOw mTo) (hS : StOK p q mTo st) {i : Nat} (hi : i < p) (n : Nat) (hn : n ≤ q) : F_X9_knownBy_4 (nI i) st 0 n = nI (bs (fun k => decide (k < q) && (zK st k).testBit i) n) := by
  have hp := hV.1.2.1
  have hq := hV.1.2.2.1
  induction n with
  | zero => rfl
  | succ n ih =>
    have e := bs_step (fun k => decide (k < q) && (zK st k).testBit i) (n := n) (by omega) (ih (by omega))
    have h : n < q := by omega
    rw [← e, F_X9_knownBy_4, s_knows9 hq hp hS (by omega) h]
    by_cases b : (zK st n).testBit i = true
    · rw [if_pos b, if_neg i1, if_pos (by simp [h, b])]
    · rw [if_neg b, if_pos rfl, if_neg (by simp [b]), Int32.or_zero]
theorem bs_cut {f : Nat → Bool} {n m : Nat} (h : ∀ i, i < m → f i = true → i < n) (hn : n ≤ m) : bs f m = bs f n := bs_ext (fun i => by
  cases c : f i
  · simp
  · by_cases w : i < m
    · have := h i w c; simp [w, this]
    · have : ¬ i < n := by omega
      simp [w, this])
theorem v_kt (hV : IvV p q d vP vS vD vKi vMe vOw mTo) (hr : ∀ k, k < 15 → row k = st k) (hS : StOK p q mTo st) {i : Nat} (hi : i < p) : f_X6_knownTo row vP vS (nI i) = f_X9_knownBy mTo st (nI i) := by
  have hq := hV.1.2.2.1
  unfold f_X6_knownTo f_X9_knownBy
  rw [v_kt6 hV hr hS hi 8 (Nat.le_refl _), s_to1 hV, v_kt9 hV hS hi q (Nat.le_refl _)]
  congr 1
  exact bs_cut (fun i _ w => by simp at w; exact w.1) hq
/-- the secrets of one -/
def zW (mTo : Nat → Int32) (q i : Nat) : Nat := bs (fun k => decide (k < q) && decide (zO mTo k = i)) 8
theorem v_ow (hV : IvV p q d vP vS vD vKi vMe vOw mTo) {k : Nat} (hk : k < q) : vOw k = nI (zO mTo k) ∧ mTo (21 + k) = nI (zO mTo k) ∧ zO mTo k < p := by
  have hp := hV.1.2.1
  obtain ⟨o, a, b, c⟩ := hV.2.2.2.2.1 k hk
  unfold zO
  rw [(tn_nI c (by omega)).2]; exact ⟨b, c, a⟩
theorem v_so6 (hV : IvV p q d vP vS vD vKi vMe vOw mTo) {i : Nat} (hi : i < p) (n : Nat) (hn : n ≤ 8) : F_X7_secretsOf_4 (nI i) vS vOw 0 n = nI (bs (fun k => decide (k < q) && decide (zO mTo k = i)) n) := by
  have hp := hV.1.2.1
  have hq := hV.1.2.2.1
  induction n with
  | zero => rfl
  | succ n ih =>
    have e := bs_step (fun k => decide (k < q) && decide (zO mTo k = i)) (n := n) (by omega) (ih (by omega))
    rw [← e, F_X7_secretsOf_4, hV.2.1.2.2.1]
    by_cases h : n < q
    · obtain ⟨a, -, c⟩ := v_ow hV h
      rw [if_neg (nI_ge h (by omega)), a]
      by_cases b : zO mTo n = i
      · rw [if_pos (congrArg nI b), if_pos (by simp [h, b])]
      · rw [if_neg (fun w => b ((nI_eq (by omega) (by omega)).mp w)), if_neg (by simp [b])]
    · rw [if_pos (nI_le (by omega) (by omega)), if_neg (by simp [h])]
theorem v_so9 (hV : IvV p q d vP vS vD vKi vMe vOw mTo) {i : Nat} (hi : i < p) (n : Nat) (hn : n ≤ q) : F_X9_ownOf_4 (nI i) mTo 0 n = nI (bs (fun k => decide (k < q) && decide (zO mTo k = i)) n) := by
  have hp := hV.1.2.1
  have hq := hV.1.2.2.1
  induction n with
  | zero => rfl
  | succ n ih =>
    have e := bs_step (fun k => decide (k < q) && decide (zO mTo k = i)) (n := n) (by omega) (ih (by omega))
    have h : n < q := by omega
    obtain ⟨-, a, c⟩ := v_ow hV h
    rw [← e, F_X9_ownOf_4, a]
    by_cases b : zO mTo n = i
    · rw [if_pos (congrArg nI b), if_pos (by simp [h, b])]
    · rw [if_neg (fun w => b ((nI_eq (by omega) (by omega)).mp w)), if_neg (by simp [b]), Int32.or_zero]
theorem v_so (hV : IvV p q d vP vS vD vKi vMe vOw mTo) {i : Nat} (hi : i < p) : f_X7_secretsOf vS vOw (nI i) = nI (zW mTo q i) ∧ f_X9_ownOf mTo (nI i) = nI (zW mTo q i) := by
  have hq := hV.1.2.2.1
  unfold f_X7_secretsOf f_X9_ownOf zW
  rw [v_so6 hV hi 8 (Nat.le_refl _), s_to1 hV, v_so9 hV hi q (Nat.le_refl _)]
  refine ⟨rfl, ?_⟩
  congr 1
  exact (bs_cut (fun i _ w => by simp at w; exact w.1) hq).symm
/-- put away, the oldest dropped -/
theorem v_k50 (m : Nat) (st i0 : Nat → Int32) (n k : Nat) : F_X9_keeps_50 m st i0 n k = if 15 * m ≤ k ∧ k < 15 * m + n then st (k - 15 * m) else i0 k := by
  induction n with
  | zero => rw [if_neg (by omega)]; rfl
  | succ n ih =>
    rw [F_X9_keeps_50]; unfold upd
    by_cases e : k = 15 * m + n
    · rw [if_pos e, if_pos (by omega), e, Nat.add_sub_cancel_left]
    · rw [if_neg e, ih]
      by_cases w : 15 * m ≤ k ∧ k < 15 * m + n
      · rw [if_pos w, if_pos (by omega)]
      · rw [if_neg w, if_neg (by omega)]
theorem v_k11 (i0 : Nat → Int32) (n k : Nat) : F_X9_keeps_11 i0 n k = if k < n then i0 (k + 15) else i0 k := by
  induction n generalizing k with
  | zero => rw [if_neg (by omega)]; rfl
  | succ n ih =>
    rw [F_X9_keeps_11]; unfold upd
    by_cases e : k = n
    · rw [if_pos e, ih, if_neg (by omega), if_pos (by omega), e]
    · rw [if_neg e, ih]
      by_cases w : k < n
      · rw [if_pos w, if_pos (by omega)]
      · rw [if_neg w, if_neg (by omega)]
theorem v_pd8 {n : Nat} (hn : n < 8) (f0 f1 f2 f3 f4 f5 f6 f7 row : Nat → Int32) {r : Nat} (hr : r ≤ n) : u8 (g_X4_pushDroppingOldest8_uR0 (nI n) f0 f1 row) (g_X4_pushDroppingOldest8_uR1 (nI n) f1 f2 row) (g_X4_pushDroppingOldest8_uR2 (nI n) f2 f3 row) (g_X4_pushDroppingOldest8_uR3 (nI n) f3 f4 row) (g_X4_pushDroppingOldest8_uR4 (nI n) f4 f5 row) (g_X4_pushDroppingOldest8_uR5 (nI n) f5 f6 row) (g_X4_pushDroppingOldest8_uR6 (nI n) f6 f7 row) (g_X4_pushDroppingOldest8_uR7 (nI n) f7 row) r = if r = n then g_X6_copyInto_cel row (u8 f0 f1 f2 f3 f4 f5 f6 f7 r) else u8 f0 f1 f2 f3 f4 f5 f6 f7 r := by
  rcases (show n = 0 ∨ n = 1 ∨ n = 2 ∨ n = 3 ∨ n = 4 ∨ n = 5 ∨ n = 6 ∨ n = 7 by omega) with rfl | rfl | rfl | rfl | rfl | rfl | rfl | rfl <;>
  rcases (show r = 0 ∨ r = 1 ∨ r = 2 ∨ r = 3 ∨ r = 4 ∨ r = 5 ∨ r = 6 ∨ r = 7 by omega) with rfl | rfl | rfl | rfl | rfl | rfl | rfl | rfl <;>
  first
    | rfl
    | omega
theorem v_pd8f (f0 f1 f2 f3 f4 f5 f6 f7 row : Nat → Int32) {r : Nat} (hr : r < 8) : u8 (g_X4_pushDroppingOldest8_uR0 (nI 8) f0 f1 row) (g_X4_pushDroppingOldest8_uR1 (nI 8) f1 f2 row) (g_X4_pushDroppingOldest8_uR2 (nI 8) f2 f3 row) (g_X4_pushDroppingOldest8_uR3 (nI 8) f3 f4 row) (g_X4_pushDroppingOldest8_uR4 (nI 8) f4 f5 row) (g_X4_pushDroppingOldest8_uR5 (nI 8) f5 f6 row) (g_X4_pushDroppingOldest8_uR6 (nI 8) f6 f7 row) (g_X4_pushDroppingOldest8_uR7 (nI 8) f7 row) r = if r = 7 then g_X6_copyInto_cel row f7 else va_cpy (u8 f0 f1 f2 f3 f4 f5 f6 f7 (r + 1)) (u8 f0 f1 f2 f3 f4 f5 f6 f7 r) 0 0 15 := by
  rcases (show r = 0 ∨ r = 1 ∨ r = 2 ∨ r = 3 ∨ r = 4 ∨ r = 5 ∨ r = 6 ∨ r = 7 by omega) with rfl | rfl | rfl | rfl | rfl | rfl | rfl | rfl <;> rfl
theorem v_keep {uZ : Int32} {f0 f1 f2 f3 f4 f5 f6 f7 mPa : Nat → Int32} {n : Nat} (hq : q ≤ 8) (hU : IvU p q uZ (u8 f0 f1 f2 f3 f4 f5 f6 f7) n 8 mTo mPa) (h2 : IvS p q row mTo st) : IvU p q (g_X4_pushDroppingOldest8_uZ uZ) (u8 (g_X4_pushDroppingOldest8_uR0 uZ f0 f1 row) (g_X4_pushDroppingOldest8_uR1 uZ f1 f2 row) (g_X4_pushDroppingOldest8_uR2 uZ f2 f3 row) (g_X4_pushDroppingOldest8_uR3 uZ f3 f4 row) (g_X4_pushDroppingOldest8_uR4 uZ f4 f5 row) (g_X4_pushDroppingOldest8_uR5 uZ f5 f6 row) (g_X4_pushDroppingOldest8_uR6 uZ f6 f7 row) (g_X4_pushDroppingOldest8_uR7 uZ f7 row)) (g_X9_keeps_mKn n) 8 mTo (g_X9_keeps_mPa n st mPa) := by
  obtain ⟨rfl, hn, u3, u4⟩ := hU
  rcases Nat.lt_or_ge n 8 with w | w
  · have n0 : ¬ nI n = 8 := fun e => absurd ((nI_eq (b := 8) (by omega) (by decide)).mp e) (by omega)
    unfold g_X9_keeps_mKn g_X9_keeps_mPa
    rw [if_neg n0, if_neg n0]
    have eo : ∀ r k, k < 15 → r < n → F_X9_keeps_50 n st mPa 15 (15 * r + k) = mPa (15 * r + k) := fun r k hk hr => by rw [v_k50, if_neg (by omega)]
    have en : ∀ k, k < 15 → F_X9_keeps_50 n st mPa 15 (15 * n + k) = st k := fun k hk => by rw [v_k50, if_pos (by omega), Nat.add_sub_cancel_left]
    refine ⟨?_, by omega, fun r hr k hk => ?_, fun r hr => ?_⟩
    · unfold g_X4_pushDroppingOldest8_uZ g_X4_push8_uZ
      rw [if_pos (show nI n < 8 from nI_lt (b := 8) w (by decide)), if_neg (nI_pos (by omega)), if_pos (show nI n < 8 from nI_lt (b := 8) w (by decide)), nI_1]
    · rw [v_pd8 w _ _ _ _ _ _ _ _ _ (show r ≤ n by omega)]
      by_cases e : r = n
      · rw [if_pos e, e_ci k hk, e, en k hk, h2.1 k hk]
      · rw [if_neg e, eo r k hk (by omega), u3 r (by omega) k hk]
    · by_cases e : r = n
      · subst e; exact e_StOK hq h2.2 en
      · exact e_StOK hq (u4 r (by omega)) (fun k hk => eo r k hk (by omega))
  · have e8 : n = 8 := by omega
    subst e8
    have eo : ∀ r k, k < 15 → r < 7 → F_X9_keeps_50 7 st (F_X9_keeps_11 mPa 105) 15 (15 * r + k) = mPa (15 * (r + 1) + k) := fun r k hk hr => by rw [v_k50, if_neg (by omega), v_k11, if_pos (by omega), show 15 * r + k + 15 = 15 * (r + 1) + k by omega]
    have en : ∀ k, k < 15 → F_X9_keeps_50 7 st (F_X9_keeps_11 mPa 105) 15 (15 * 7 + k) = st k := fun k hk => by rw [v_k50, if_pos (by omega), Nat.add_sub_cancel_left]
    show IvU p q (nI 8) _ 8 8 mTo (F_X9_keeps_50 7 st (F_X9_keeps_11 mPa 105) 15)
    refine ⟨rfl, by omega, fun r hr k hk => ?_, fun r hr => ?_⟩
    · rw [v_pd8f _ _ _ _ _ _ _ _ _ hr]
      by_cases e : r = 7
      · rw [if_pos e, e_ci k hk, e, en k hk, h2.1 k hk]
      · rw [if_neg e, eo r k hk (by omega), ← u3 (r + 1) (by omega) k hk]
        unfold va_cpy
        rw [if_pos (by omega)]
        congr 1
        omega
    · by_cases e : r = 7
      · subst e; exact e_StOK hq h2.2 en
      · exact e_StOK hq (u4 (r + 1) (by omega)) (fun k hk => eo r k hk (by omega))
end VW
