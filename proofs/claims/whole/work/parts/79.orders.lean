/-! the orders of witnesses: which come, one behind the other -/
/-- the k-th figure of an order's number -/
def dg (n c k : Nat) : Nat := c / 5 ^ (n - 1 - k) % 5
def ms : Nat → Nat → Nat
  | 0, _ => 0
  | m + 1, c => 2 ^ (c % 5) ||| ms m (c / 5)
theorem ms_lt (m c : Nat) : ms m c < 2 ^ 5 := by
  induction m generalizing c with
  | zero => exact Nat.pow_pos (by decide)
  | succ m ih => rw [ms]; exact Nat.or_lt_two_pow (Nat.pow_lt_pow_right (by decide) (Nat.mod_lt _ (by decide))) (ih _)
theorem o_12 (m : Nat) : ∀ (c s : Nat) (f : Nat → Int32), c < 2 ^ 31 → (L_X9_rows_12 m (nI c) (nI s) f).2.1 = nI (s ||| ms m c) ∧ ∀ k, (L_X9_rows_12 m (nI c) (nI s) f).2.2 k = if k < m then nI (c / 5 ^ (m - 1 - k) % 5) else f k := by
  induction m with
  | zero => intro c s f hc; exact ⟨by rw [ms, Nat.or_zero]; rfl, fun k => by rw [if_neg (by omega)]; rfl⟩
  | succ m ih =>
    intro c s f hc
    have e1 : nI c / 5 = nI (c / 5) := pk_div (d := 5) hc (by decide) (by decide)
    have e2 : nI c - nI (c / 5) * 5 = nI (c % 5) := by rw [← e1]; exact pk_rem (d := 5) hc (by decide) (by decide)
    have hm : c % 5 < 5 := Nat.mod_lt _ (by decide)
    have hd : c / 5 ≤ c := Nat.div_le_self _ _
    rw [L_X9_rows_12, e1, e2, zb_sh _ (by omega), zb_or]
    obtain ⟨i1', i2⟩ := ih (c / 5) (s ||| 2 ^ (c % 5)) (upd f m (nI (c % 5))) (by omega)
    refine ⟨by rw [i1', ms, Nat.or_assoc], fun k => ?_⟩
    rw [i2]
    by_cases h : k < m
    · rw [if_pos h, if_pos (by omega), Nat.div_div_eq_div_mul, show m + 1 - 1 - k = (m - 1 - k) + 1 by omega, Nat.pow_succ, Nat.mul_comm 5]
    · rw [if_neg h]; unfold upd
      by_cases e : k = m
      · rw [if_pos e, if_pos (by omega), show m + 1 - 1 - k = 0 by omega, Nat.pow_zero, Nat.div_one]
      · rw [if_neg e, if_neg (by omega)]
/-- whether each is there once -/
def vd (n c : Nat) : Bool := decide (ms n c = 2 ^ n - 1)
theorem o_rows {n c : Nat} (hn : n ≤ 5) (hc : c < 2 ^ 31) (f : Nat → Int32) : (f_X9_rows n f (nI c) = if vd n c then 1 else 0) ∧ ∀ k, k < n → g_X9_rows_mRo n f (nI c) k = nI (dg n c k) := by
  obtain ⟨h1, h2⟩ := o_12 n c 0 f hc
  have hl := ms_lt n c
  have h32 : 2 ^ n ≤ 2 ^ 5 := Nat.pow_le_pow_right (by decide) hn
  refine ⟨?_, fun k hk => ?_⟩
  · unfold f_X9_rows vd
    rw [show (0 : Int32) = nI 0 from rfl, h1, Nat.zero_or, b_mask n (by omega)]
    by_cases e : ms n c = 2 ^ n - 1
    · rw [if_pos (congrArg nI e), if_pos (decide_eq_true e)]
    · rw [if_neg (fun w => e ((nI_eq (by omega) (by omega)).mp w)), decide_eq_false e]; rfl
  · unfold g_X9_rows_mRo
    have := h2 k
    rw [if_pos hk] at this
    exact this
def rc (n : Nat) : List Nat := (List.range (5 ^ n)).filter (vd n)
/-- an order as the class holds it -/
def fs (n c : Nat) : Nat → Int32 := fun k => nI (if k < n then dg n c k else k)
def s5 (f g : Nat → Int32) : Bool := decide (f 0 = g 0) && (decide (f 1 = g 1) && (decide (f 2 = g 2) && (decide (f 3 = g 3) && decide (f 4 = g 4))))
def ch (n : Nat) : List Nat → Bool
  | [] => true
  | c :: l => (match l with
    | [] => decide (f_X1_nextTurn (nI n) (fs n c) = 0)
    | c' :: _ => decide (f_X1_nextTurn (nI n) (fs n c) = 1) && s5 (g_X1_nextTurn_cTu (nI n) (fs n c)) (fs n c')) && ch n l
theorem rc_0 : rc 0 = [0] := by decide +kernel
theorem rh_0 : ch 0 [0] = true := by decide +kernel
theorem rc_1 : rc 1 = [0] := by decide +kernel
theorem rh_1 : ch 1 [0] = true := by decide +kernel
theorem rc_2 : rc 2 = [1, 5] := by decide +kernel
theorem rh_2 : ch 2 [1, 5] = true := by decide +kernel
theorem rc_3 : rc 3 = [7, 11, 27, 35, 51, 55] := by decide +kernel
theorem rh_3 : ch 3 [7, 11, 27, 35, 51, 55] = true := by decide +kernel
theorem rc_4 : rc 4 = [38, 42, 58, 66, 82, 86, 138, 142, 178, 190, 202, 210, 258, 266, 278, 290, 326, 330, 382, 386, 402, 410, 426, 430] := by decide +kernel
theorem rh_4 : ch 4 [38, 42, 58, 66, 82, 86, 138, 142, 178, 190, 202, 210, 258, 266, 278, 290, 326, 330, 382, 386, 402, 410, 426, 430] = true := by decide +kernel
theorem rc_5 : rc 5 = [194, 198, 214, 222, 238, 242, 294, 298, 334, 346, 358, 366, 414, 422, 434, 446, 482, 486, 538, 542, 558, 566, 582, 586, 694, 698, 714, 722, 738, 742, 894, 898, 954, 970, 978, 990, 1014, 1022, 1054, 1070, 1102, 1110, 1138, 1142, 1178, 1190, 1202, 1210, 1294, 1298, 1334, 1346, 1358, 1366, 1394, 1398, 1454, 1470, 1478, 1490, 1634, 1646, 1654, 1670, 1726, 1730, 1758, 1766, 1778, 1790, 1826, 1830, 1914, 1922, 1934, 1946, 1982, 1986, 2014, 2022, 2054, 2070, 2102, 2110, 2134, 2146, 2154, 2170, 2226, 2230, 2382, 2386, 2402, 2410, 2426, 2430, 2538, 2542, 2558, 2566, 2582, 2586, 2638, 2642, 2678, 2690, 2702, 2710, 2758, 2766, 2778, 2790, 2826, 2830, 2882, 2886, 2902, 2910, 2926, 2930] := by decide +kernel
theorem rh_5 : ch 5 [194, 198, 214, 222, 238, 242, 294, 298, 334, 346, 358, 366, 414, 422, 434, 446, 482, 486, 538, 542, 558, 566, 582, 586, 694, 698, 714, 722, 738, 742, 894, 898, 954, 970, 978, 990, 1014, 1022, 1054, 1070, 1102, 1110, 1138, 1142, 1178, 1190, 1202, 1210, 1294, 1298, 1334, 1346, 1358, 1366, 1394, 1398, 1454, 1470, 1478, 1490, 1634, 1646, 1654, 1670, 1726, 1730, 1758, 1766, 1778, 1790, 1826, 1830, 1914, 1922, 1934, 1946, 1982, 1986, 2014, 2022, 2054, 2070, 2102, 2110, 2134, 2146, 2154, 2170, 2226, 2230, 2382, 2386, 2402, 2410, 2426, 2430, 2538, 2542, 2558, 2566, 2582, 2586, 2638, 2642, 2678, 2690, 2702, 2710, 2758, 2766, 2778, 2790, 2826, 2830, 2882, 2886, 2902, 2910, 2926, 2930] = true := by decide +kernel
def E5 (f g : Nat → Int32) : Prop := ∀ k, k < 5 → f k = g k
theorem s5_E {f g : Nat → Int32} (h : s5 f g = true) : E5 f g := by
  unfold s5 at h
  simp only [Bool.and_eq_true, decide_eq_true_eq] at h
  obtain ⟨h0, h1, h2, h3, h4⟩ := h
  intro k hk
  rcases (show k = 0 ∨ k = 1 ∨ k = 2 ∨ k = 3 ∨ k = 4 by omega) with rfl | rfl | rfl | rfl | rfl
  · exact h0
  · exact h1
  · exact h2
  · exact h3
  · exact h4
theorem o_4 {cZ : Int32} {f g : Nat → Int32} (h : E5 f g) (i : Int32) (n : Nat) (hn : n ≤ 4) : F_X1_nextTurn_4 cZ f i n = F_X1_nextTurn_4 cZ g i n := by
  induction n with
  | zero => rfl
  | succ n ih => rw [F_X1_nextTurn_4, F_X1_nextTurn_4, ih (by omega), h n (by omega), h (n + 1) (by omega)]
theorem o_4v (cZ : Int32) (f : Nat → Int32) (n : Nat) : F_X1_nextTurn_4 cZ f (-1) n = -1 ∨ ∃ j, j < n ∧ F_X1_nextTurn_4 cZ f (-1) n = nI j := by
  induction n with
  | zero => left; rfl
  | succ n ih =>
    rw [F_X1_nextTurn_4]
    split
    · rcases ih with e | ⟨j, a, b⟩
      · left; exact e
      · right; exact ⟨j, by omega, b⟩
    · split
      · rcases ih with e | ⟨j, a, b⟩
        · left; exact e
        · right; exact ⟨j, by omega, b⟩
      · right; exact ⟨n, by omega, rfl⟩
theorem o_56 {x cZ : Int32} {f g : Nat → Int32} (h : E5 f g) (hx : x.toNatClampNeg < 5) (i : Int32) (n : Nat) (hn : n ≤ 5) : F_X1_nextTurn_56 x cZ f i n = F_X1_nextTurn_56 x cZ g i n := by
  induction n with
  | zero => rfl
  | succ n ih => rw [F_X1_nextTurn_56, F_X1_nextTurn_56, ih (by omega), h n (by omega), h _ hx]
theorem o_sw {f g : Nat → Int32} (h : E5 f g) (a b : Int32) : E5 (g_X1_swap_cTu f a b) (g_X1_swap_cTu g a b) := by
  intro k hk
  unfold g_X1_swap_cTu
  by_cases c1 : a < 0
  · rw [if_pos c1, if_pos c1]; exact h k hk
  rw [if_neg c1, if_neg c1]
  by_cases c2 : 5 ≤ a
  · rw [if_pos c2, if_pos c2]; exact h k hk
  rw [if_neg c2, if_neg c2]
  by_cases c3 : b < 0
  · rw [if_pos c3, if_pos c3]; exact h k hk
  rw [if_neg c3, if_neg c3]
  by_cases c4 : 5 ≤ b
  · rw [if_pos c4, if_pos c4]; exact h k hk
  rw [if_neg c4, if_neg c4]
  obtain ⟨i, hi, rfl⟩ := nI_of2 (x := a) (M := 4) (n := 4) rfl c1 (by
    rw [Int32.le_iff_toInt_le] at c2 ⊢
    have h4 : (4 : Int32).toInt = 4 := by decide
    have h5 : (5 : Int32).toInt = 5 := by decide
    omega)
  obtain ⟨j, hj, rfl⟩ := nI_of2 (x := b) (M := 4) (n := 4) rfl c3 (by
    rw [Int32.le_iff_toInt_le] at c4 ⊢
    have h4 : (4 : Int32).toInt = 4 := by decide
    have h5 : (5 : Int32).toInt = 5 := by decide
    omega)
  rw [nI_clamp (by omega), nI_clamp (by omega)]
  unfold upd
  by_cases e1 : k = j
  · rw [if_pos e1, if_pos e1]; exact h i (by omega)
  · rw [if_neg e1, if_neg e1]
    by_cases e2 : k = i
    · rw [if_pos e2, if_pos e2]; exact h j (by omega)
    · rw [if_neg e2, if_neg e2]; exact h k hk
theorem o_115 (n : Nat) : ∀ (a b : Int32) (f g : Nat → Int32), E5 f g → E5 (L_X1_nextTurn_115 n a b f).2.2 (L_X1_nextTurn_115 n a b g).2.2 := by
  induction n with
  | zero => intro a b f g h; exact h
  | succ n ih =>
    intro a b f g h
    rw [L_X1_nextTurn_115, L_X1_nextTurn_115]
    by_cases c : b ≤ a
    · rw [if_pos c, if_pos c]; exact h
    · rw [if_neg c, if_neg c]; exact ih _ _ _ _ (o_sw h a b)
theorem o_nt {cZ : Int32} {f g : Nat → Int32} (h : E5 f g) : f_X1_nextTurn cZ f = f_X1_nextTurn cZ g ∧ E5 (g_X1_nextTurn_cTu cZ f) (g_X1_nextTurn_cTu cZ g) := by
  have e4 := o_4 (cZ := cZ) h (-1) 4 (Nat.le_refl _)
  unfold f_X1_nextTurn g_X1_nextTurn_cTu
  rw [e4]
  refine ⟨rfl, ?_⟩
  have hx : (F_X1_nextTurn_4 cZ g (-1) 4).toNatClampNeg < 5 := by
    rcases o_4v cZ g 4 with e | ⟨j, a, e⟩
    · rw [e]; decide
    · rw [e, nI_clamp (by omega)]; omega
  by_cases c : 0 ≤ F_X1_nextTurn_4 cZ g (-1) 4
  · rw [if_pos c, if_pos c, o_56 h hx _ 5 (Nat.le_refl _)]
    exact o_115 5 _ _ _ _ (o_sw h _ _)
  · rw [if_neg c, if_neg c]; exact h
/-! how the least is found -/
def sp (gv : Nat → Int32) (o : Option Nat) (c : Nat) : Option Nat := match o with
  | none => some c
  | some b => if gv b ≤ gv c then some b else some c
