/-! the witnesses heard -/
theorem h_cm (a b : Int32) (m : Nat) : ∃ h, h ≤ 2 * m ∧ F_X8_careForMany_5 a b 0 m = nI h := by
  induction m with
  | zero => exact ⟨0, by omega, rfl⟩
  | succ m ih =>
    obtain ⟨h, h1, h2⟩ := ih
    have c : ∃ x, x ≤ 2 ∧ f_X8_care a (b + nI m) = nI x := by
      unfold f_X8_care
      split
      · exact ⟨2, by decide, rfl⟩
      · split
        · exact ⟨0, by decide, rfl⟩
        · split
          · split
            · exact ⟨0, by decide, rfl⟩
            · exact ⟨1, by decide, rfl⟩
          · exact ⟨1, by decide, rfl⟩
    obtain ⟨x, x1, x2⟩ := c
    exact ⟨h + x, by omega, by rw [F_X8_careForMany_5, h2, x2, nI_add]⟩
theorem h_zX (mTo st : Nat → Int32) {p i k L : Nat} (hp : p ≤ 6) : ∃ x, x ≤ 12 ∧ zX mTo st p i k L = nI x := by
  unfold zX zH
  have hb := cb_le L p
  obtain ⟨h, h1, h2⟩ := h_cm (mTo (9 + zO mTo k)) (f_X9_others mTo st (nI k)) (cb L p)
  rw [h2]
  split
  · split
    · exact ⟨h / 2, by omega, pk_div (d := 2) (by omega) (by decide) (by decide)⟩
    · exact ⟨h, by omega, rfl⟩
  · exact ⟨0, by omega, rfl⟩
theorem h_zR (mTo st : Nat → Int32) {p q i k L j : Nat} (hq : k < 8) (hp : p ≤ 6) (hj : j < p) : ∃ x, x ≤ 12 ∧ zR mTo st p k L (zX mTo st p i k L) j = st j + nI x := by
  unfold zR
  rw [if_neg (by omega)]
  split
  · exact ⟨1, by decide, rfl⟩
  · split
    · obtain ⟨x, a, b⟩ := h_zX mTo st (i := i) (k := k) (L := L) hp
      exact ⟨x, a, by rw [b]⟩
    · exact ⟨0, by decide, by rw [nI_0, Int32.add_zero]⟩
/-- those behind the j-th -/
def bh (u : Nat → Nat) (j : Nat) : Nat → Nat
  | 0 => 0
  | m + 1 => if j < m then bh u j m ||| 2 ^ u m else bh u j m
theorem bh_lt {u : Nat → Nat} {p : Nat} (j m : Nat) (h : ∀ t, t < m → u t < p) : bh u j m < 2 ^ p := by
  induction m with
  | zero => exact Nat.pow_pos (by decide)
  | succ m ih =>
    rw [bh]; split
    · exact Nat.or_lt_two_pow (ih (fun t ht => h t (by omega))) (Nat.pow_lt_pow_right (by decide) (h m (by omega)))
    · exact ih (fun t ht => h t (by omega))
theorem bh_0 (u : Nat → Nat) (j m : Nat) (h : m ≤ j + 1) : bh u j m = 0 := by
  induction m with
  | zero => rfl
  | succ m ih => rw [bh, if_neg (by omega)]; exact ih (by omega)
section HR
variable {p q d n : Nat} {vP vS vD : Int32} {vKi vMe vOw mTo row st cPe cTa mWi f g : Nat → Int32} {wi ws π : Nat → Nat}
/-- the witnesses, and an order of them -/
def Wn (p q n : Nat) (cPe cTa mWi f g : Nat → Int32) (wi ws π : Nat → Nat) : Prop := n ≤ 5 ∧ (∀ k, k < n → wi k < p ∧ ws k < q ∧ cPe k = nI (wi k) ∧ cTa k = nI (ws k) ∧ mWi k = nI (8 * wi k + ws k)) ∧ ∀ k, k < n → π k < n ∧ f k = nI (π k) ∧ g k = nI (π k)
theorem h_pa (h : Wn p q n cPe cTa mWi f g wi ws π) {k : Nat} (hk : k < n) : f_X1_personAt cPe f (nI k) = nI (wi (π k)) ∧ f_X1_taleAt cTa f (nI k) = nI (ws (π k)) := by
  obtain ⟨hn, h1, h2⟩ := h
  obtain ⟨a, b, -⟩ := h2 k hk
  obtain ⟨-, -, c1, c2, -⟩ := h1 _ a
  have e1 : ¬ (5 : Int32) ≤ nI k := nI_ge (b := 5) (by omega) (by decide)
  have e2 : ¬ (5 : Int32) ≤ nI (π k) := nI_ge (b := 5) (by omega) (by decide)
  unfold f_X1_personAt f_X1_taleAt
  rw [if_neg (nI_pos (by omega)), if_neg e1, nI_clamp (by omega), b, if_neg (nI_pos (by omega)), if_neg e2, nI_clamp (by omega), c1, if_neg (nI_pos (by omega)), if_neg e1, if_neg (nI_pos (by omega)), if_neg e2, c2]
  exact ⟨rfl, rfl⟩
theorem h_pb (h : Wn p q n cPe cTa mWi f g wi ws π) (hp : p ≤ 6) {j : Nat} (hj : j < n) (m : Nat) (hm : m ≤ 5) : F_X1_personsBehind_4 (nI j) (nI n) cPe f 0 m = nI (bh (fun t => wi (π t)) j (min m n)) := by
  have hn := h.1
  induction m with
  | zero => rw [Nat.zero_min]; rfl
  | succ m ih =>
    have ih := ih (by omega)
    rw [F_X1_personsBehind_4, ih]
    by_cases c : m < n
    · rw [show min (m + 1) n = min m n + 1 by omega, bh, show min m n = m by omega]
      by_cases c2 : j < m
      · have := (h.2.1 _ (h.2.2 m c).1).1
        rw [if_neg (nI_ge c2 (by omega)), if_neg (nI_ge c (by omega)), if_pos c2, (h_pa h c).1, zb_sh _ (by omega), zb_or]
      · rw [if_pos (nI_le (by omega) (by omega)), if_neg c2]
    · rw [show min (m + 1) n = min m n by omega, if_pos (nI_le (show n ≤ m by omega) (by omega)), ite_self]
theorem h_w (h : Wn p q n cPe cTa mWi f g wi ws π) (hp : p ≤ 6) (hq : q ≤ 8) {k : Nat} (hk : k < n) : mWi (g k).toNatClampNeg / 8 = nI (wi (π k)) ∧ mWi (g k).toNatClampNeg - nI (wi (π k)) * 8 = nI (ws (π k)) := by
  obtain ⟨hn, h1, h2⟩ := h
  obtain ⟨a, -, b⟩ := h2 k hk
  obtain ⟨c1, c2, -, -, c3⟩ := h1 _ a
  obtain ⟨d1, d2, -⟩ := u_dv (wi (π k)) (by omega) (ws (π k)) (by omega)
  rw [b, nI_clamp (by omega), c3]
  rw [d1] at d2
  exact ⟨d1, d2⟩
theorem h_52 (h : Wn p q n cPe cTa mWi f g wi ws π) (hp : p ≤ 6) (hq : q ≤ 8) {j : Nat} (m t : Nat) (hj : j < t) (ht : t + m ≤ n) : L_X9_growsBy_52 mWi g m t (nI (bh (fun t => wi (π t)) j t)) = nI (bh (fun t => wi (π t)) j (t + m)) := by
  induction m generalizing t with
  | zero => rfl
  | succ m ih =>
    have := (h.2.1 _ (h.2.2 t (by omega)).1).1
    rw [L_X9_growsBy_52, (h_w h hp hq (by omega)).1, zb_sh _ (by omega), zb_or, show t + (m + 1) = t + 1 + m by omega, ← ih (t + 1) (by omega) (by omega), bh, if_pos hj]
theorem h_he (hV : IvV p q d vP vS vD vKi vMe vOw mTo) (hr : ∀ k, k < 15 → row k = st k) (hS : StOK p q mTo st) (h : Wn p q n cPe cTa mWi f g wi ws π) (m : Nat) (hm : m ≤ n) : (∀ k, k < 15 → F_X1_hear_2 (nI n) cPe cTa f vP vS vD vKi vOw row m k = F_X9_growsBy_6 n mTo mWi g st m k) ∧ StOK p q mTo (F_X9_growsBy_6 n mTo mWi g st m) ∧ ∀ j, j < p → ∃ x, x ≤ 12 * m ∧ F_X9_growsBy_6 n mTo mWi g st m j = st j + nI x := by
  have hp := hV.1.2.1
  have hq := hV.1.2.2.1
  have h64 := p64 hp
  have hn := h.1
  induction m with
  | zero => exact ⟨hr, hS, fun j hj => ⟨0, by omega, by rw [nI_0, Int32.add_zero]; rfl⟩⟩
  | succ m ih =>
    obtain ⟨i1', i2, i3⟩ := ih (by omega)
    have hm' : m < n := by omega
    obtain ⟨a1, a2⟩ := h_pa h hm'
    obtain ⟨w1, w2⟩ := h_w h hp hq hm'
    have ha := (h.2.2 m hm').1
    obtain ⟨b1, b2, -⟩ := h.2.1 _ ha
    have hb : bh (fun t => wi (π t)) m n < 2 ^ p := bh_lt m n (fun t ht => (h.2.1 _ (h.2.2 t ht).1).1)
    have e52 := h_52 h hp hq (j := m) (n - (m + 1)) (m + 1) (by omega) (by omega)
    rw [bh_0 _ _ _ (Nat.le_refl _), show m + 1 + (n - (m + 1)) = n by omega] at e52
    have e52 : L_X9_growsBy_52 mWi g (n - (m + 1)) (m + 1) 0 = nI (bh (fun t => wi (π t)) m n) := e52
    have same : (∀ k, k < 15 → F_X1_hear_2 (nI n) cPe cTa f vP vS vD vKi vOw row m k = F_X9_growsBy_6 n mTo mWi g st m k) ∧ StOK p q mTo (F_X9_growsBy_6 n mTo mWi g st m) ∧ ∀ j, j < p → ∃ x, x ≤ 12 * (m + 1) ∧ F_X9_growsBy_6 n mTo mWi g st m j = st j + nI x := ⟨i1', i2, fun j hj => by
      obtain ⟨x, x1, x2⟩ := i3 j hj
      exact ⟨x, by omega, x2⟩⟩
    rw [F_X1_hear_2, F_X9_growsBy_6, if_neg (nI_ge hm' (by omega)), a1, a2, w1, w2, s_al6 hV i1' (by omega), s_al9 hV b1, s_knows6 hV i1' i2 (by omega) b2, s_knows9 hq hp i2 (by omega) b2, e52]
    by_cases c1 : (zA (mTo 2) (F_X9_growsBy_6 n mTo mWi g st m) p).testBit (wi (π m)) = true
    · by_cases c2 : (zK (F_X9_growsBy_6 n mTo mWi g st m) (ws (π m))).testBit (wi (π m)) = true
      · rw [if_pos c1, if_neg i1, if_neg i1, if_pos c2, if_neg i1, if_neg i1, s_liv9 hV, zb_sh _ (by omega), zb_and, zb_not, f_X1_personsBehind, h_pb h hp hm' 5 (Nat.le_refl _), show min 5 n = n by omega, zb_not]
        have hA := zA_lt (mTo 2) (F_X9_growsBy_6 n mTo mWi g st m) p
        have hBA : bh (fun t => wi (π t)) m n &&& zA (mTo 2) (F_X9_growsBy_6 n mTo mWi g st m) p < 2 ^ p := Nat.and_lt_two_pow _ hA
        have eT : zb_an (bh (fun t => wi (π t)) m n) (2 ^ wi (π m)) &&& zA (mTo 2) (F_X9_growsBy_6 n mTo mWi g st m) p = zb_an (bh (fun t => wi (π t)) m n &&& zA (mTo 2) (F_X9_growsBy_6 n mTo mWi g st m) p) (2 ^ wi (π m)) &&& zA (mTo 2) (F_X9_growsBy_6 n mTo mWi g st m) p := Nat.eq_of_testBit_eq (fun j => by
          rw [Nat.testBit_and, Nat.testBit_and, zb_an_bit _ (by omega), zb_an_bit _ (by omega), Nat.testBit_and]
          cases (zA (mTo 2) (F_X9_growsBy_6 n mTo mWi g st m) p).testBit j <;> simp)
        obtain ⟨t1, t2, -, t4, -⟩ := t_tells hV i1' i2 b1 b2 (T := zb_an (bh (fun t => wi (π t)) m n &&& zA (mTo 2) (F_X9_growsBy_6 n mTo mWi g st m) p) (2 ^ wi (π m))) (fun j w => by
          rw [zb_an_bit _ (by omega), Nat.testBit_and] at w
          simp at w; exact w.1.2)
        refine ⟨fun k hk => ?_, t2, fun j hj => ?_⟩
        · rw [t_sp6 hV i1' i2 b1 b2 hk, eT, ← t_sp6 hV i1' i2 b1 b2 hk]; exact t1 k hk
        · obtain ⟨x, x1, x2⟩ := i3 j hj
          rw [t4 j (by omega)]
          obtain ⟨y, y1, y2⟩ := h_zR mTo (F_X9_growsBy_6 n mTo mWi g st m) (q := q) (i := wi (π m)) (k := ws (π m)) (L := zb_an (zb_an (bh (fun t => wi (π t)) m n &&& zA (mTo 2) (F_X9_growsBy_6 n mTo mWi g st m) p) (2 ^ wi (π m))) (zK (F_X9_growsBy_6 n mTo mWi g st m) (ws (π m)))) (by omega) hp hj
          exact ⟨x + y, by omega, by rw [y2, x2, Int32.add_assoc, nI_add]⟩
      · rw [if_pos c1, if_neg i1, if_neg i1, if_neg c2, if_pos rfl, if_pos rfl]; exact same
    · rw [if_neg c1, if_pos rfl, if_pos rfl]; exact same
theorem h_top (m : Nat) (hm : n + m ≤ 5) : F_X1_hear_2 (nI n) cPe cTa f vP vS vD vKi vOw row (n + m) = F_X1_hear_2 (nI n) cPe cTa f vP vS vD vKi vOw row n := by
  induction m with
  | zero => rfl
  | succ m ih => rw [← Nat.add_assoc, F_X1_hear_2, if_pos (nI_le (by omega) (by omega)), ih (by omega)]
theorem h_sum {X Y : Nat → Int32} {b : Nat} (hX : ∀ j, j < p → ∃ x, x ≤ b ∧ X j = st j + nI x) (hY : ∀ j, j < p → Y j = st j) (m : Nat) (hm : m ≤ p) : ∃ D, D ≤ b * m ∧ F_X9_growsBy_140 X Y 0 m = nI D ∧ F_X9_year_175 X 0 m = F_X9_year_175 st 0 m + nI D := by
  induction m with
  | zero => exact ⟨0, by omega, rfl, by rw [nI_0, Int32.add_zero]; rfl⟩
  | succ m ih =>
    obtain ⟨D, d1, d2, d3⟩ := ih (by omega)
    obtain ⟨x, x1, x2⟩ := hX m (by omega)
    refine ⟨D + x, by rw [Nat.mul_succ]; omega, ?_, ?_⟩
    · rw [F_X9_growsBy_140, d2, x2, hY m (by omega), Int32.add_comm (st m), Int32.add_sub_cancel, nI_add]
    · rw [F_X9_year_175, F_X9_year_175, d3, x2, ← nI_add, Int32.add_assoc, ← Int32.add_assoc (nI D), Int32.add_comm (nI D), Int32.add_assoc (st m), ← Int32.add_assoc (F_X9_year_175 st 0 m)]
theorem h_sm6 (hV : IvV p q d vP vS vD vKi vMe vOw mTo) (hr : ∀ k, k < 15 → row k = st k) (n : Nat) (hn : n ≤ 6) : F_X6_agesTogether_4 row vP 0 n = F_X9_year_175 st 0 (min n p) := by
  have hp := hV.1.2.1
  induction n with
  | zero => rw [Nat.zero_min]; rfl
  | succ n ih =>
    have ih := ih (by omega)
    rw [F_X6_agesTogether_4, f_X6_ageOf, s_has6 hV (by omega)]
    by_cases c : n < p
    · rw [show min (n + 1) p = min n p + 1 by omega, F_X9_year_175, show min n p = n by omega]
      rw [show min n p = n by omega] at ih
      rw [if_pos c, if_neg i1, nI_clamp (by omega), ih, hr n (by omega)]
    · rw [if_neg c, if_pos rfl, ih, Int32.add_zero, show min (n + 1) p = min n p by omega]
/-- by how much all grow: alike -/
theorem h_gr (hV : IvV p q d vP vS vD vKi vMe vOw mTo) (hr : ∀ k, k < 15 → row k = st k) (hS : StOK p q mTo st) (h : Wn p q n cPe cTa mWi f g wi ws π) (tr he : Nat → Int32) : ∃ D, D ≤ 400 ∧ f_X6_agesTogether (g_X1_hear_row (nI n) cPe cTa f (g_X6_copy_row tr row) vP vS vD vKi vOw) vP - f_X6_agesTogether row vP = nI D ∧ f_X9_growsBy n mTo st mWi he g = nI D := by
  have hp := hV.1.2.1
  have hn := h.1
  obtain ⟨a, b, c⟩ := h_he hV (v_copy (orow := tr) hr) hS h n (Nat.le_refl _)
  have et := h_top (vP := vP) (vS := vS) (vD := vD) (vKi := vKi) (vOw := vOw) (cPe := cPe) (cTa := cTa) (f := f) (row := g_X6_copy_row tr row) (n := n) (5 - n) (by omega)
  rw [show n + (5 - n) = 5 by omega] at et
  have hY : ∀ j, j < p → g_X9_holds_mHe st he j = st j := fun j hj => by
    unfold g_X9_holds_mHe; rw [v_ho, if_pos (by omega)]
  obtain ⟨D, d1, d2, d3⟩ := h_sum c hY p (Nat.le_refl _)
  have hb : 12 * n * p ≤ 12 * 5 * 6 := Nat.mul_le_mul (by omega) hp
  refine ⟨D, by omega, ?_, ?_⟩
  · unfold f_X6_agesTogether g_X1_hear_row
    rw [et, h_sm6 hV a 6 (Nat.le_refl _), h_sm6 hV hr 6 (Nat.le_refl _), show min 6 p = p by omega, d3, Int32.add_comm, Int32.add_sub_cancel]
  · unfold f_X9_growsBy
    rw [s_to0 hV]; exact d2
end HR
