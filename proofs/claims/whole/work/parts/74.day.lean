/-! a day of gossip -/
theorem fst_or (P : Nat → Prop) (n : Nat) : (∀ k, k < n → ¬ P k) ∨ ∃ k, k < n ∧ P k ∧ ∀ k', k' < k → ¬ P k' := by
  induction n with
  | zero => left; intro k hk; omega
  | succ n ih =>
    rcases ih with h | ⟨k, a, b, c⟩
    · rcases Classical.em (P n) with w | w
      · right; exact ⟨n, Nat.lt_succ_self _, w, h⟩
      · left; intro k hk
        rcases Nat.lt_or_ge k n with e | e
        · exact h k e
        · have : k = n := by omega
          subst this; exact w
    · right; exact ⟨k, by omega, b, c⟩
theorem low_or {S p : Nat} (hS : S < 2 ^ p) : S = 0 ∨ ∃ j, j < p ∧ S.testBit j = true ∧ ∀ j', j' < j → S.testBit j' = false := by
  rcases fst_or (fun j => S.testBit j = true) p with h | ⟨j, a, b, c⟩
  · left
    apply Nat.eq_of_testBit_eq
    intro i
    rw [Nat.zero_testBit]
    rcases Nat.lt_or_ge i p with w | w
    · simpa using h i w
    · exact zb_hi hS w
  · right; exact ⟨j, a, b, fun j' h => by simpa using c j' h⟩
theorem u_89n {S : Nat} (hS : S < 256) (k n : Nat) (a : Int32) (hn : n ≤ 8) (h : ∀ j, j < n → S.testBit j = false) : L_X9_goes_89 (nI S) k n a = a := by
  induction n generalizing a with
  | zero => rfl
  | succ n ih =>
    rw [L_X9_goes_89, if_neg (fun w => by have := (zb_t1 hS (by omega)).mp w; rw [h n (by omega)] at this; cases this)]
    exact ih a (by omega) (fun j hj => h j (by omega))
theorem u_89 {S : Nat} (hS : S < 256) (k n : Nat) (a : Int32) {j : Nat} (hn : n ≤ 8) (hj : j < n) (b : S.testBit j = true) (h : ∀ j', j' < j → S.testBit j' = false) : L_X9_goes_89 (nI S) k n a = nI (8 * k + j) := by
  induction n generalizing a with
  | zero => omega
  | succ n ih =>
    rw [L_X9_goes_89]
    by_cases e : j = n
    · subst e
      rw [if_pos ((zb_t1 hS (by omega)).mpr b)]
      exact u_89n hS _ _ _ (by omega) h
    · split
      · exact ih _ (by omega) (by omega)
      · exact ih _ (by omega) (by omega)
theorem u_low {S : Nat} (hS : S < 256) (n : Nat) {j0 j : Nat} (hn : j + n ≤ 8) (h1 : j ≤ j0) (h2 : j0 < j + n) (b : S.testBit j0 = true) (h : ∀ j', j' < j0 → S.testBit j' = false) : L_X8_lowestOf_2 (nI S) n j = nI j0 := by
  induction n generalizing j with
  | zero => omega
  | succ n ih =>
    rw [L_X8_lowestOf_2, zb_has hS (by omega)]
    by_cases e : j = j0
    · subst e; rw [if_pos b, if_neg i1]
    · rw [h j (by omega)]
      exact ih (by omega) (by omega) (by omega)
theorem z0 {a : Nat} (h : a < 2 ^ 31) : nI a = 0 ↔ a = 0 := nI_eq (b := 0) h (by decide)
theorem u_dv : ∀ k, k < 8 → ∀ j, j < 8 → nI (8 * k + j) / 8 = nI k ∧ nI (8 * k + j) - nI (8 * k + j) / 8 * 8 = nI j ∧ 0 ≤ nI (8 * k + j) := by decide +kernel
/-- to whom one could tell it -/
def zG (mTo st : Nat → Int32) (p i k : Nat) : Nat := if zO mTo k = i then 0 else if (zK st k).testBit i then zb_an (zM mTo (zA (mTo 2) st p) i) (zK st k) else 0
section DY
variable {p q d : Nat} {vP vS vD : Int32} {vKi vMe vOw mTo row st : Nat → Int32}
theorem zG_lt (mTo st : Nat → Int32) (p i k : Nat) : zG mTo st p i k < 2 ^ p := by
  have h0 : 0 < 2 ^ p := Nat.pow_pos (by decide)
  unfold zG
  split
  · exact h0
  · split
    · exact Nat.lt_of_le_of_lt (zb_an_le _ _) (zM_lt _ (zA_lt _ _ _) _)
    · exact h0
theorem zG_bit (hp : p ≤ 6) {i k j : Nat} (h : (zG mTo st p i k).testBit j = true) : (zA (mTo 2) st p).testBit i = true ∧ (zA (mTo 2) st p).testBit j = true := by
  have h64 := p64 hp
  unfold zG at h
  split at h
  · simp at h
  · split at h
    · rw [zb_an_bit _ (by have := zM_lt mTo (zA_lt (mTo 2) st p) i; omega)] at h
      simp at h
      exact zM_bit mTo h.1
    · simp at h
theorem u_26s (hV : IvV p q d vP vS vD vKi vMe vOw mTo) (hS : StOK p q mTo st) {i n : Nat} (hi : i < p) (hn : n < q) (a : Int32) : L_X9_goes_26 i mTo st (n + 1) a = L_X9_goes_26 i mTo st n (L_X9_goes_89 (nI (zG mTo st p i n)) n p a) := by
  have hq := hV.1.2.2.1
  have hp := hV.1.2.1
  obtain ⟨e, a1, e', b, f⟩ := s_kn hq hp hS hn
  rw [L_X9_goes_26, s_to0 hV, e', s_knows9 hq hp hS (by omega) hn, s_meet9 hV hi, e, zb_not]
  unfold zG
  by_cases c : zO mTo n = i
  · rw [if_pos (congrArg nI c), if_pos c]; rfl
  · rw [if_neg (fun w => c ((nI_eq (by omega) (by omega)).mp w)), if_neg c]
    by_cases h : (zK st n).testBit i = true
    · rw [if_pos h, if_neg i1, if_pos h]
    · rw [if_neg h, if_pos rfl, if_neg h]; rfl
theorem u_26n (hV : IvV p q d vP vS vD vKi vMe vOw mTo) (hS : StOK p q mTo st) {i : Nat} (hi : i < p) (n : Nat) (hn : n ≤ q) (a : Int32) (h : ∀ k, k < n → zG mTo st p i k = 0) : L_X9_goes_26 i mTo st n a = a := by
  have hp := hV.1.2.1
  induction n generalizing a with
  | zero => rfl
  | succ n ih =>
    rw [u_26s hV hS hi (by omega), h n (by omega), u_89n (by decide) _ _ _ (by omega) (fun j _ => Nat.zero_testBit j)]
    exact ih (by omega) a (fun k hk => h k (by omega))
theorem u_26 (hV : IvV p q d vP vS vD vKi vMe vOw mTo) (hS : StOK p q mTo st) {i k0 j0 : Nat} (hi : i < p) (n : Nat) (hn : n ≤ q) (a : Int32) (hk : k0 < n) (h : ∀ k, k < k0 → zG mTo st p i k = 0) (hj : j0 < p) (b : (zG mTo st p i k0).testBit j0 = true) (hb : ∀ j', j' < j0 → (zG mTo st p i k0).testBit j' = false) : L_X9_goes_26 i mTo st n a = nI (8 * k0 + j0) := by
  have hp := hV.1.2.1
  have h64 := p64 hp
  induction n generalizing a with
  | zero => omega
  | succ n ih =>
    rw [u_26s hV hS hi (by omega)]
    by_cases e : k0 = n
    · subst e
      rw [u_89 (by have := zG_lt mTo st p i k0; omega) _ _ _ (by omega) hj b hb]
      exact u_26n hV hS hi _ (by omega) _ h
    · exact ih (by omega) _ (by omega)
theorem u_wz (hV : IvV p q d vP vS vD vKi vMe vOw mTo) (hr : ∀ k, k < 15 → row k = st k) (hS : StOK p q mTo st) {i j : Nat} (n : Nat) (hi : i < p) (hj : j < q) : L_X6_whisper_2 (nI i) row vP vS vD vKi vMe vOw (n + 1) j = if zG mTo st p i j = 0 then L_X6_whisper_2 (nI i) row vP vS vD vKi vMe vOw n (j + 1) else (f_X6_speak row vP vS vD (nI j) ((1 : Int32) <<< (f_X8_lowestOf (nI (zG mTo st p i j)) &&& 31)), g_X6_speak_row row vP vS vD vKi vOw (nI i) (nI j) ((1 : Int32) <<< (f_X8_lowestOf (nI (zG mTo st p i j)) &&& 31))) := by
  have hq := hV.1.2.2.1
  have hp := hV.1.2.1
  have h64 := p64 hp
  obtain ⟨e, a, e', b, f⟩ := s_kn hq hp hS hj
  rw [L_X6_whisper_2, s_knows6 hV hr hS (by omega) hj, s_own6 hV hj, s_meet6 hV hr (by omega), s_knw6 hV hr hS hj, zb_not]
  unfold zG
  by_cases h : (zK st j).testBit i = true
  · rw [if_pos h, if_neg i1]
    by_cases c : zO mTo j = i
    · rw [if_pos (congrArg nI c), if_pos c, if_pos rfl]
    · rw [if_neg (fun w => c ((nI_eq (by omega) (by omega)).mp w)), if_neg c, if_pos h]
      have hl := Nat.lt_of_le_of_lt (zb_an_le (zM mTo (zA (mTo 2) st p) i) (zK st j)) (zM_lt mTo (zA_lt (mTo 2) st p) i)
      by_cases z : zb_an (zM mTo (zA (mTo 2) st p) i) (zK st j) = 0
      · rw [if_pos ((z0 (by omega)).mpr z), if_pos z]
      · rw [if_neg (fun w => z ((z0 (by omega)).mp w)), if_neg z]
  · rw [if_neg h, if_pos rfl, if_neg h, ite_self, if_pos rfl]
theorem u_wq (hV : IvV p q d vP vS vD vKi vMe vOw mTo) {i j : Nat} (n : Nat) (hi : i < p) (hj : ¬ j < q) (hj' : j < 2 ^ 31) : L_X6_whisper_2 (nI i) row vP vS vD vKi vMe vOw (n + 1) j = L_X6_whisper_2 (nI i) row vP vS vD vKi vMe vOw n (j + 1) := by
  have hp := hV.1.2.1
  rw [L_X6_whisper_2, s_knows6n hV (by omega) hj hj', if_pos rfl]
theorem u_wn (hV : IvV p q d vP vS vD vKi vMe vOw mTo) (hr : ∀ k, k < 15 → row k = st k) (hS : StOK p q mTo st) {i : Nat} (hi : i < p) (n j : Nat) (hj : j + n ≤ 8) (h : ∀ k, k < q → zG mTo st p i k = 0) : L_X6_whisper_2 (nI i) row vP vS vD vKi vMe vOw n j = (0, row) := by
  induction n generalizing j with
  | zero => rfl
  | succ n ih =>
    rcases Nat.lt_or_ge j q with w | w
    · rw [u_wz hV hr hS n hi w, if_pos (h j w)]; exact ih _ (by omega)
    · rw [u_wq hV n hi (by omega) (by omega)]; exact ih _ (by omega)
theorem u_w (hV : IvV p q d vP vS vD vKi vMe vOw mTo) (hr : ∀ k, k < 15 → row k = st k) (hS : StOK p q mTo st) {i k0 : Nat} (hi : i < p) (n j : Nat) (hj : j + n ≤ 8) (h1 : j ≤ k0) (h2 : k0 < j + n) (hk : k0 < q) (h : ∀ k, k < k0 → zG mTo st p i k = 0) (hz : ¬ zG mTo st p i k0 = 0) : L_X6_whisper_2 (nI i) row vP vS vD vKi vMe vOw n j = (f_X6_speak row vP vS vD (nI k0) ((1 : Int32) <<< (f_X8_lowestOf (nI (zG mTo st p i k0)) &&& 31)), g_X6_speak_row row vP vS vD vKi vOw (nI i) (nI k0) ((1 : Int32) <<< (f_X8_lowestOf (nI (zG mTo st p i k0)) &&& 31))) := by
  induction n generalizing j with
  | zero => omega
  | succ n ih =>
    rw [u_wz hV hr hS n hi (by omega)]
    by_cases e : j = k0
    · subst e; rw [if_neg hz]
    · rw [if_pos (h j (by omega))]; exact ih _ (by omega) (by omega) (by omega)
/-- one's turn -/
theorem u_turn (hV : IvV p q d vP vS vD vKi vMe vOw mTo) (hr : ∀ k, k < 15 → row k = st k) (hS : StOK p q mTo st) {i : Nat} (hi : i < p) :
    (f_X6_isAlive row vP vD (nI i) = 0 ∧ L_X9_goes_26 i mTo st q (-1) = -1) ∨ (¬ f_X6_isAlive row vP vD (nI i) = 0 ∧ f_X6_whisper row vP vS vD vKi vMe vOw (nI i) = 0 ∧ g_X6_whisper_row row vP vS vD vKi vMe vOw (nI i) = row ∧ L_X9_goes_26 i mTo st q (-1) = -1)
    ∨ ∃ k j, k < q ∧ j < p ∧ ¬ f_X6_isAlive row vP vD (nI i) = 0 ∧ L_X9_goes_26 i mTo st q (-1) = nI (8 * k + j) ∧ (zA (mTo 2) st p).testBit j = true ∧ f_X6_whisper row vP vS vD vKi vMe vOw (nI i) = f_X6_speak row vP vS vD (nI k) (nI (2 ^ j)) ∧ g_X6_whisper_row row vP vS vD vKi vMe vOw (nI i) = g_X6_speak_row row vP vS vD vKi vOw (nI i) (nI k) (nI (2 ^ j)) := by
  have hq := hV.1.2.2.1
  have hp := hV.1.2.1
  have h64 := p64 hp
  rcases fst_or (fun k => ¬ zG mTo st p i k = 0) q with h | ⟨k, a, b, c⟩
  · have h' : ∀ k, k < q → zG mTo st p i k = 0 := fun k hk => Classical.byContradiction (h k hk)
    have e := u_26n hV hS hi q (Nat.le_refl _) (-1) h'
    by_cases z : f_X6_isAlive row vP vD (nI i) = 0
    · left; exact ⟨z, e⟩
    · right; left
      have w := u_wn hV hr hS hi 8 0 (by omega) h'
      unfold f_X6_whisper g_X6_whisper_row
      rw [w]; exact ⟨z, rfl, rfl, e⟩
  · have c' : ∀ k', k' < k → zG mTo st p i k' = 0 := fun k' hk => Classical.byContradiction (c k' hk)
    rcases low_or (zG_lt mTo st p i k) with z | ⟨j, a1, b1, c1⟩
    · exact absurd z b
    · right; right
      obtain ⟨hA, hB⟩ := zG_bit hp b1
      have w := u_w hV hr hS hi 8 0 (by omega) (Nat.zero_le _) (by omega) a c' b
      have l : f_X8_lowestOf (nI (zG mTo st p i k)) = nI j := u_low (by have := zG_lt mTo st p i k; omega) 6 (by omega) (Nat.zero_le _) (by omega) b1 c1
      rw [l, zb_sh j (by omega)] at w
      refine ⟨k, j, a, a1, ?_, u_26 hV hS hi q (Nat.le_refl _) (-1) a c' a1 b1 c1, hB, ?_, ?_⟩
      · rw [s_al6 hV hr (by omega), if_pos hA]; exact i1
      · unfold f_X6_whisper; rw [w]
      · unfold g_X6_whisper_row; rw [w]
theorem u_pow {j : Nat} {A : Nat} (h : A.testBit j = true) : ∀ i, (2 ^ j).testBit i = true → A.testBit i = true := fun i w => by
  rw [Nat.testBit_two_pow] at w
  have : j = i := by simpa using w
  rw [← this]; exact h
theorem u_go (hV : IvV p q d vP vS vD vKi vMe vOw mTo) (hr : ∀ k, k < 15 → row k = st k) (hS : StOK p q mTo st) (n : Nat) (hn : n ≤ p) :
    (F_X6_passDay_4 vP vS vD vKi vMe vOw 0 row n).1 = (F_X9_goes_4 mTo 0 st n).1 ∧ (∀ j, j < 15 → (F_X6_passDay_4 vP vS vD vKi vMe vOw 0 row n).2 j = (F_X9_goes_4 mTo 0 st n).2 j) ∧ StOK p q mTo (F_X9_goes_4 mTo 0 st n).2 ∧ ∀ j, j < p → (zA (mTo 2) st p).testBit j = false → (F_X9_goes_4 mTo 0 st n).2 j = st j := by
  have hq := hV.1.2.2.1
  have hp := hV.1.2.1
  induction n with
  | zero => exact ⟨rfl, hr, hS, fun _ _ _ => rfl⟩
  | succ n ih =>
    obtain ⟨i1', i2, i3, i4⟩ := ih (by omega)
    rw [F_X6_passDay_4, F_X9_goes_4, s_to1 hV]
    rcases u_turn hV i2 i3 (show n < p by omega) with ⟨z, e⟩ | ⟨z, w1, w2, e⟩ | ⟨k, j, hk, hj, z, e, hA, w1, w2⟩
    · rw [if_pos z, e, if_neg (show ¬ (0 : Int32) ≤ -1 by decide), Int32.add_zero]
      exact ⟨i1', i2, i3, i4⟩
    · rw [if_neg z, e, if_neg (show ¬ (0 : Int32) ≤ -1 by decide), w1, w2, Int32.add_zero, Int32.add_zero]
      exact ⟨i1', i2, i3, i4⟩
    · obtain ⟨d1, d2, d3⟩ := u_dv k (by omega) j (by omega)
      rw [if_neg z, e, if_pos d3, d2, d1, zb_sh j (by omega), w1, w2]
      obtain ⟨t1, t2, t3, -, t5⟩ := t_tells hV i2 i3 (show n < p by omega) hk (u_pow hA)
      refine ⟨?_, t1, t2, fun j' hj' w => ?_⟩
      · show _ + _ = _ + _
        rw [t3, i1']
      · have w' : (zA (mTo 2) (F_X9_goes_4 mTo 0 st n).2 p).testBit j' = false := by
          cases c : (zA (mTo 2) (F_X9_goes_4 mTo 0 st n).2 p).testBit j'
          · rfl
          · have := t_dead i4 j' c
            rw [w] at this; cases this
        show g_X9_tells_mSt mTo (F_X9_goes_4 mTo 0 st n).2 (nI n) (nI k) (nI (2 ^ j)) j' = st j'
        rw [t5 j' hj' w', i4 j' hj' w]
theorem u_pd (hV : IvV p q d vP vS vD vKi vMe vOw mTo) (m : Nat) (hm : p + m ≤ 6) : F_X6_passDay_4 vP vS vD vKi vMe vOw 0 row (p + m) = F_X6_passDay_4 vP vS vD vKi vMe vOw 0 row p := by
  induction m with
  | zero => rfl
  | succ m ih =>
    rw [← Nat.add_assoc, F_X6_passDay_4, ih (by omega), s_al6 hV (row := (F_X6_passDay_4 vP vS vD vKi vMe vOw 0 row p).2) (st := (F_X6_passDay_4 vP vS vD vKi vMe vOw 0 row p).2) (fun _ _ => rfl) (by omega), zb_hi (zA_lt _ _ _) (by omega)]
    rfl
theorem u_day (hV : IvV p q d vP vS vD vKi vMe vOw mTo) (hr : ∀ k, k < 15 → row k = st k) (hS : StOK p q mTo st) :
    f_X6_passDay row vP vS vD vKi vMe vOw = f_X9_goes mTo st ∧ (∀ j, j < 15 → g_X6_passDay_row row vP vS vD vKi vMe vOw j = g_X9_goes_mSt mTo st j) ∧ StOK p q mTo (g_X9_goes_mSt mTo st) ∧ ∀ j, j < p → (zA (mTo 2) st p).testBit j = false → g_X9_goes_mSt mTo st j = st j := by
  have hq := hV.1.2.2.1
  have hp := hV.1.2.1
  obtain ⟨h1, h2, h3, h4⟩ := u_go hV hr hS p (Nat.le_refl _)
  have e := u_pd (row := row) hV (6 - p) (by omega)
  rw [show p + (6 - p) = 6 by omega] at e
  unfold f_X6_passDay f_X9_goes g_X6_passDay_row g_X9_goes_mSt
  rw [e, s_to0 hV]
  refine ⟨h1, fun j hj => ?_, fun k hk => ?_, fun j hj w => ?_⟩
  · unfold upd
    by_cases c : j = 14
    · rw [if_pos c, if_pos c, h2 14 (by omega)]
    · rw [if_neg c, if_neg c, h2 j hj]
  · obtain ⟨K, o, a, b, c⟩ := h3 k hk
    exact ⟨K, o, a, by unfold upd; rw [if_neg (by omega)]; exact b, c⟩
  · unfold upd; rw [if_neg (by omega)]; exact h4 j hj w
end DY
