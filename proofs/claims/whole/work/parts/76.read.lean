/-! the text read -/
def fg (c : Nat → Nat) (n a : Nat) : Bool := decide (a < n) && (decide (48 ≤ c a) && decide (c a ≤ 57))
/-- a number: which, and the place behind it -/
def nu (c : Nat → Nat) (n a : Nat) : Option (Nat × Nat) := if fg c n a then (if fg c n (a + 1) then some (10 * (c a - 48) + (c (a + 1) - 48), a + 2) else some (c a - 48, a + 1)) else none
def sg (c : Nat → Nat) (n b e : Nat) : Bool := decide (e < n) && decide (c e = b)
def tw (c : Nat → Nat) (n a : Nat) : Option (Nat × Nat × Nat) := match nu c n a with
  | none => none
  | some (v, e) => if sg c n 44 e then (match nu c n (e + 1) with
    | none => none
    | some (w, e') => if sg c n 59 e' then some (v, w, e' + 1) else none) else none
def Tx (tN : Int32) (tL : Nat → Int32) (n : Nat) (mTx : Nat → Int32) (c : Nat → Nat) : Prop := tN = nI n ∧ n ≤ 200 ∧ ∀ k, k < n → c k < 127 ∧ tL k = nI (c k) ∧ mTx k = nI (c k)
theorem r_f6 : ∀ x, x < 127 → (f_X2_isFigure (nI x) = if (decide (48 ≤ x) && decide (x ≤ 57)) = true then 1 else 0) ∧ f_X9_isFigure (nI x) = if (decide (48 ≤ x) && decide (x ≤ 57)) = true then 1 else 0 := by decide +kernel
theorem r_d1 : ∀ x, x < 58 → 48 ≤ x → nI x - 48 = nI (x - 48) := by decide +kernel
theorem r_d2 : ∀ x, x < 58 → 48 ≤ x → ∀ y, y < 58 → 48 ≤ y → (nI x - 48) * 10 + (nI y - 48) = nI (10 * (x - 48) + (y - 48)) ∧ 10 * (nI x - 48) + nI y - 48 = nI (10 * (x - 48) + (y - 48)) := by decide +kernel
section RD
variable {tN : Int32} {tL mTx : Nat → Int32} {n : Nat} {c : Nat → Nat}
theorem r_at6 (hT : Tx tN tL n mTx c) {a : Nat} (ha : a < 2 ^ 31) : f_X3_at tN tL (nI a) = if a < n then nI (c a) else 0 := by
  obtain ⟨rfl, hn, h⟩ := hT
  unfold f_X3_at
  rw [if_neg (nI_pos ha)]
  by_cases w : a < n
  · rw [if_neg (nI_ge w (by omega)), if_neg (show ¬ (200 : Int32) ≤ nI a from nI_ge (b := 200) (by omega) (by decide)), if_pos w, nI_clamp ha, (h a w).2.1]
  · rw [if_pos (nI_le (by omega) ha), if_neg w]
theorem r_at9 (hT : Tx tN tL n mTx c) {a : Nat} (ha : a < 2 ^ 31) : f_X9_letterAt n mTx (nI a) = if a < n then nI (c a) else -1 := by
  obtain ⟨-, hn, h⟩ := hT
  unfold f_X9_letterAt
  by_cases w : a < n
  · rw [if_neg (nI_ge w (by omega)), if_pos w, nI_clamp ha, (h a w).2.2]
  · rw [if_pos (nI_le (by omega) ha), if_neg w]
theorem r_fg6 (hT : Tx tN tL n mTx c) {a : Nat} (ha : a < 2 ^ 31) : f_X2_isFigure (f_X3_at tN tL (nI a)) = if fg c n a then 1 else 0 := by
  rw [r_at6 hT ha]
  unfold fg
  by_cases w : a < n
  · rw [if_pos w, (r_f6 _ (hT.2.2 a w).1).1]; simp [w]
  · rw [if_neg w]; simp only [w, decide_false, Bool.false_and]; rfl
theorem r_fg9 (hT : Tx tN tL n mTx c) {a : Nat} (ha : a < 2 ^ 31) : f_X9_isFigure (f_X9_letterAt n mTx (nI a)) = if fg c n a then 1 else 0 := by
  rw [r_at9 hT ha]
  unfold fg
  by_cases w : a < n
  · rw [if_pos w, (r_f6 _ (hT.2.2 a w).1).2]; simp [w]
  · rw [if_neg w]; simp only [w, decide_false, Bool.false_and]; rfl
theorem r_sg6 (hT : Tx tN tL n mTx c) {a b : Nat} (ha : a < 2 ^ 31) (h0 : 0 < b) (hb : b < 127) : f_X3_at tN tL (nI a) = nI b ↔ sg c n b a = true := by
  rw [r_at6 hT ha]
  unfold sg
  by_cases w : a < n
  · have := (hT.2.2 a w).1
    rw [if_pos w, nI_eq (by omega) (by omega)]; simp [w]
  · rw [if_neg w, show (0 : Int32) = nI 0 from rfl, nI_eq (by omega) (by omega)]; simp only [w, decide_false, Bool.false_and]
    exact ⟨fun z => by omega, fun z => absurd z (by decide)⟩
theorem r_m1 : ∀ b, b < 127 → ¬ (-1 : Int32) = nI b := by decide +kernel
theorem r_sg9 (hT : Tx tN tL n mTx c) {a b : Nat} (ha : a < 2 ^ 31) (hb : b < 127) : f_X9_letterAt n mTx (nI a) = nI b ↔ sg c n b a = true := by
  rw [r_at9 hT ha]
  unfold sg
  by_cases w : a < n
  · have := (hT.2.2 a w).1
    rw [if_pos w, nI_eq (by omega) (by omega)]; simp [w]
  · rw [if_neg w]; simp only [w, decide_false, Bool.false_and]
    exact ⟨fun z => absurd z (r_m1 b hb), fun z => absurd z (by decide)⟩
theorem fg_t {a : Nat} (h : fg c n a = true) : a < n ∧ 48 ≤ c a ∧ c a < 58 := by
  unfold fg at h; simp at h; omega
theorem sg_t {a b : Nat} (h : sg c n b a = true) : a < n ∧ c a = b := by
  unfold sg at h; simp at h; exact h
theorem r_nn (hT : Tx tN tL n mTx c) {a : Nat} (ha : a < 2 ^ 30) (h : nu c n a = none) : (∀ b, f_X2_readNumber (nI a) tN tL b = 0) ∧ f_X9_number n a mTx = -1 := by
  unfold nu at h
  have hf : fg c n a = false := by
    cases w : fg c n a
    · rfl
    · rw [w] at h; simp only [if_true] at h; split at h <;> cases h
  unfold f_X2_readNumber f_X9_number
  rw [r_fg6 hT (by omega), r_fg9 hT (by omega), hf]
  exact ⟨fun b => rfl, rfl⟩
theorem r_ns (hT : Tx tN tL n mTx c) {a v e : Nat} (ha : a < 2 ^ 30) (h : nu c n a = some (v, e)) : v ≤ 99 ∧ a < e ∧ e ≤ n ∧ (∀ b, 0 < b → b < 127 → (f_X2_readNumber (nI a) tN tL (nI b) = if sg c n b e then 1 else 0) ∧ (sg c n b e = true → g_X2_readNumber_rp (nI a) tN tL (nI b) = nI (e + 1))) ∧ (∀ rn, g_X2_readNumber_rn (nI a) rn tN tL = nI v) ∧ f_X9_number n a mTx = nI v ∧ g_X9_number_mAt n a mTx = e := by
  unfold nu at h
  cases w : fg c n a
  · rw [w] at h; cases h
  · obtain ⟨a1, a2, a3⟩ := fg_t w
    have e6 : f_X3_at tN tL (nI a) = nI (c a) := by rw [r_at6 hT (by omega), if_pos a1]
    have e9 : f_X9_letterAt n mTx (nI a) = nI (c a) := by rw [r_at9 hT (by omega), if_pos a1]
    rw [w] at h
    simp only [if_true] at h
    unfold f_X2_readNumber g_X2_readNumber_rp g_X2_readNumber_rn f_X9_number g_X9_number_mAt
    simp only [nI_1, r_fg6 hT (show a < 2 ^ 31 by omega), r_fg6 hT (show a + 1 < 2 ^ 31 by omega), r_fg9 hT (show a < 2 ^ 31 by omega), r_fg9 hT (show a + 1 < 2 ^ 31 by omega), w, if_true, if_neg i1]
    cases y : fg c n (a + 1)
    · rw [y] at h
      have h' : some (c a - 48, a + 1) = some (v, e) := h
      injection h' with h'
      injection h' with h1 h2
      subst h1; subst h2
      refine ⟨by omega, by omega, by omega, fun b h0 hb => ⟨?_, fun z => ?_⟩, fun rn => ?_, ?_, ?_⟩
      · show (if f_X3_at tN tL (nI (a + 1)) = nI b then (1 : Int32) else 0) = _
        exact ite_congr (propext (r_sg6 hT (by omega) h0 hb)) (fun _ => rfl) (fun _ => rfl)
      · show (if f_X3_at tN tL (nI (a + 1)) = nI b then nI (a + 1 + 1) else nI (a + 1)) = _
        rw [if_pos ((r_sg6 hT (by omega) h0 hb).mpr z)]
      · show f_X3_at tN tL (nI a) - 48 = _
        rw [e6, r_d1 _ (by omega) (by omega)]
      · show f_X9_letterAt n mTx (nI a) - 48 = _
        rw [e9, r_d1 _ (by omega) (by omega)]
      · rfl
    · obtain ⟨b1, b2, b3⟩ := fg_t y
      have e6' : f_X3_at tN tL (nI (a + 1)) = nI (c (a + 1)) := by rw [r_at6 hT (by omega), if_pos b1]
      have e9' : f_X9_letterAt n mTx (nI (a + 1)) = nI (c (a + 1)) := by rw [r_at9 hT (by omega), if_pos b1]
      obtain ⟨d1, d2⟩ := r_d2 _ a3 a2 _ b3 b2
      rw [y] at h
      have h' : some (10 * (c a - 48) + (c (a + 1) - 48), a + 2) = some (v, e) := h
      injection h' with h'
      injection h' with h1 h2
      subst h1; subst h2
      refine ⟨by omega, by omega, by omega, fun b h0 hb => ⟨?_, fun z => ?_⟩, fun rn => ?_, ?_, ?_⟩
      · show (if f_X3_at tN tL (nI (a + 1 + 1)) = nI b then (1 : Int32) else 0) = _
        exact ite_congr (propext (r_sg6 hT (by omega) h0 hb)) (fun _ => rfl) (fun _ => rfl)
      · show (if f_X3_at tN tL (nI (a + 1 + 1)) = nI b then nI (a + 1 + 1 + 1) else nI (a + 1 + 1)) = _
        rw [if_pos ((r_sg6 hT (by omega) h0 hb).mpr z)]
      · show (f_X3_at tN tL (nI a) - 48) * 10 + (f_X3_at tN tL (nI (a + 1)) - 48) = _
        rw [e6, e6', d1]
      · show 10 * (f_X9_letterAt n mTx (nI a) - 48) + f_X9_letterAt n mTx (nI (a + 1)) - 48 = _
        rw [e9, e9', d2]
      · rfl
theorem r_sn (hT : Tx tN tL n mTx c) {e b : Nat} (he : e < 2 ^ 31) (hb : b < 127) : (f_X9_sign n e mTx (nI b) = if sg c n b e then 1 else 0) ∧ (sg c n b e = true → g_X9_sign_mAt n e mTx (nI b) = e + 1) := by
  unfold f_X9_sign g_X9_sign_mAt
  exact ⟨ite_congr (propext (r_sg9 hT he hb)) (fun _ => rfl) (fun _ => rfl), fun z => by rw [if_pos ((r_sg9 hT he hb).mpr z)]⟩
theorem r_nn0 {v : Nat} (hv : v ≤ 99) : ¬ nI v < 0 := nI_pos (by omega)
theorem r_tn (hT : Tx tN tL n mTx c) {a : Nat} (ha : a < 2 ^ 29) (h : tw c n a = none) : (f_X2_readNumber (nI a) tN tL 44 = 0 ∨ (¬ f_X2_readNumber (nI a) tN tL 44 = 0 ∧ f_X2_readNumber (g_X2_readNumber_rp (nI a) tN tL 44) tN tL 59 = 0)) ∧ f_X9_two n a mTx = 0 := by
  have hn := hT.2.1
  unfold tw at h
  unfold f_X9_two
  cases w : nu c n a with
  | none =>
    obtain ⟨h1, h2⟩ := r_nn hT (by omega) w
    exact ⟨.inl (h1 _), by rw [h2, if_pos (by decide)]⟩
  | some ve =>
    obtain ⟨v, e⟩ := ve
    obtain ⟨g1, g2, g3, g4, g5, g6, g7⟩ := r_ns hT (by omega) w
    obtain ⟨k1, k2⟩ := g4 44 (by decide) (by decide)
    obtain ⟨s1, s2⟩ := r_sn hT (e := e) (b := 44) (by omega) (by decide)
    have k1 : f_X2_readNumber (nI a) tN tL 44 = if sg c n 44 e then 1 else 0 := k1
    have k2 : sg c n 44 e = true → g_X2_readNumber_rp (nI a) tN tL 44 = nI (e + 1) := k2
    have s1 : f_X9_sign n e mTx 44 = if sg c n 44 e then 1 else 0 := s1
    have s2 : sg c n 44 e = true → g_X9_sign_mAt n e mTx 44 = e + 1 := s2
    rw [g6, if_neg (r_nn0 g1), g7, s1, k1]
    cases x : sg c n 44 e
    · exact ⟨.inl rfl, rfl⟩
    · rw [k2 x, s2 x]
      rw [w] at h
      simp only [x, if_true] at h
      simp only [if_true, if_neg i1]
      cases y : nu c n (e + 1) with
      | none =>
        obtain ⟨h1, h2⟩ := r_nn hT (by omega) y
        exact ⟨.inr ⟨i1, h1 _⟩, by rw [h2, if_pos (by decide)]⟩
      | some ve' =>
        obtain ⟨v', e'⟩ := ve'
        obtain ⟨l1, l2, l3, l4, l5, l6, l7⟩ := r_ns hT (by omega) y
        have m1 : f_X2_readNumber (nI (e + 1)) tN tL 59 = if sg c n 59 e' then 1 else 0 := (l4 59 (by decide) (by decide)).1
        have t1 : f_X9_sign n e' mTx 59 = if sg c n 59 e' then 1 else 0 := (r_sn hT (by omega) (by decide)).1
        rw [y] at h
        simp only at h
        have z : sg c n 59 e' = false := by
          cases z : sg c n 59 e'
          · rfl
          · rw [z] at h; cases h
        rw [l6, if_neg (r_nn0 l1), l7, t1, m1, z]
        exact ⟨.inr ⟨i1, rfl⟩, rfl⟩
theorem r_ts (hT : Tx tN tL n mTx c) {a v w e : Nat} (ha : a < 2 ^ 29) (h : tw c n a = some (v, w, e)) : v ≤ 99 ∧ w ≤ 99 ∧ a < e ∧ e ≤ n ∧ f_X2_readNumber (nI a) tN tL 44 = 1 ∧ f_X2_readNumber (g_X2_readNumber_rp (nI a) tN tL 44) tN tL 59 = 1 ∧ (∀ rn, g_X2_readNumber_rn (nI a) rn tN tL = nI v) ∧ (∀ rn, g_X2_readNumber_rn (g_X2_readNumber_rp (nI a) tN tL 44) rn tN tL = nI w) ∧ g_X2_readNumber_rp (g_X2_readNumber_rp (nI a) tN tL 44) tN tL 59 = nI e
    ∧ f_X9_two n a mTx = 1 ∧ g_X9_two_mFi n a mTx = nI v ∧ (∀ sc, g_X9_two_mSc n a sc mTx = nI w) ∧ g_X9_two_mAt n a mTx = e := by
  have hn := hT.2.1
  unfold tw at h
  unfold f_X9_two g_X9_two_mFi g_X9_two_mSc g_X9_two_mAt
  cases x0 : nu c n a with
  | none => rw [x0] at h; cases h
  | some ve =>
    obtain ⟨v1, e1⟩ := ve
    obtain ⟨g1, g2, g3, g4, g5, g6, g7⟩ := r_ns hT (by omega) x0
    obtain ⟨k1, k2⟩ := g4 44 (by decide) (by decide)
    obtain ⟨s1, s2⟩ := r_sn hT (e := e1) (b := 44) (by omega) (by decide)
    have k1 : f_X2_readNumber (nI a) tN tL 44 = if sg c n 44 e1 then 1 else 0 := k1
    have k2 : sg c n 44 e1 = true → g_X2_readNumber_rp (nI a) tN tL 44 = nI (e1 + 1) := k2
    have s1 : f_X9_sign n e1 mTx 44 = if sg c n 44 e1 then 1 else 0 := s1
    have s2 : sg c n 44 e1 = true → g_X9_sign_mAt n e1 mTx 44 = e1 + 1 := s2
    rw [x0] at h
    cases x : sg c n 44 e1
    · simp only [x] at h; cases h
    · simp only [x, if_true] at h
      have hx := (sg_t x).1
      cases y : nu c n (e1 + 1) with
      | none => rw [y] at h; cases h
      | some ve' =>
        obtain ⟨v', e'⟩ := ve'
        obtain ⟨l1, l2, l3, l4, l5, l6, l7⟩ := r_ns hT (by omega) y
        have m1 : f_X2_readNumber (nI (e1 + 1)) tN tL 59 = if sg c n 59 e' then 1 else 0 := (l4 59 (by decide) (by decide)).1
        have m2 : sg c n 59 e' = true → g_X2_readNumber_rp (nI (e1 + 1)) tN tL 59 = nI (e' + 1) := (l4 59 (by decide) (by decide)).2
        have t1 : f_X9_sign n e' mTx 59 = if sg c n 59 e' then 1 else 0 := (r_sn hT (by omega) (by decide)).1
        have t2 : sg c n 59 e' = true → g_X9_sign_mAt n e' mTx 59 = e' + 1 := (r_sn hT (by omega) (by decide)).2
        rw [y] at h
        simp only at h
        cases z : sg c n 59 e'
        · rw [z] at h; cases h
        · rw [z] at h
          have h' : some (v1, v', e' + 1) = some (v, w, e) := h
          injection h' with h'
          injection h' with h1 h'
          injection h' with h2 h3
          subst h1; subst h2; subst h3
          have hz := (sg_t z).1
          rw [x] at k1 s1
          rw [z] at m1 t1
          simp only [g6, g7, s1, s2 x, if_true, if_neg (r_nn0 g1), if_neg i1, l6, l7, if_neg (r_nn0 l1), t1, t2 z, k1, k2 x, m1, m2 z]
          exact ⟨g1, l1, by omega, by omega, trivial, trivial, g5, l5, trivial, trivial, trivial, fun _ => trivial, trivial⟩
end RD
