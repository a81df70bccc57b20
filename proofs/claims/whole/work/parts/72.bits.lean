/-! bits of small numbers -/
theorem zb_and (a b : Nat) : nI a &&& nI b = nI (a &&& b) := by
  apply Int32.toBitVec_inj.mp
  show BitVec.ofNat 32 a &&& BitVec.ofNat 32 b = BitVec.ofNat 32 (a &&& b)
  apply BitVec.eq_of_getLsbD_eq
  intro i hi
  simp [BitVec.getLsbD_and, BitVec.getLsbD_ofNat, Nat.testBit_and, hi]
theorem zb_or (a b : Nat) : nI a ||| nI b = nI (a ||| b) := by
  apply Int32.toBitVec_inj.mp
  show BitVec.ofNat 32 a ||| BitVec.ofNat 32 b = BitVec.ofNat 32 (a ||| b)
  apply BitVec.eq_of_getLsbD_eq
  intro i hi
  simp [BitVec.getLsbD_or, BitVec.getLsbD_ofNat, Nat.testBit_or, hi]
theorem zb_xor (a b : Nat) : nI a ^^^ nI b = nI (a ^^^ b) := by
  apply Int32.toBitVec_inj.mp
  show BitVec.ofNat 32 a ^^^ BitVec.ofNat 32 b = BitVec.ofNat 32 (a ^^^ b)
  apply BitVec.eq_of_getLsbD_eq
  intro i hi
  simp [BitVec.getLsbD_xor, BitVec.getLsbD_ofNat, Nat.testBit_xor, hi]
/-- those of a that are not of b -/
def zb_an (a b : Nat) : Nat := a &&& (b ^^^ 4294967295)
theorem zb_not (a b : Nat) : nI a &&& (nI b ^^^ (-1)) = nI (zb_an a b) := by
  rw [show (-1 : Int32) = nI 4294967295 by decide, zb_xor, zb_and]; rfl
theorem zb_an_bit {a : Nat} (b : Nat) (ha : a < 2 ^ 32) (i : Nat) : (zb_an a b).testBit i = (a.testBit i && !b.testBit i) := by
  unfold zb_an
  rw [Nat.testBit_and, Nat.testBit_xor, show 4294967295 = 2 ^ 32 - 1 from rfl, Nat.testBit_two_pow_sub_one]
  by_cases h : i < 32
  · simp [h]
  · rw [Nat.testBit_lt_two_pow (x := a) (i := i) (Nat.lt_of_lt_of_le ha (Nat.pow_le_pow_right (by decide) (by omega)))]; simp
theorem zb_an_le (a b : Nat) : zb_an a b ≤ a := Nat.and_le_left
theorem zb_sh : ∀ j, j < 31 → (1 : Int32) <<< (nI j &&& 31) = nI (2 ^ j) := by decide +kernel
theorem zb_t0 : ∀ a, a < 256 → ∀ j, j < 8 → ((nI a >>> (nI j &&& 31)) &&& 1) = if a.testBit j then 1 else 0 := by decide +kernel
theorem zb_t {a j : Nat} (ha : a < 256) (hj : j < 8) : ((nI a >>> (nI j &&& 31)) &&& 1) = if a.testBit j then 1 else 0 := zb_t0 a ha j hj
theorem zb_t1 {a j : Nat} (ha : a < 256) (hj : j < 8) : ((nI a >>> (nI j &&& 31)) &&& 1) = 1 ↔ a.testBit j = true := by
  rw [zb_t ha hj]
  by_cases h : a.testBit j = true
  · rw [if_pos h]; exact ⟨fun _ => h, fun _ => rfl⟩
  · rw [if_neg h]; exact ⟨fun w => absurd w (by decide), fun w => absurd w h⟩
theorem zb_has {a j : Nat} (ha : a < 256) (hj : j < 8) : f_X8_has (nI a) (nI j) = if a.testBit j then 1 else 0 := by
  unfold f_X8_has
  rw [zb_t ha hj]
  by_cases h : a.testBit j = true
  · rw [if_pos h]; rfl
  · rw [if_neg h]; rfl
theorem zb_has0 {a j : Nat} (ha : a < 256) (hj : j < 8) : f_X8_has (nI a) (nI j) = 0 ↔ a.testBit j = false := by
  rw [zb_has ha hj]
  by_cases h : a.testBit j = true
  · rw [if_pos h, h]; exact ⟨fun w => absurd w (by decide), fun w => absurd w (by decide)⟩
  · rw [if_neg h]; exact ⟨fun _ => by simpa using h, fun _ => rfl⟩
theorem zb_ones : ∀ a, a < 256 → f_J6_bitCount_0f7a4 (nI a) = f_X9_ones (nI a) := by decide +kernel
/-- how many bits below j -/
def cb (a : Nat) : Nat → Nat
  | 0 => 0
  | j + 1 => cb a j + if a.testBit j then 1 else 0
theorem cb_bc : ∀ a, a < 64 → f_J6_bitCount_0f7a4 (nI a) = nI (cb a 6) := by decide +kernel
theorem cb_le (a j : Nat) : cb a j ≤ j := by
  induction j with
  | zero => exact Nat.le_refl _
  | succ j ih => rw [cb]; split <;> omega
theorem zb_hi {a p j : Nat} (ha : a < 2 ^ p) (hj : p ≤ j) : a.testBit j = false := Nat.testBit_lt_two_pow (Nat.lt_of_lt_of_le ha (Nat.pow_le_pow_right (by decide) hj))
theorem cb_top {a p : Nat} (ha : a < 2 ^ p) (n : Nat) : cb a (p + n) = cb a p := by
  induction n with
  | zero => rfl
  | succ n ih => rw [← Nat.add_assoc, cb, ih, zb_hi ha (by omega)]; rfl
theorem p64 {p : Nat} (h : p ≤ 6) : 2 ^ p ≤ 64 := Nat.pow_le_pow_right (n := 2) (by decide) h
theorem p256 {p : Nat} (h : p ≤ 8) : 2 ^ p ≤ 256 := Nat.pow_le_pow_right (n := 2) (by decide) h
theorem cb_bcp {a p : Nat} (hp : p ≤ 6) (ha : a < 2 ^ p) : f_J6_bitCount_0f7a4 (nI a) = nI (cb a p) := by
  rw [cb_bc a (Nat.lt_of_lt_of_le ha (p64 hp)), ← cb_top ha (6 - p), show p + (6 - p) = 6 by omega]
/-- the set of those below n of which f holds -/
def bs (f : Nat → Bool) : Nat → Nat
  | 0 => 0
  | n + 1 => bs f n ||| if f n then 2 ^ n else 0
theorem bs_bit (f : Nat → Bool) (n i : Nat) : (bs f n).testBit i = (decide (i < n) && f i) := by
  induction n with
  | zero => simp [bs]
  | succ n ih =>
    rw [bs, Nat.testBit_or, ih]
    by_cases h : f n = true
    · rw [if_pos h, Nat.testBit_two_pow]
      by_cases e : n = i
      · subst e; simp [h]
      · have : (i < n) ↔ (i < n + 1) := by omega
        simp [e, this]
    · rw [if_neg h, Nat.zero_testBit]
      by_cases e : n = i
      · subst e; simp at h; simp [h]
      · have : (i < n) ↔ (i < n + 1) := by omega
        simp [this]
theorem bs_lt (f : Nat → Bool) (n : Nat) : bs f n < 2 ^ n := Nat.lt_pow_two_of_testBit _ (fun i h => by rw [bs_bit]; simp; omega)
theorem bs_ext {f g : Nat → Bool} {n m : Nat} (h : ∀ i, (decide (i < n) && f i) = (decide (i < m) && g i)) : bs f n = bs g m := Nat.eq_of_testBit_eq (fun i => by rw [bs_bit, bs_bit, h])
theorem bs_step (f : Nat → Bool) {n : Nat} (hn : n < 31) {x : Int32} (hx : x = nI (bs f n)) : (if f n = true then x ||| ((1 : Int32) <<< (nI n &&& 31)) else x) = nI (bs f (n + 1)) := by
  subst hx
  rw [bs]
  by_cases h : f n = true
  · rw [if_pos h, if_pos h, zb_sh n hn, zb_or]
  · rw [if_neg h, if_neg h, Nat.or_zero]
theorem tn_nI {x : Int32} {n : Nat} (h : x = nI n) (hn : n < 2 ^ 31) : x = nI x.toNatClampNeg ∧ x.toNatClampNeg = n := by
  subst h; rw [nI_clamp hn]; exact ⟨rfl, rfl⟩
theorem i1 : ¬ (1 : Int32) = 0 := by decide
theorem nI_lit (n : Nat) : (OfNat.ofNat n : Int32) = nI n := rfl
/-! who is there, alive, meets, knows -/
/-- those alive -/
def zA (D : Int32) (st : Nat → Int32) (p : Nat) : Nat := bs (fun i => decide (st i < D)) p
/-- whom one meets -/
def zM (to : Nat → Int32) (A i : Nat) : Nat := if A.testBit i then (to (15 + i)).toNatClampNeg &&& A else 0
/-- who knows it, whose it is -/
def zK (st : Nat → Int32) (k : Nat) : Nat := (st (6 + k)).toNatClampNeg
def zO (to : Nat → Int32) (k : Nat) : Nat := (to (21 + k)).toNatClampNeg
theorem zA_lt (D : Int32) (st : Nat → Int32) (p : Nat) : zA D st p < 2 ^ p := bs_lt _ _
theorem zA_bit (D : Int32) (st : Nat → Int32) (p i : Nat) : (zA D st p).testBit i = true ↔ i < p ∧ st i < D := by
  unfold zA; rw [bs_bit]; simp
section ST
variable {p q d : Nat} {vP vS vD : Int32} {vKi vMe vOw mTo row st : Nat → Int32}
theorem s_has6 (hV : IvV p q d vP vS vD vKi vMe vOw mTo) {i : Nat} (hi : i < 2 ^ 31) : f_X7_hasPerson vP (nI i) = if i < p then 1 else 0 := by
  obtain ⟨⟨-, hp, -, -, -⟩, ⟨rfl, -⟩, -⟩ := hV
  unfold f_X7_hasPerson
  rw [if_neg (nI_pos hi)]
  by_cases h : i < p
  · rw [if_neg (nI_ge h (by omega)), if_neg (show ¬ (6 : Int32) ≤ nI i from nI_ge (a := i) (b := 6) (by omega) (by decide)), if_pos h]
  · rw [if_pos (nI_le (by omega) hi), if_neg h]
theorem s_hasS6 (hV : IvV p q d vP vS vD vKi vMe vOw mTo) {i : Nat} (hi : i < 2 ^ 31) : f_X7_hasSecret vS (nI i) = if i < q then 1 else 0 := by
  obtain ⟨⟨-, -, hq, -, -⟩, ⟨-, -, rfl, -⟩, -⟩ := hV
  unfold f_X7_hasSecret
  rw [if_neg (nI_pos hi)]
  by_cases h : i < q
  · rw [if_neg (nI_ge h (by omega)), if_neg (show ¬ (8 : Int32) ≤ nI i from nI_ge (a := i) (b := 8) (by omega) (by decide)), if_pos h]
  · rw [if_pos (nI_le (by omega) hi), if_neg h]
theorem s_al9 (hV : IvV p q d vP vS vD vKi vMe vOw mTo) {i : Nat} (hi : i < p) : f_X9_isAlive mTo st (nI i) = if (zA (mTo 2) st p).testBit i then 1 else 0 := by
  have hp := hV.1.2.1
  unfold f_X9_isAlive
  rw [nI_clamp (by omega)]
  by_cases h : st i < mTo 2
  · rw [if_neg (Int32.not_le.mpr h), if_pos ((zA_bit _ _ _ _).mpr ⟨hi, h⟩)]
  · rw [if_pos (Int32.not_lt.mp h), if_neg (fun w => h ((zA_bit _ _ _ _).mp w).2)]
theorem s_al6 (hV : IvV p q d vP vS vD vKi vMe vOw mTo) (hr : ∀ k, k < 15 → row k = st k) {i : Nat} (hi : i < 2 ^ 31) : f_X6_isAlive row vP vD (nI i) = if (zA (mTo 2) st p).testBit i then 1 else 0 := by
  unfold f_X6_isAlive
  rw [s_has6 hV hi]
  obtain ⟨⟨-, hp, -, -, -⟩, ⟨-, -, -, -, rfl, e⟩, -⟩ := hV
  by_cases c : i < p
  · rw [if_pos c, if_neg i1, nI_clamp hi, hr i (by omega), f_X7_deathAge, ← e]
    by_cases h : st i < mTo 2
    · rw [if_neg (Int32.not_le.mpr h), if_pos ((zA_bit _ _ _ _).mpr ⟨c, h⟩)]
    · rw [if_pos (Int32.not_lt.mp h), if_neg (fun w => h ((zA_bit _ _ _ _).mp w).2)]
  · rw [if_neg c, if_pos rfl, if_neg (fun w => c ((zA_bit _ _ _ _).mp w).1)]
theorem s_liv0 (hV : IvV p q d vP vS vD vKi vMe vOw mTo) (hr : ∀ k, k < 15 → row k = st k) (n : Nat) (hn : n ≤ 6) : F_X6_living_4 row vP vD 0 n = nI (bs (fun i => (zA (mTo 2) st p).testBit i) n) := by
  induction n with
  | zero => rfl
  | succ n ih =>
    have e := bs_step (fun i => (zA (mTo 2) st p).testBit i) (n := n) (by omega) (ih (by omega))
    rw [← e, F_X6_living_4, s_al6 hV hr (by omega)]
    by_cases h : (zA (mTo 2) st p).testBit n = true
    · rw [if_pos h, if_neg i1, if_pos h]
    · rw [if_neg h, if_pos rfl, if_neg h]
theorem s_liv (hV : IvV p q d vP vS vD vKi vMe vOw mTo) (hr : ∀ k, k < 15 → row k = st k) : f_X6_living row vP vD = nI (zA (mTo 2) st p) := by
  unfold f_X6_living
  rw [s_liv0 hV hr 6 (Nat.le_refl _)]
  congr 1
  apply Nat.eq_of_testBit_eq
  intro i
  rw [bs_bit]
  by_cases h : i < 6
  · simp [h]
  · rw [zb_hi (zA_lt _ _ _) (by have := hV.1.2.1; omega)]; simp
theorem s_liv90 (hV : IvV p q d vP vS vD vKi vMe vOw mTo) (n : Nat) (hn : n ≤ p) : F_X9_alive_4 mTo st 0 n = nI (bs (fun i => (zA (mTo 2) st p).testBit i) n) := by
  have hp := hV.1.2.1
  induction n with
  | zero => rfl
  | succ n ih =>
    have e := bs_step (fun i => (zA (mTo 2) st p).testBit i) (n := n) (by omega) (ih (by omega))
    rw [← e, F_X9_alive_4, s_al9 hV (by omega)]
    by_cases h : (zA (mTo 2) st p).testBit n = true
    · rw [if_pos h, if_neg i1, if_pos h]
    · rw [if_neg h, if_pos rfl, if_neg h, Int32.or_zero]
theorem s_to0 (hV : IvV p q d vP vS vD vKi vMe vOw mTo) : Int32.toNatClampNeg (mTo 0) = p := by
  rw [hV.2.1.2.1, nI_clamp (by have := hV.1.2.1; omega)]
theorem s_to1 (hV : IvV p q d vP vS vD vKi vMe vOw mTo) : Int32.toNatClampNeg (mTo 1) = q := by
  rw [hV.2.1.2.2.2.1, nI_clamp (by have := hV.1.2.2.1; omega)]
theorem s_liv9 (hV : IvV p q d vP vS vD vKi vMe vOw mTo) : f_X9_alive mTo st = nI (zA (mTo 2) st p) := by
  unfold f_X9_alive
  rw [s_to0 hV, s_liv90 hV p (Nat.le_refl _)]
  congr 1
  apply Nat.eq_of_testBit_eq
  intro i
  rw [bs_bit]
  by_cases h : i < p
  · simp [h]
  · rw [zb_hi (zA_lt _ _ _) (by omega)]; simp
theorem s_me (hV : IvV p q d vP vS vD vKi vMe vOw mTo) {i : Nat} (hi : i < p) : mTo (15 + i) = nI (mTo (15 + i)).toNatClampNeg ∧ vMe i = nI (mTo (15 + i)).toNatClampNeg ∧ (mTo (15 + i)).toNatClampNeg < 64 := by
  obtain ⟨M, h, a, b⟩ := hV.2.2.2.1 i hi
  obtain ⟨e1, e2⟩ := tn_nI b (by omega)
  exact ⟨e1, by rw [e2]; exact a, by rw [e2]; exact h⟩
theorem zM_lt (mTo : Nat → Int32) {A p : Nat} (hA : A < 2 ^ p) (i : Nat) : zM mTo A i < 2 ^ p := by
  unfold zM; split
  · exact Nat.and_lt_two_pow _ hA
  · exact Nat.pow_pos (by decide)
theorem zM_bit (mTo : Nat → Int32) {A i j : Nat} (h : (zM mTo A i).testBit j = true) : A.testBit i = true ∧ A.testBit j = true := by
  unfold zM at h; split at h
  · rename_i w
    rw [Nat.testBit_and] at h
    exact ⟨w, by simpa using (Bool.and_eq_true _ _ ▸ h : _ ∧ _).2⟩
  · simp at h
theorem s_meet6 (hV : IvV p q d vP vS vD vKi vMe vOw mTo) (hr : ∀ k, k < 15 → row k = st k) {i : Nat} (hi : i < 2 ^ 31) : f_X6_meetsOf row vP vD vMe (nI i) = nI (zM mTo (zA (mTo 2) st p) i) := by
  unfold f_X6_meetsOf zM
  rw [s_al6 hV hr hi]
  by_cases h : (zA (mTo 2) st p).testBit i = true
  · have hi' := ((zA_bit _ _ _ _).mp h).1
    rw [if_pos h, if_neg i1, if_pos h, s_liv hV hr, f_X7_meetingsOf, s_has6 hV hi, if_pos hi', if_neg i1, nI_clamp hi, (s_me hV hi').2.1, zb_and]
  · rw [if_neg h, if_pos rfl, if_neg h]; rfl
theorem s_meet9 (hV : IvV p q d vP vS vD vKi vMe vOw mTo) {i : Nat} (hi : i < p) : f_X9_met mTo st (nI i) = nI (zM mTo (zA (mTo 2) st p) i) := by
  have hp := hV.1.2.1
  unfold f_X9_met zM
  rw [s_al9 hV hi]
  by_cases h : (zA (mTo 2) st p).testBit i = true
  · rw [if_pos h, if_neg i1, if_pos h, s_liv9 hV, nI_clamp (by omega)]
    conv => lhs; rw [(s_me hV hi).1]
    rw [zb_and]
  · rw [if_neg h, if_pos rfl, if_neg h]; rfl
theorem s_kn (hq : q ≤ 8) (hp : p ≤ 6) (hS : StOK p q mTo st) {k : Nat} (hk : k < q) : st (6 + k) = nI (zK st k) ∧ zK st k < 2 ^ p ∧ mTo (21 + k) = nI (zO mTo k) ∧ zO mTo k < p ∧ (zK st k).testBit (zO mTo k) = true := by
  obtain ⟨K, o, a, b, c, e, f⟩ := hS k hk
  have h64 := p64 hp
  obtain ⟨e1, e2⟩ := tn_nI b (by omega)
  obtain ⟨g1, g2⟩ := tn_nI e (by omega)
  unfold zK zO
  rw [e2, g2]
  exact ⟨b, a, e, c, f⟩
theorem s_own6 (hV : IvV p q d vP vS vD vKi vMe vOw mTo) {k : Nat} (hk : k < q) : f_X7_ownerOf vS vOw (nI k) = nI (zO mTo k) := by
  have hq := hV.1.2.2.1
  have hp := hV.1.2.1
  unfold f_X7_ownerOf
  rw [s_hasS6 hV (by omega), if_pos hk, if_neg i1, nI_clamp (by omega)]
  obtain ⟨o, a, b, c⟩ := hV.2.2.2.2.1 k hk
  unfold zO
  rw [(tn_nI c (by omega)).2]; exact b
theorem s_knw6 (hV : IvV p q d vP vS vD vKi vMe vOw mTo) (hr : ∀ k, k < 15 → row k = st k) (hS : StOK p q mTo st) {k : Nat} (hk : k < q) : f_X6_knowersOf row vS (nI k) = nI (zK st k) := by
  have hq := hV.1.2.2.1
  unfold f_X6_knowersOf
  rw [s_hasS6 hV (by omega), if_pos hk, if_neg i1, show (6 : Int32) + nI k = nI (6 + k) from nI_add 6 k, nI_clamp (by omega), hr _ (by omega)]
  exact (s_kn hq hV.1.2.1 hS hk).1
theorem s_knows6 (hV : IvV p q d vP vS vD vKi vMe vOw mTo) (hr : ∀ k, k < 15 → row k = st k) (hS : StOK p q mTo st) {i k : Nat} (hi : i < 2 ^ 31) (hk : k < q) : f_X6_knows row vP vS (nI i) (nI k) = if (zK st k).testBit i then 1 else 0 := by
  have hq := hV.1.2.2.1
  have hp := hV.1.2.1
  have h64 := p64 hp
  obtain ⟨-, a, -⟩ := s_kn hq hp hS hk
  unfold f_X6_knows
  rw [s_has6 hV hi, s_knw6 hV hr hS hk]
  by_cases c : i < p
  · rw [if_pos c, if_neg i1, zb_has (by omega) (by omega)]
    by_cases h : (zK st k).testBit i = true
    · rw [if_pos h, if_neg i1]
    · rw [if_neg h, if_pos rfl]
  · rw [if_neg c, if_pos rfl, zb_hi a (by omega)]; rfl
theorem s_knows6n (hV : IvV p q d vP vS vD vKi vMe vOw mTo) {i k : Nat} (hi : i < 2 ^ 31) (hk : ¬ k < q) (hk' : k < 2 ^ 31) : f_X6_knows row vP vS (nI i) (nI k) = 0 := by
  have hp := hV.1.2.1
  unfold f_X6_knows f_X6_knowersOf
  rw [s_has6 hV hi, s_hasS6 hV hk', if_neg hk, if_pos (rfl : (0 : Int32) = 0)]
  by_cases c : i < p
  · rw [if_pos c, if_neg i1, show (0 : Int32) = nI 0 from rfl, zb_has (by decide) (by omega), Nat.zero_testBit]; rfl
  · rw [if_neg c, if_pos rfl]
theorem s_knows9 (hq : q ≤ 8) (hp : p ≤ 6) (hS : StOK p q mTo st) {i k : Nat} (hi : i < 8) (hk : k < q) : f_X9_knows st (nI i) (nI k) = if (zK st k).testBit i then 1 else 0 := by
  have h64 := p64 hp
  obtain ⟨e, a, -⟩ := s_kn hq hp hS hk
  unfold f_X9_knows
  rw [nI_clamp (by omega), e, zb_t (by omega) hi]
  by_cases h : (zK st k).testBit i = true
  · rw [if_pos h, if_pos rfl]
  · rw [if_neg h, if_neg (by decide)]
theorem s_kind6 (hV : IvV p q d vP vS vD vKi vMe vOw mTo) {i : Nat} (hi : i < p) : f_X7_kindOf vP vKi (nI i) = mTo (9 + i) := by
  have hp := hV.1.2.1
  unfold f_X7_kindOf
  rw [s_has6 hV (by omega), if_pos hi, if_neg i1, nI_clamp (by omega)]
  obtain ⟨κ, -, a, b⟩ := hV.2.2.1 i hi
  rw [a, b]
theorem s_oth (hV : IvV p q d vP vS vD vKi vMe vOw mTo) (hr : ∀ k, k < 15 → row k = st k) (hS : StOK p q mTo st) {k : Nat} (hk : k < q) : f_X6_othersKnowing row vS vOw (nI k) = f_X9_others mTo st (nI k) := by
  have hq := hV.1.2.2.1
  have hp := hV.1.2.1
  have h64 := p64 hp
  obtain ⟨e, a, e', b, -⟩ := s_kn hq hp hS hk
  unfold f_X6_othersKnowing f_X9_others
  rw [s_knw6 hV hr hS hk, s_own6 hV hk, nI_clamp (by omega), e, e', zb_sh _ (by omega), zb_not, zb_ones _ (Nat.lt_of_le_of_lt (zb_an_le _ _) (by omega))]
theorem s_care (k x : Int32) : f_X8_care k x = f_X9_care k x := by
  unfold f_X8_care f_X9_care
  have : x < 2 ↔ x ≤ 1 := by
    rw [Int32.lt_iff_toInt_lt, Int32.le_iff_toInt_le, show (2 : Int32).toInt = 2 by decide, show (1 : Int32).toInt = 1 by decide]; omega
  simp only [this]
end ST
