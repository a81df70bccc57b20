/-! a secret told -/
/-- what whose it is ages, whole -/
def zH (mTo st : Nat → Int32) (k L p : Nat) : Int32 := F_X8_careForMany_5 (mTo (9 + zO mTo k)) (f_X9_others mTo st (nI k)) 0 (cb L p)
def zX (mTo st : Nat → Int32) (p i k L : Nat) : Int32 := if (zA (mTo 2) st p).testBit (zO mTo k) then (if i = zO mTo k then zH mTo st k L p / 2 else zH mTo st k L p) else 0
/-- the row behind it -/
def zR (mTo st : Nat → Int32) (p k L : Nat) (x : Int32) : Nat → Int32 := fun j => if j = 6 + k then nI (zK st k ||| L) else if j < p ∧ L.testBit j = true ∧ mTo (9 + j) = 4 then st j + 1 else if j = zO mTo k then st j + x else st j
theorem t_lt {Z : Nat → Prop} {n : Nat} (h : ¬ Z n) (j : Nat) : (j < n ∧ Z j) ↔ (j < n + 1 ∧ Z j) := by
  refine ⟨fun w => ⟨Nat.lt_succ_of_lt w.1, w.2⟩, fun w => ⟨?_, w.2⟩⟩
  rcases Nat.lt_or_ge j n with c | c
  · exact c
  · have e : j = n := by omega
    exact absurd (e ▸ w.2) h
theorem t_upd0 (f : Nat → Int32) (n : Nat) : upd f n (f n + 0) = f := by
  funext j; unfold upd
  by_cases e : j = n
  · subst e; rw [if_pos rfl, Int32.add_zero]
  · rw [if_neg e]
section SP
variable {p q d : Nat} {vP vS vD : Int32} {vKi vMe vOw mTo row st : Nat → Int32}
theorem t_sh0 (hq : q ≤ 8) (hp : p ≤ 6) (hS : StOK p q mTo st) {k T : Nat} (hk : k < q) (hT : T < 2 ^ p) (x : Int32) (n : Nat) (hn : n ≤ p) : F_X9_shades_12 (nI k) (nI T) mTo st 0 x n = (F_X8_careForMany_5 (mTo (9 + zO mTo k)) x 0 (cb (zb_an T (zK st k)) n), x + nI (cb (zb_an T (zK st k)) n)) := by
  have h64 := p64 hp
  have eo : (mTo (21 + (nI k).toNatClampNeg)).toNatClampNeg = zO mTo k := by rw [nI_clamp (by omega)]; rfl
  induction n with
  | zero => rw [F_X9_shades_12, cb, nI_0, Int32.add_zero]; rfl
  | succ n ih =>
    rw [F_X9_shades_12, ih (by omega), eo, s_knows9 hq hp hS (by omega) hk]
    dsimp only
    rw [cb, zb_an_bit _ (by omega)]
    by_cases h1 : T.testBit n = true
    · rw [if_pos ((zb_t1 (by omega) (by omega)).mpr h1)]
      by_cases h2 : (zK st k).testBit n = true
      · rw [if_pos h2, if_neg i1, if_neg (show ¬ (T.testBit n && !(zK st k).testBit n) = true by rw [h2]; simp)]; rfl
      · rw [if_neg h2, if_pos rfl, if_pos (show (T.testBit n && !(zK st k).testBit n) = true by rw [h1]; simpa using h2), F_X8_careForMany_5, s_care, nI_succ, Int32.add_assoc]
    · rw [if_neg (fun w => h1 ((zb_t1 (by omega) (by omega)).mp w)), if_neg (show ¬ (T.testBit n && !(zK st k).testBit n) = true by simp [h1])]; rfl
theorem t_sh (hV : IvV p q d vP vS vD vKi vMe vOw mTo) (hS : StOK p q mTo st) {k T : Nat} (hk : k < q) (hT : T < 2 ^ p) : f_X9_shades mTo st (nI k) (nI T) = if (zA (mTo 2) st p).testBit (zO mTo k) then zH mTo st k (zb_an T (zK st k)) p else 0 := by
  have hq := hV.1.2.2.1
  have hp := hV.1.2.1
  obtain ⟨e, a, e', b, -⟩ := s_kn hq hp hS hk
  unfold f_X9_shades
  rw [t_sh0 hq hp hS hk hT _ _ (Nat.le_of_eq (s_to0 hV)), s_to0 hV, nI_clamp (by omega), e', s_al9 hV b]
  by_cases h : (zA (mTo 2) st p).testBit (zO mTo k) = true
  · rw [if_pos h, if_neg i1, if_pos h]; rfl
  · rw [if_neg h, if_pos rfl, if_neg h]
theorem t_gr (hV : IvV p q d vP vS vD vKi vMe vOw mTo) {r : Nat → Int32} {n : Nat} (hn : n < 2 ^ 31) (x : Int32) : g_X6_growOlder_row r vP vD (nI n) x = if n < p ∧ r n < mTo 2 then upd r n (r n + x) else r := by
  unfold g_X6_growOlder_row
  rw [s_al6 hV (row := r) (st := r) (fun _ _ => rfl) hn, nI_clamp hn]
  by_cases h : (zA (mTo 2) r p).testBit n = true
  · rw [if_pos h, if_neg i1, if_pos ((zA_bit _ _ _ _).mp h)]
  · rw [if_neg h, if_pos rfl, if_neg (fun w => h ((zA_bit _ _ _ _).mpr w))]
theorem t_105 (hV : IvV p q d vP vS vD vKi vMe vOw mTo) {L : Nat} (hL : L < 2 ^ p) (r0 : Nat → Int32) (n : Nat) (hn : n ≤ 6) (j : Nat) : F_X6_speak_105 (nI L) vP vD vKi r0 n j = if j < n ∧ (L.testBit j = true ∧ mTo (9 + j) = 4 ∧ r0 j < mTo 2) then r0 j + 1 else r0 j := by
  have hp := hV.1.2.1
  have h64 := p64 hp
  induction n generalizing j with
  | zero => rw [if_neg (fun w => absurd w.1 (Nat.not_lt_zero j))]; rfl
  | succ n ih =>
    have ih := ih (by omega)
    have same : ¬ (L.testBit n = true ∧ mTo (9 + n) = 4 ∧ r0 n < mTo 2) → F_X6_speak_105 (nI L) vP vD vKi r0 n j = if j < n + 1 ∧ (L.testBit j = true ∧ mTo (9 + j) = 4 ∧ r0 j < mTo 2) then r0 j + 1 else r0 j := fun w => by
      rw [ih]; exact ite_congr (propext (t_lt (Z := fun j => L.testBit j = true ∧ mTo (9 + j) = 4 ∧ r0 j < mTo 2) w j)) (fun _ => rfl) (fun _ => rfl)
    rw [F_X6_speak_105, zb_has (by omega) (by omega)]
    by_cases h1 : L.testBit n = true
    · have hnp : n < p := Nat.lt_of_not_le (fun w => by rw [zb_hi hL w] at h1; cases h1)
      rw [if_pos h1, if_neg i1, s_kind6 hV hnp]
      by_cases h2 : mTo (9 + n) = 4
      · have en : F_X6_speak_105 (nI L) vP vD vKi r0 n n = r0 n := by rw [ih, if_neg (fun w => absurd w.1 (Nat.lt_irrefl _))]
        rw [if_pos h2, t_gr hV (by omega), en]
        by_cases h3 : r0 n < mTo 2
        · rw [if_pos ⟨hnp, h3⟩]; unfold upd
          by_cases e : j = n
          · subst e; rw [if_pos rfl, if_pos ⟨Nat.lt_succ_self _, h1, h2, h3⟩]
          · rw [if_neg e, ih]
            exact ite_congr (propext ⟨fun w => ⟨by omega, w.2⟩, fun w => ⟨by omega, w.2⟩⟩) (fun _ => rfl) (fun _ => rfl)
        · rw [if_neg (fun w => h3 w.2)]; exact same (fun w => h3 w.2.2)
      · rw [if_neg h2]; exact same (fun w => h2 w.2.1)
    · rw [if_neg h1, if_pos rfl]; exact same (fun w => h1 w.1)
theorem t_75 (hp : p ≤ 6) {L : Nat} (hL : L < 2 ^ p) (r0 : Nat → Int32) (n : Nat) (hn : n ≤ 6) (j : Nat) : F_X9_tells_75 (nI L) mTo r0 n j = if j < n ∧ (L.testBit j = true ∧ mTo (9 + j) = 4) then r0 j + 1 else r0 j := by
  have h64 := p64 hp
  induction n generalizing j with
  | zero => rw [if_neg (fun w => absurd w.1 (Nat.not_lt_zero j))]; rfl
  | succ n ih =>
    have ih := ih (by omega)
    have same : ¬ (L.testBit n = true ∧ mTo (9 + n) = 4) → F_X9_tells_75 (nI L) mTo r0 n j = if j < n + 1 ∧ (L.testBit j = true ∧ mTo (9 + j) = 4) then r0 j + 1 else r0 j := fun w => by
      rw [ih]; exact ite_congr (propext (t_lt (Z := fun j => L.testBit j = true ∧ mTo (9 + j) = 4) w j)) (fun _ => rfl) (fun _ => rfl)
    rw [F_X9_tells_75, t_upd0]
    by_cases h1 : L.testBit n = true
    · rw [if_pos ((zb_t1 (by omega) (by omega)).mpr h1)]
      by_cases h2 : mTo (9 + n) = 4
      · have en : F_X9_tells_75 (nI L) mTo r0 n n = r0 n := by rw [ih, if_neg (fun w => absurd w.1 (Nat.lt_irrefl _))]
        rw [if_pos h2, en]; unfold upd
        by_cases e : j = n
        · subst e; rw [if_pos rfl, if_pos ⟨Nat.lt_succ_self _, h1, h2⟩]
        · rw [if_neg e, ih]
          exact ite_congr (propext ⟨fun w => ⟨by omega, w.2⟩, fun w => ⟨by omega, w.2⟩⟩) (fun _ => rfl) (fun _ => rfl)
      · rw [if_neg h2]; exact same (fun w => h2 w.2)
    · rw [if_neg (fun w => h1 ((zb_t1 (by omega) (by omega)).mp w))]; exact same (fun w => h1 w.1)
theorem t_6b (hV : IvV p q d vP vS vD vKi vMe vOw mTo) {k L : Nat} {x : Int32} {G : Nat → Int32} (hL : L < 2 ^ p) (hLA : ∀ j, L.testBit j = true → (zA (mTo 2) st p).testBit j = true) (hLo : L.testBit (zO mTo k) = false) (hG : ∀ j, j < 15 → G j = if j = 6 + k then nI (zK st k ||| L) else if j = zO mTo k then st j + x else st j) {j : Nat} (hj : j < 15) : F_X6_speak_105 (nI L) vP vD vKi G 6 j = zR mTo st p k L x j := by
  rw [t_105 hV hL _ 6 (Nat.le_refl _), hG j hj]
  unfold zR
  by_cases e : j = 6 + k
  · rw [if_neg (fun w => by have := w.1; omega), if_pos e, if_pos e]
  · rw [if_neg e, if_neg e]
    by_cases c : L.testBit j = true ∧ mTo (9 + j) = 4
    · obtain ⟨a, b⟩ := (zA_bit _ _ _ _).mp (hLA j c.1)
      have hp := hV.1.2.1
      have n : ¬ j = zO mTo k := fun w => by rw [w, hLo] at c; exact absurd c.1 (by decide)
      rw [if_neg n, if_pos ⟨by omega, c.1, c.2, b⟩, if_pos ⟨a, c⟩]
    · rw [if_neg (show ¬ (j < 6 ∧ (L.testBit j = true ∧ mTo (9 + j) = 4 ∧ (if j = zO mTo k then st j + x else st j) < mTo 2)) from fun w => c ⟨w.2.1, w.2.2.1⟩), if_neg (show ¬ (j < p ∧ L.testBit j = true ∧ mTo (9 + j) = 4) from fun w => c w.2)]
theorem t_9b (hp : p ≤ 6) {k L : Nat} {x : Int32} {G : Nat → Int32} (hL : L < 2 ^ p) (hLo : L.testBit (zO mTo k) = false) (hG : ∀ j, j < 15 → G j = if j = 6 + k then nI (zK st k ||| L) else if j = zO mTo k then st j + x else st j) {j : Nat} (hj : j < 15) : F_X9_tells_75 (nI L) mTo G p j = zR mTo st p k L x j := by
  rw [t_75 hp hL _ p hp, hG j hj]
  unfold zR
  by_cases e : j = 6 + k
  · rw [if_neg (fun w => by have := w.1; omega), if_pos e, if_pos e]
  · rw [if_neg e, if_neg e]
    by_cases c : j < p ∧ L.testBit j = true ∧ mTo (9 + j) = 4
    · have n : ¬ j = zO mTo k := fun w => by rw [w, hLo] at c; exact absurd c.2.1 (by decide)
      rw [if_neg n, if_pos c]
    · rw [if_neg c, if_neg c]
theorem t_or {a b c : Nat} (ha : a < 2 ^ 32) (h : zb_an a b = c) : b ||| c = b ||| a := by
  subst h
  apply Nat.eq_of_testBit_eq
  intro i
  rw [Nat.testBit_or, Nat.testBit_or, zb_an_bit _ ha]
  cases b.testBit i <;> simp
theorem t_sp9 (hV : IvV p q d vP vS vD vKi vMe vOw mTo) (hS : StOK p q mTo st) {i k T : Nat} (hi : i < p) (hk : k < q) (hT : T < 2 ^ p) {j : Nat} (hj : j < 15) : g_X9_tells_mSt mTo st (nI i) (nI k) (nI T) j = zR mTo st p k (zb_an T (zK st k)) (zX mTo st p i k (zb_an T (zK st k))) j := by
  have hq := hV.1.2.2.1
  have hp := hV.1.2.1
  have h64 := p64 hp
  obtain ⟨e, a, e', b, f⟩ := s_kn hq hp hS hk
  have hLo : (zb_an T (zK st k)).testBit (zO mTo k) = false := by rw [zb_an_bit _ (by omega), f]; simp
  have hL := Nat.lt_of_le_of_lt (zb_an_le T (zK st k)) hT
  unfold g_X9_tells_mSt
  rw [s_to0 hV, nI_clamp (show k < 2 ^ 31 by omega), e', nI_clamp (show zO mTo k < 2 ^ 31 by omega), t_sh hV hS hk hT, e, zb_not]
  have key : ∀ x, ∀ j, j < 15 → upd (upd st (zO mTo k) (st (zO mTo k) + x)) (6 + k) (upd st (zO mTo k) (st (zO mTo k) + x) (6 + k) ||| nI T) j = if j = 6 + k then nI (zK st k ||| zb_an T (zK st k)) else if j = zO mTo k then st j + x else st j := fun x j hj => by
    unfold upd
    by_cases c : j = 6 + k
    · rw [if_pos c, if_pos c, if_neg (by omega), e, zb_or, t_or (by omega) rfl]
    · rw [if_neg c, if_neg c]
      by_cases c' : j = zO mTo k
      · rw [if_pos c', if_pos c', c']
      · rw [if_neg c', if_neg c']
  unfold zX
  by_cases c : i = zO mTo k
  · rw [if_pos (congrArg nI c)]
    by_cases h : (zA (mTo 2) st p).testBit (zO mTo k) = true
    · simp only [if_pos h, if_pos c]
      exact t_9b hp hL hLo (key _) hj
    · simp only [if_neg h]
      exact t_9b hp hL hLo (key _) hj
  · rw [if_neg (fun w => c ((nI_eq (by omega) (by omega)).mp w))]
    by_cases h : (zA (mTo 2) st p).testBit (zO mTo k) = true
    · simp only [if_pos h, if_neg c]
      exact t_9b hp hL hLo (key _) hj
    · simp only [if_neg h]
      exact t_9b hp hL hLo (key _) hj
theorem t_cm {a b : Int32} {L : Nat} (hp : p ≤ 6) (hL : L < 2 ^ p) : f_X8_careForMany a b (f_J6_bitCount_0f7a4 (nI L)) = F_X8_careForMany_5 a b 0 (cb L p) := by
  unfold f_X8_careForMany
  rw [cb_bcp hp hL, nI_clamp (by have := cb_le L p; omega)]
theorem t_sp6 (hV : IvV p q d vP vS vD vKi vMe vOw mTo) (hr : ∀ k, k < 15 → row k = st k) (hS : StOK p q mTo st) {i k T : Nat} (hi : i < p) (hk : k < q) {j : Nat} (hj : j < 15) : g_X6_speak_row row vP vS vD vKi vOw (nI i) (nI k) (nI T) j = zR mTo st p k (zb_an (T &&& zA (mTo 2) st p) (zK st k)) (zX mTo st p i k (zb_an (T &&& zA (mTo 2) st p) (zK st k))) j := by
  have hq := hV.1.2.2.1
  have hp := hV.1.2.1
  have h64 := p64 hp
  obtain ⟨e, a, e', b, f⟩ := s_kn hq hp hS hk
  have hTA : T &&& zA (mTo 2) st p < 2 ^ p := Nat.and_lt_two_pow _ (zA_lt _ _ _)
  have hLo : (zb_an (T &&& zA (mTo 2) st p) (zK st k)).testBit (zO mTo k) = false := by rw [zb_an_bit _ (by omega), f]; simp
  have hLA : ∀ j, (zb_an (T &&& zA (mTo 2) st p) (zK st k)).testBit j = true → (zA (mTo 2) st p).testBit j = true := fun j w => by
    rw [zb_an_bit _ (by omega), Nat.testBit_and] at w
    simp at w; exact w.1.2
  have hL := Nat.lt_of_le_of_lt (zb_an_le (T &&& zA (mTo 2) st p) (zK st k)) hTA
  unfold g_X6_speak_row
  rw [s_hasS6 hV (by omega), if_pos hk, if_neg i1, s_own6 hV hk, s_liv hV hr, s_knw6 hV hr hS hk, s_oth hV hr hS hk, s_kind6 hV b, zb_and, zb_not, show (6 : Int32) + nI k = nI (6 + k) from nI_add 6 k, nI_clamp (show 6 + k < 2 ^ 31 by omega), hr (6 + k) (by omega), e, zb_or, t_cm hp hL, t_gr hV (by omega), t_gr hV (by omega)]
  have ho : upd row (6 + k) (nI (zK st k ||| zb_an (T &&& zA (mTo 2) st p) (zK st k))) (zO mTo k) = st (zO mTo k) := by
    unfold upd; rw [if_neg (by omega), hr _ (by omega)]
  rw [ho]
  have key : ∀ x, ∀ j, j < 15 → upd (upd row (6 + k) (nI (zK st k ||| zb_an (T &&& zA (mTo 2) st p) (zK st k)))) (zO mTo k) (st (zO mTo k) + x) j = if j = 6 + k then nI (zK st k ||| zb_an (T &&& zA (mTo 2) st p) (zK st k)) else if j = zO mTo k then st j + x else st j := fun x j hj => by
    unfold upd
    by_cases c : j = 6 + k
    · rw [if_neg (by omega), if_pos c, if_pos c]
    · by_cases c' : j = zO mTo k
      · rw [if_pos c', if_neg c, if_pos c', c']
      · rw [if_neg c', if_neg c, if_neg c, if_neg c', hr j hj]
  have key0 : ∀ j, j < 15 → upd row (6 + k) (nI (zK st k ||| zb_an (T &&& zA (mTo 2) st p) (zK st k))) j = if j = 6 + k then nI (zK st k ||| zb_an (T &&& zA (mTo 2) st p) (zK st k)) else if j = zO mTo k then st j + 0 else st j := fun j hj => by
    unfold upd
    by_cases c : j = 6 + k
    · rw [if_pos c, if_pos c]
    · rw [if_neg c, if_neg c, Int32.add_zero, ite_self, hr j hj]
  unfold zX
  by_cases h : (zA (mTo 2) st p).testBit (zO mTo k) = true
  · have h' := (zA_bit _ _ _ _).mp h
    simp only [if_pos h, if_pos h']
    by_cases c : i = zO mTo k
    · rw [if_pos (congrArg nI c), if_pos c]
      exact t_6b hV hL hLA hLo (key _) hj
    · rw [if_neg (fun w => c ((nI_eq (by omega) (by omega)).mp w)), if_neg c]
      exact t_6b hV hL hLA hLo (key _) hj
  · have h' : ¬ (zO mTo k < p ∧ st (zO mTo k) < mTo 2) := fun w => h ((zA_bit _ _ _ _).mpr w)
    simp only [if_neg h, if_neg h', ite_self]
    exact t_6b hV hL hLA hLo key0 hj
/-- both at once: the rows stay alike, the dead stay as they are -/
theorem t_tells (hV : IvV p q d vP vS vD vKi vMe vOw mTo) (hr : ∀ k, k < 15 → row k = st k) (hS : StOK p q mTo st) {i k T : Nat} (hi : i < p) (hk : k < q) (hT : ∀ j, T.testBit j = true → (zA (mTo 2) st p).testBit j = true) :
    (∀ j, j < 15 → g_X6_speak_row row vP vS vD vKi vOw (nI i) (nI k) (nI T) j = g_X9_tells_mSt mTo st (nI i) (nI k) (nI T) j) ∧ StOK p q mTo (g_X9_tells_mSt mTo st (nI i) (nI k) (nI T)) ∧ f_X6_speak row vP vS vD (nI k) (nI T) = f_X9_tells st (nI k) (nI T)
    ∧ (∀ j, j < 15 → g_X9_tells_mSt mTo st (nI i) (nI k) (nI T) j = zR mTo st p k (zb_an T (zK st k)) (zX mTo st p i k (zb_an T (zK st k))) j) ∧ (∀ j, j < p → (zA (mTo 2) st p).testBit j = false → g_X9_tells_mSt mTo st (nI i) (nI k) (nI T) j = st j) := by
  have hq := hV.1.2.2.1
  have hp := hV.1.2.1
  have h64 := p64 hp
  have eT : T &&& zA (mTo 2) st p = T := Nat.eq_of_testBit_eq (fun j => by
    rw [Nat.testBit_and]
    cases h : T.testBit j
    · rfl
    · rw [hT j h]; rfl)
  have hT2 : T < 2 ^ p := by rw [← eT]; exact Nat.and_lt_two_pow _ (zA_lt _ _ _)
  have h9 := fun j (hj : j < 15) => t_sp9 (j := j) hV hS hi hk hT2 hj
  have h6 := fun j (hj : j < 15) => t_sp6 (j := j) (T := T) hV hr hS hi hk hj
  rw [eT] at h6
  obtain ⟨e, a, e', b, f⟩ := s_kn hq hp hS hk
  refine ⟨fun j hj => by rw [h6 j hj, h9 j hj], fun k' hk' => ?_, ?_, h9, fun j hj w => ?_⟩
  · obtain ⟨e2, a2, e2', b2, f2⟩ := s_kn hq hp hS hk'
    refine ⟨if k' = k then zK st k ||| zb_an T (zK st k) else zK st k', zO mTo k', ?_, ?_, b2, e2', ?_⟩
    · split
      · exact Nat.or_lt_two_pow a (Nat.lt_of_le_of_lt (zb_an_le _ _) hT2)
      · exact a2
    · rw [h9 _ (by omega)]; unfold zR
      by_cases c : k' = k
      · rw [if_pos (by omega), if_pos c]
      · rw [if_neg (by omega), if_neg (fun w => by have := w.1; omega), if_neg (by omega), if_neg c]; exact e2
    · split
      · rename_i c; subst c; rw [Nat.testBit_or, f2]; rfl
      · exact f2
  · unfold f_X6_speak f_X9_tells
    rw [s_hasS6 hV (by omega), if_pos hk, if_neg i1, s_liv hV hr, s_knw6 hV hr hS hk, zb_and, eT, zb_not, nI_clamp (by omega), e, zb_not, zb_ones _ (Nat.lt_of_le_of_lt (zb_an_le _ _) (by omega))]
  · rw [h9 _ (by omega)]; unfold zR
    rw [if_neg (by omega), if_neg (fun c => by
      have := hT j (by have := c.2.1; rw [zb_an_bit _ (by omega)] at this; simp at this; exact this.1)
      rw [w] at this; cases this)]
    by_cases c : j = zO mTo k
    · rw [if_pos c]; unfold zX; rw [← c, w, if_neg (by decide), Int32.add_zero]
    · rw [if_neg c]
/-- nobody comes to life -/
theorem t_dead {D : Int32} {st st' : Nat → Int32} (h : ∀ j, j < p → (zA D st p).testBit j = false → st' j = st j) (j : Nat) (hj : (zA D st' p).testBit j = true) : (zA D st p).testBit j = true := by
  obtain ⟨a, b⟩ := (zA_bit _ _ _ _).mp hj
  cases c : (zA D st p).testBit j
  · rw [h j a c] at b; exact absurd ((zA_bit _ _ _ _).mpr ⟨a, b⟩) (by rw [c]; decide)
  · rfl
end SP
