/-! the class's costs by the number of tellings -/
theorem k_care (a b : Int32) : f_X8_care a b = nI (f_X8_care a b).toNatClampNeg ∧ (f_X8_care a b).toNatClampNeg ≤ 2 := by
  unfold f_X8_care
  split
  · decide
  · split
    · decide
    · split
      · split
        · decide
        · decide
      · decide
/-- the care for the next one, when so many have been told -/
def kC (mTo st : Nat → Int32) (p k t : Nat) : Nat := if (zA (mTo 2) st p).testBit (zO mTo k) then (f_X8_care (mTo (9 + zO mTo k)) (f_X9_others mTo st (nI k) + nI t)).toNatClampNeg else 0
theorem kC_le (mTo st : Nat → Int32) (p k t : Nat) : kC mTo st p k t ≤ 2 := by
  unfold kC; split
  · exact (k_care _ _).2
  · omega
def kO (mTo : Nat → Int32) (j : Nat) : Nat := if mTo (9 + j) = 4 then 1 else 0
theorem kO_le (mTo : Nat → Int32) (j : Nat) : kO mTo j ≤ 1 := by unfold kO; split <;> omega
def CSp (A K : Nat) (M own cr : Nat → Nat) (m : Nat) (f : Nat → Int32) : Prop := ∀ j, j < 6 → (f j = nI 1000000 ∧ ∀ s, ¬ Wk A K M own m j s) ∨ ∃ s, Wk A K M own m j s ∧ f j = nI (cS cr m + s) ∧ ∀ s', Wk A K M own m j s' → s ≤ s'
def FSp (A K : Nat) (M own cr : Nat → Nat) (g m : Nat) (v : Int32) : Prop := (v = nI 1000000 ∧ ∀ t, t ≤ m → ∀ s, ¬ Wk A K M own t g s) ∨ ∃ t s, t ≤ m ∧ Wk A K M own t g s ∧ v = nI (cS cr t + s) ∧ ∀ t', t' ≤ m → ∀ s', Wk A K M own t' g s' → cS cr t + s ≤ cS cr t' + s'
section CG
variable {A K : Nat} {M own cr : Nat → Nat} {f : Nat → Int32}
theorem k_b (ho : ∀ j, own j ≤ 1) (hc : ∀ t, cr t ≤ 2) {m j s : Nat} (hm : m ≤ 6) (h : Wk A K M own m j s) : cS cr m + s ≤ 18 := by
  have := Wk_le ho m j s h
  have := cS_le hc m
  omega
theorem k_ch (ho : ∀ j, own j ≤ 1) (hc : ∀ t, cr t ≤ 2) {m S : Nat} (hm : m ≤ 6) (hS : S < 64) (h : CSp A K M own cr m f) (n : Nat) (hn : n ≤ 6) : (F_X0_cheapest_5 (nI S) f 1000000 n = nI 1000000 ∧ ∀ i, i < n → S.testBit i = true → ∀ s, ¬ Wk A K M own m i s) ∨ ∃ i s, i < n ∧ S.testBit i = true ∧ Wk A K M own m i s ∧ F_X0_cheapest_5 (nI S) f 1000000 n = nI (cS cr m + s) ∧ ∀ i', i' < n → S.testBit i' = true → ∀ s', Wk A K M own m i' s' → s ≤ s' := by
  induction n with
  | zero => left; exact ⟨rfl, fun i hi => absurd hi (Nat.not_lt_zero _)⟩
  | succ n ih =>
    have ih := ih (by omega)
    rw [F_X0_cheapest_5, zb_has (by omega) (by omega)]
    by_cases b : S.testBit n = true
    · rw [if_pos b, if_neg i1]
      rcases h n (by omega) with ⟨e1, e2⟩ | ⟨s, w, e1, e2⟩
      · rw [e1]
        rcases ih with ⟨p1, p2⟩ | ⟨i, s, p1, p2, p3, p4, p5⟩
        · rw [p1, if_neg (Int32.lt_irrefl)]
          left; refine ⟨rfl, fun i hi hb => ?_⟩
          by_cases x : i = n
          · subst x; exact e2
          · exact p2 i (by omega) hb
        · have := k_b ho hc hm p3
          rw [p4, if_neg (nI_nlt (by omega) (by decide))]
          right; refine ⟨i, s, by omega, p2, p3, rfl, fun i' hi' hb s' w' => ?_⟩
          by_cases x : i' = n
          · subst x; exact absurd w' (e2 s')
          · exact p5 i' (by omega) hb s' w'
      · have hb1 := k_b ho hc hm w
        rw [e1]
        rcases ih with ⟨p1, p2⟩ | ⟨i, s0, p1, p2, p3, p4, p5⟩
        · rw [p1, if_pos (nI_lt (by omega) (by decide))]
          right; refine ⟨n, s, by omega, b, w, rfl, fun i' hi' hb s' w' => ?_⟩
          by_cases x : i' = n
          · subst x; exact e2 s' w'
          · exact absurd w' (p2 i' (by omega) hb s')
        · have hb2 := k_b ho hc hm p3
          rw [p4]
          right
          rcases Nat.lt_or_ge (cS cr m + s) (cS cr m + s0) with y | y
          · rw [if_pos (nI_lt y (by omega))]
            refine ⟨n, s, by omega, b, w, rfl, fun i' hi' hb s' w' => ?_⟩
            by_cases x : i' = n
            · subst x; exact e2 s' w'
            · have := p5 i' (by omega) hb s' w'; omega
          · rw [if_neg (nI_nlt y (by omega))]
            refine ⟨i, s0, by omega, p2, p3, rfl, fun i' hi' hb s' w' => ?_⟩
            by_cases x : i' = n
            · subst x; have := e2 s' w'; omega
            · exact p5 i' (by omega) hb s' w'
    · rw [if_neg b, if_pos rfl]
      rcases ih with ⟨p1, p2⟩ | ⟨i, s, p1, p2, p3, p4, p5⟩
      · left; refine ⟨p1, fun i hi hb => ?_⟩
        by_cases x : i = n
        · subst x; exact absurd hb b
        · exact p2 i (by omega) hb
      · right; refine ⟨i, s, by omega, p2, p3, p4, fun i' hi' hb s' w' => ?_⟩
        by_cases x : i' = n
        · subst x; exact absurd hb b
        · exact p5 i' (by omega) hb s' w'
theorem k_fs (ho : ∀ j, own j ≤ 1) (hc : ∀ t, cr t ≤ 2) {m g : Nat} (hm : m < 6) (hg : g < 6) {v : Int32} (h1 : FSp A K M own cr g m v) (h2 : CSp A K M own cr (m + 1) f) : FSp A K M own cr g (m + 1) (if f g < v then f g else v) := by
  rcases h2 g hg with ⟨e1, e2⟩ | ⟨s, w, e1, e2⟩
  · rw [e1]
    rcases h1 with ⟨p1, p2⟩ | ⟨t, s, p1, p2, p3, p4⟩
    · rw [p1, if_neg (Int32.lt_irrefl)]
      left; refine ⟨rfl, fun t ht => ?_⟩
      by_cases x : t = m + 1
      · subst x; exact e2
      · exact p2 t (by omega)
    · have := k_b ho hc (by omega) p2
      rw [p3, if_neg (nI_nlt (by omega) (by decide))]
      right; refine ⟨t, s, by omega, p2, rfl, fun t' ht' s' w' => ?_⟩
      by_cases x : t' = m + 1
      · subst x; exact absurd w' (e2 s')
      · exact p4 t' (by omega) s' w'
  · have hb1 := k_b ho hc (by omega) w
    rw [e1]
    rcases h1 with ⟨p1, p2⟩ | ⟨t, s0, p1, p2, p3, p4⟩
    · rw [p1, if_pos (nI_lt (by omega) (by decide))]
      right; refine ⟨m + 1, s, Nat.le_refl _, w, rfl, fun t' ht' s' w' => ?_⟩
      by_cases x : t' = m + 1
      · subst x; have := e2 s' w'; omega
      · exact absurd w' (p2 t' (by omega) s')
    · have hb2 := k_b ho hc (by omega) p2
      rw [p3]
      right
      rcases Nat.lt_or_ge (cS cr (m + 1) + s) (cS cr t + s0) with y | y
      · rw [if_pos (nI_lt y (by omega))]
        refine ⟨m + 1, s, Nat.le_refl _, w, rfl, fun t' ht' s' w' => ?_⟩
        by_cases x : t' = m + 1
        · subst x; have := e2 s' w'; omega
        · have := p4 t' (by omega) s' w'; omega
      · rw [if_neg (nI_nlt y (by omega))]
        refine ⟨t, s0, by omega, p2, rfl, fun t' ht' s' w' => ?_⟩
        by_cases x : t' = m + 1
        · subst x; have := e2 s' w'; omega
        · exact p4 t' (by omega) s' w'
end CG
section CK
variable {p q d k : Nat} {vP vS vD : Int32} {vKi vMe vOw mTo row st f : Nat → Int32}
theorem k_oc (hV : IvV p q d vP vS vD vKi vMe vOw mTo) (hr : ∀ k, k < 15 → row k = st k) (hS : StOK p q mTo st) (hk : k < q) (t : Nat) : f_X0_ownersCare row vP vS vD vKi vOw (nI k) (nI t) = nI (kC mTo st p k t) := by
  have hp := hV.1.2.1
  have hq := hV.1.2.2.1
  obtain ⟨-, -, -, b, -⟩ := s_kn hq hp hS hk
  unfold f_X0_ownersCare kC
  rw [s_own6 hV hk, s_al6 hV hr (by omega), s_kind6 hV b, s_oth hV hr hS hk]
  by_cases c : (zA (mTo 2) st p).testBit (zO mTo k) = true
  · rw [if_pos c, if_neg i1, if_pos c]; exact (k_care _ _).1
  · rw [if_neg c, if_pos rfl, if_neg c]; rfl
theorem k_16 (hV : IvV p q d vP vS vD vKi vMe vOw mTo) (hr : ∀ k, k < 15 → row k = st k) (hS : StOK p q mTo st) (hk : k < q) (f : Nat → Int32) (n : Nat) (hn : n ≤ 6) (j : Nat) (hj : j < n) : F_X0_fewestShades_16 (nI k) row vP vS vD f n j = if (zA (mTo 2) st p).testBit j = true ∧ (zK st k).testBit j = true then nI 0 else nI 1000000 := by
  induction n with
  | zero => omega
  | succ n ih =>
    rw [F_X0_fewestShades_16]
    by_cases e : j = n
    · subst e
      rw [s_knows6 hV hr hS (by omega) hk, s_al6 hV hr (by omega)]
      by_cases c1 : (zK st k).testBit j = true
      · rw [if_pos c1, if_neg i1]
        by_cases c2 : (zA (mTo 2) st p).testBit j = true
        · rw [if_pos c2, if_neg i1, if_pos ⟨c2, c1⟩]; exact if_pos rfl
        · rw [if_neg c2, if_pos rfl, if_neg (fun w => c2 w.1)]; exact if_pos rfl
      · rw [if_neg c1, if_pos rfl, if_neg (fun w => c1 w.2)]; exact if_pos rfl
    · have ih := ih (by omega) (by omega)
      have u : ∀ x, upd (F_X0_fewestShades_16 (nI k) row vP vS vD f n) n x j = F_X0_fewestShades_16 (nI k) row vP vS vD f n j := fun x => if_neg e
      split
      · rw [u]; exact ih
      · split
        · rw [u]; exact ih
        · rw [u]; exact ih
theorem k_po (hV : IvV p q d vP vS vD vKi vMe vOw mTo) (hr : ∀ k, k < 15 → row k = st k) (hS : StOK p q mTo st) (hk : k < q) (x : Int32) (f g : Nat → Int32) (n : Nat) (hn : n ≤ 6) (j : Nat) (hj : j < n) : F_X0_passOn_3 (nI k) x f row vP vS vD vKi vMe g n j = if (zA (mTo 2) st p).testBit j = true ∧ (zK st k).testBit j = false then (if f_X0_cheapest f (nI (zM mTo (zA (mTo 2) st p) j)) + x + nI (kO mTo j) < 1000000 then f_X0_cheapest f (nI (zM mTo (zA (mTo 2) st p) j)) + x + nI (kO mTo j) else 1000000) else 1000000 := by
  have hp := hV.1.2.1
  induction n with
  | zero => omega
  | succ n ih =>
    rw [F_X0_passOn_3]
    by_cases e : j = n
    · subst e
      rw [s_knows6 hV hr hS (by omega) hk, s_al6 hV hr (by omega), s_meet6 hV hr (by omega)]
      by_cases c2 : (zA (mTo 2) st p).testBit j = true
      · have hjp := ((zA_bit _ _ _ _).mp c2).1
        rw [if_pos c2, if_neg i1]
        by_cases c1 : (zK st k).testBit j = true
        · rw [if_pos c1, if_neg i1, if_neg (fun w => by rw [w.2] at c1; cases c1)]; exact if_pos rfl
        · rw [if_neg c1, if_pos rfl, if_pos (show (zA (mTo 2) st p).testBit j = true ∧ (zK st k).testBit j = false from ⟨c2, by simpa using c1⟩), s_kind6 hV hjp]
          unfold kO
          by_cases c3 : mTo (9 + j) = 4
          · rw [if_pos c3, if_pos c3]; exact if_pos rfl
          · rw [if_neg c3, if_neg c3]; exact if_pos rfl
      · rw [if_neg c2, if_pos rfl, if_neg (fun w => c2 w.1)]; exact if_pos rfl
    · have ih := ih (by omega) (by omega)
      have u : ∀ (h : Nat → Int32) x, upd h n x j = h j := fun h x => if_neg e
      split
      · rw [u]; exact ih
      · split
        · split
          · rw [u, u]; exact ih
          · rw [u, u]; exact ih
        · rw [u]; exact ih
theorem k_s (hV : IvV p q d vP vS vD vKi vMe vOw mTo) (hr : ∀ k, k < 15 → row k = st k) (hS : StOK p q mTo st) (hk : k < q) {m : Nat} (hm : m < 6) {f : Nat → Int32} (g : Nat → Int32) (h : CSp (zA (mTo 2) st p) (zK st k) (zM mTo (zA (mTo 2) st p)) (kO mTo) (kC mTo st p k) m f) : CSp (zA (mTo 2) st p) (zK st k) (zM mTo (zA (mTo 2) st p)) (kO mTo) (kC mTo st p k) (m + 1) (g_X0_passOn_nNx f g row vP vS vD vKi vMe (nI k) (nI (kC mTo st p k m))) := by
  have hp := hV.1.2.1
  have h64 := p64 hp
  intro j hj
  unfold g_X0_passOn_nNx
  rw [k_po hV hr hS hk _ _ _ 6 (Nat.le_refl _) j hj]
  by_cases c : (zA (mTo 2) st p).testBit j = true ∧ (zK st k).testBit j = false
  · have hM := zM_lt mTo (zA_lt (mTo 2) st p) j
    have hcr := kC_le mTo st p k m
    have hko := kO_le mTo j
    rw [if_pos c]
    rcases k_ch (S := zM mTo (zA (mTo 2) st p) j) (kO_le mTo) (kC_le mTo st p k) (by omega) (by omega) h 6 (Nat.le_refl _) with ⟨e1, e2⟩ | ⟨i, s, a1, a2, a3, a4, a5⟩
    · left
      have e1 : f_X0_cheapest f (nI (zM mTo (zA (mTo 2) st p) j)) = nI 1000000 := e1
      rw [e1, nI_add, nI_add, if_neg (show ¬ nI (1000000 + kC mTo st p k m + kO mTo j) < 1000000 from nI_nlt (b := 1000000) (by omega) (by omega))]
      refine ⟨rfl, fun s ⟨_, i, s', w1, w2, _⟩ => ?_⟩
      have hi : i < 6 := Nat.lt_of_not_le (fun w => by rw [zb_hi hM (show p ≤ i by omega)] at w1; cases w1)
      exact e2 i hi w1 s' w2
    · right
      have hb := k_b (kO_le mTo) (kC_le mTo st p k) (by omega) a3
      have a4 : f_X0_cheapest f (nI (zM mTo (zA (mTo 2) st p) j)) = nI (cS (kC mTo st p k) m + s) := a4
      rw [a4, nI_add, nI_add, if_pos (show nI (cS (kC mTo st p k) m + s + kC mTo st p k m + kO mTo j) < 1000000 from nI_lt (b := 1000000) (by omega) (by decide))]
      refine ⟨kO mTo j + s, ⟨c, i, s, a2, a3, rfl⟩, ?_, fun s' ⟨_, i', s'', w1, w2, w3⟩ => ?_⟩
      · rw [cS]; congr 1; omega
      · have hi : i' < 6 := Nat.lt_of_not_le (fun w => by rw [zb_hi hM (show p ≤ i' by omega)] at w1; cases w1)
        have := a5 i' hi w1 s'' w2
        omega
  · left
    rw [if_neg c]
    exact ⟨rfl, fun s w => c w.1⟩
theorem k_72 (hV : IvV p q d vP vS vD vKi vMe vOw mTo) (hr : ∀ k, k < 15 → row k = st k) (hS : StOK p q mTo st) (hk : k < q) {g : Nat} (hg : g < 6) (nCo nNx : Nat → Int32) (n : Nat) (hn : n ≤ 3) : FSp (zA (mTo 2) st p) (zK st k) (zM mTo (zA (mTo 2) st p)) (kO mTo) (kC mTo st p k) g (2 * n) (F_X0_fewestShades_72 (nI k) (nI g) row vP vS vD vKi vMe vOw ((F_X0_fewestShades_16 (nI k) row vP vS vD nCo 6) g) (F_X0_fewestShades_16 (nI k) row vP vS vD nCo 6) nNx n).1 ∧ CSp (zA (mTo 2) st p) (zK st k) (zM mTo (zA (mTo 2) st p)) (kO mTo) (kC mTo st p k) (2 * n) (F_X0_fewestShades_72 (nI k) (nI g) row vP vS vD vKi vMe vOw ((F_X0_fewestShades_16 (nI k) row vP vS vD nCo 6) g) (F_X0_fewestShades_16 (nI k) row vP vS vD nCo 6) nNx n).2.1 := by
  induction n with
  | zero =>
    have c0 : CSp (zA (mTo 2) st p) (zK st k) (zM mTo (zA (mTo 2) st p)) (kO mTo) (kC mTo st p k) 0 (F_X0_fewestShades_16 (nI k) row vP vS vD nCo 6) := fun j hj => by
      rw [k_16 hV hr hS hk nCo 6 (Nat.le_refl _) j hj]
      by_cases c : (zA (mTo 2) st p).testBit j = true ∧ (zK st k).testBit j = true
      · right; rw [if_pos c]; exact ⟨0, ⟨c, rfl⟩, rfl, fun s' _ => Nat.zero_le _⟩
      · left; rw [if_neg c]; exact ⟨rfl, fun s w => c w.1⟩
    refine ⟨?_, c0⟩
    rcases c0 g hg with ⟨e1, e2⟩ | ⟨s, w, e1, e2⟩
    · left; exact ⟨e1, fun t ht s => by
        have : t = 0 := by omega
        subst this; exact e2 s⟩
    · right; exact ⟨0, s, Nat.le_refl _, w, e1, fun t ht s' w' => by
        have : t = 0 := by omega
        subst this; have := e2 s' w'; omega⟩
  | succ n ih =>
    obtain ⟨i1', i2⟩ := ih (by omega)
    rw [F_X0_fewestShades_72, k_oc hV hr hS hk, k_oc hV hr hS hk, nI_clamp (by omega)]
    have s1 := k_s hV hr hS hk (by omega) (F_X0_fewestShades_72 (nI k) (nI g) row vP vS vD vKi vMe vOw ((F_X0_fewestShades_16 (nI k) row vP vS vD nCo 6) g) (F_X0_fewestShades_16 (nI k) row vP vS vD nCo 6) nNx n).2.2 i2
    have f1 := k_fs (kO_le mTo) (kC_le mTo st p k) (by omega) hg i1' s1
    have s2 := k_s hV hr hS hk (by omega) (F_X0_fewestShades_72 (nI k) (nI g) row vP vS vD vKi vMe vOw ((F_X0_fewestShades_16 (nI k) row vP vS vD nCo 6) g) (F_X0_fewestShades_16 (nI k) row vP vS vD nCo 6) nNx n).2.1 s1
    have f2 := k_fs (kO_le mTo) (kC_le mTo st p k) (by omega) hg f1 s2
    exact ⟨f2, s2⟩
/-- what the class answers -/
theorem k_fin (hV : IvV p q d vP vS vD vKi vMe vOw mTo) (hr : ∀ k, k < 15 → row k = st k) (hS : StOK p q mTo st) (hk : k < q) {g : Nat} (hg : g < 6) (nCo nNx : Nat → Int32) : (f_X0_fewestShades nCo nNx row vP vS vD vKi vMe vOw (nI k) (nI g) = -4 ∧ ∀ t, t ≤ 6 → ∀ s, ¬ Wk (zA (mTo 2) st p) (zK st k) (zM mTo (zA (mTo 2) st p)) (kO mTo) t g s) ∨ ∃ t s, t ≤ 6 ∧ Wk (zA (mTo 2) st p) (zK st k) (zM mTo (zA (mTo 2) st p)) (kO mTo) t g s ∧ cS (kC mTo st p k) t + s ≤ 18 ∧ f_X0_fewestShades nCo nNx row vP vS vD vKi vMe vOw (nI k) (nI g) = nI (cS (kC mTo st p k) t + s) ∧ ∀ t', t' ≤ 6 → ∀ s', Wk (zA (mTo 2) st p) (zK st k) (zM mTo (zA (mTo 2) st p)) (kO mTo) t' g s' → cS (kC mTo st p k) t + s ≤ cS (kC mTo st p k) t' + s' := by
  have w := (k_72 hV hr hS hk hg nCo nNx 3 (Nat.le_refl _)).1
  unfold f_X0_fewestShades
  rw [if_neg (nI_pos (by omega)), if_pos (show nI g < 6 from nI_lt (b := 6) hg (by decide)), nI_clamp (by omega)]
  rcases w with ⟨e1, e2⟩ | ⟨t, s, a1, a2, a3, a4⟩
  · left
    rw [e1, if_neg (show ¬ nI 1000000 < 1000000 by decide)]
    exact ⟨rfl, e2⟩
  · right
    have hb := k_b (kO_le mTo) (kC_le mTo st p k) (by omega) a2
    rw [a3, if_pos (show nI (cS (kC mTo st p k) t + s) < 1000000 from nI_lt (b := 1000000) (by omega) (by decide))]
    exact ⟨t, s, a1, a2, hb, rfl, a4⟩
end CK
