/-! the items, and the village that they tell -/
def DR (p q : Nat) (vP vS vD : Int32) (vAg vKi vMe vOw vFk dr : Nat → Int32) : Prop :=
  (p ≤ 6 ∧ q ≤ 8 ∧ vP = nI p ∧ dr 0 = nI p ∧ vS = nI q ∧ dr 1 = nI q) ∧ (∃ d, 1 ≤ d ∧ d ≤ 99 ∧ vD = nI d ∧ dr 2 = nI d) ∧
  (∀ i, i < p → ∃ a κ M, a ≤ 60 ∧ κ < 5 ∧ M < 64 ∧ vAg i = nI a ∧ dr (3 + i) = nI a ∧ vKi i = nI κ ∧ dr (9 + i) = nI κ ∧ vMe i = nI M ∧ dr (15 + i) = nI M) ∧
  (∀ i, p ≤ i → i < 6 → dr (3 + i) = 0 ∧ dr (15 + i) = 0) ∧
  (∀ k, k < q → ∃ o K, o < p ∧ K < 64 ∧ K.testBit o = true ∧ vOw k = nI o ∧ dr (21 + k) = nI o ∧ vFk k = nI K ∧ dr (29 + k) = nI K) ∧
  (∀ k, q ≤ k → k < 8 → dr (21 + k) = 0 ∧ dr (29 + k) = 0)
section IT
variable {tN vP vS vD : Int32} {tL mTx vAg vKi vMe vOw vFk dr : Nat → Int32} {n p q a e v w : Nat} {c : Nat → Nat}
theorem dr_p (hD : DR p q vP vS vD vAg vKi vMe vOw vFk dr) (hp : p < 6) (hv : v ≤ 60) (hw : w < 5) : DR (p + 1) q (nI (p + 1)) vS vD (upd vAg p (nI v)) (upd vKi p (nI w)) (upd vMe p 0) vOw vFk (g_X9_adds_mDr dr (nI v) (nI w)) := by
  obtain ⟨⟨h1, h2, h3, h4, h5, h6⟩, ⟨d, h7, h8, h9, h10⟩, hP, hN, hS, hM⟩ := hD
  have ex : ∀ x, g_X9_adds_mDr dr (nI v) (nI w) x = if x = 0 then nI (p + 1) else if x = 9 + p then nI w else if x = 3 + p then nI v else dr x := fun x => by
    unfold g_X9_adds_mDr; rw [h4, nI_clamp (by omega), nI_1]; rfl
  refine ⟨⟨by omega, h2, rfl, by rw [ex, if_pos rfl], h5, by rw [ex, if_neg (by omega), if_neg (by omega), if_neg (by omega), h6]⟩, ⟨d, h7, h8, h9, by rw [ex, if_neg (by omega), if_neg (by omega), if_neg (by omega), h10]⟩, fun i hi => ?_, fun i h h' => ?_, fun k hk => ?_, fun k h h' => ?_⟩
  · by_cases x : i = p
    · subst x
      refine ⟨v, w, 0, hv, hw, by decide, if_pos rfl, ?_, if_pos rfl, ?_, if_pos rfl, ?_⟩
      · rw [ex, if_neg (by omega), if_neg (by omega), if_pos rfl]
      · rw [ex, if_neg (by omega), if_pos rfl]
      · rw [ex, if_neg (by omega), if_neg (by omega), if_neg (by omega), (hN i (Nat.le_refl _) hp).2]; rfl
    · obtain ⟨a, κ, M, b1, b2, b3, b4, b5, b6, b7, b8, b9⟩ := hP i (by omega)
      refine ⟨a, κ, M, b1, b2, b3, (if_neg x).trans b4, ?_, (if_neg x).trans b6, ?_, (if_neg x).trans b8, ?_⟩
      · rw [ex, if_neg (by omega), if_neg (by omega), if_neg (by omega), b5]
      · rw [ex, if_neg (by omega), if_neg (by omega), if_neg (by omega), b7]
      · rw [ex, if_neg (by omega), if_neg (by omega), if_neg (by omega), b9]
  · obtain ⟨b1, b2⟩ := hN i (by omega) h'
    exact ⟨by rw [ex, if_neg (by omega), if_neg (by omega), if_neg (by omega), b1], by rw [ex, if_neg (by omega), if_neg (by omega), if_neg (by omega), b2]⟩
  · obtain ⟨o, K, b1, b2, b3, b4, b5, b6, b7⟩ := hS k hk
    exact ⟨o, K, by omega, b2, b3, b4, by rw [ex, if_neg (by omega), if_neg (by omega), if_neg (by omega), b5], b6, by rw [ex, if_neg (by omega), if_neg (by omega), if_neg (by omega), b7]⟩
  · obtain ⟨b1, b2⟩ := hM k h h'
    exact ⟨by rw [ex, if_neg (by omega), if_neg (by omega), if_neg (by omega), b1], by rw [ex, if_neg (by omega), if_neg (by omega), if_neg (by omega), b2]⟩
theorem ad_m (hp : p ≤ 6) (hv : v < p) (hw : w < p) (hn : ¬ v = w) : f_X7_addMeeting (nI p) (nI v) (nI w) = 1 ∧ ∀ x, g_X7_addMeeting_vMe (nI p) vMe (nI v) (nI w) x = if x = w then vMe w ||| nI (2 ^ v) else if x = v then vMe v ||| nI (2 ^ w) else vMe x := by
  have h : ∀ i, i < p → f_X7_hasPerson (nI p) (nI i) = 1 := fun i hi => by
    unfold f_X7_hasPerson
    rw [if_neg (nI_pos (by omega)), if_neg (nI_ge hi (by omega)), if_neg (show ¬ (6 : Int32) ≤ nI i from nI_ge (b := 6) (by omega) (by decide))]
  have n1 : ¬ nI v = nI w := fun z => hn ((nI_eq (by omega) (by omega)).mp z)
  unfold f_X7_addMeeting g_X7_addMeeting_vMe
  rw [h v hv, h w hw, if_neg i1, if_neg i1, if_neg n1, if_neg i1, if_neg i1, if_neg n1, nI_clamp (by omega), nI_clamp (by omega), zb_sh v (by omega), zb_sh w (by omega)]
  refine ⟨rfl, fun x => ?_⟩
  unfold upd
  rw [if_neg (show ¬ w = v from fun z => hn z.symm)]
theorem dr_m (hD : DR p q vP vS vD vAg vKi vMe vOw vFk dr) (hv : v < p) (hw : w < p) (hn : ¬ v = w) : DR p q vP vS vD vAg vKi (g_X7_addMeeting_vMe vP vMe (nI v) (nI w)) vOw vFk (g_X9_meets_mDr dr (nI v) (nI w)) := by
  obtain ⟨⟨h1, h2, h3, h4, h5, h6⟩, ⟨d, h7, h8, h9, h10⟩, hP, hN, hS, hM⟩ := hD
  subst h3
  have ec := (ad_m (vMe := vMe) h1 hv hw hn).2
  have ex : ∀ x, g_X9_meets_mDr dr (nI v) (nI w) x = if x = 15 + w then dr (15 + w) ||| nI (2 ^ v) else if x = 15 + v then dr (15 + v) ||| nI (2 ^ w) else dr x := fun x => by
    unfold g_X9_meets_mDr; rw [nI_clamp (by omega), nI_clamp (by omega), zb_sh v (by omega), zb_sh w (by omega)]
    unfold upd
    rw [if_neg (show ¬ 15 + w = 15 + v by omega)]
  have p64 : ∀ i, i < p → 2 ^ i < 2 ^ 6 := fun i hi => Nat.pow_lt_pow_right (by decide) (by omega)
  refine ⟨⟨h1, h2, rfl, by rw [ex, if_neg (by omega), if_neg (by omega), h4], h5, by rw [ex, if_neg (by omega), if_neg (by omega), h6]⟩, ⟨d, h7, h8, h9, by rw [ex, if_neg (by omega), if_neg (by omega), h10]⟩, fun i hi => ?_, fun i h h' => ?_, fun k hk => ?_, fun k h h' => ?_⟩
  · obtain ⟨a, κ, M, b1, b2, b3, b4, b5, b6, b7, b8, b9⟩ := hP i hi
    have g5 : g_X9_meets_mDr dr (nI v) (nI w) (3 + i) = nI a := by rw [ex, if_neg (by omega), if_neg (by omega), b5]
    have g7 : g_X9_meets_mDr dr (nI v) (nI w) (9 + i) = nI κ := by rw [ex, if_neg (by omega), if_neg (by omega), b7]
    by_cases x : i = w
    · refine ⟨a, κ, M ||| 2 ^ v, b1, b2, Nat.or_lt_two_pow (n := 6) b3 (p64 v hv), b4, g5, b6, g7, ?_, ?_⟩
      · rw [ec, if_pos x, ← x, b8, zb_or]
      · rw [ex, if_pos (by omega), ← x, b9, zb_or]
    · by_cases y : i = v
      · refine ⟨a, κ, M ||| 2 ^ w, b1, b2, Nat.or_lt_two_pow (n := 6) b3 (p64 w hw), b4, g5, b6, g7, ?_, ?_⟩
        · rw [ec, if_neg x, if_pos y, ← y, b8, zb_or]
        · rw [ex, if_neg (by omega), if_pos (by omega), ← y, b9, zb_or]
      · refine ⟨a, κ, M, b1, b2, b3, b4, g5, b6, g7, ?_, ?_⟩
        · rw [ec, if_neg x, if_neg y, b8]
        · rw [ex, if_neg (by omega), if_neg (by omega), b9]
  · obtain ⟨b1, b2⟩ := hN i h h'
    exact ⟨by rw [ex, if_neg (by omega), if_neg (by omega), b1], by rw [ex, if_neg (by omega), if_neg (by omega), b2]⟩
  · obtain ⟨o, K, b1, b2, b3, b4, b5, b6, b7⟩ := hS k hk
    exact ⟨o, K, b1, b2, b3, b4, by rw [ex, if_neg (by omega), if_neg (by omega), b5], b6, by rw [ex, if_neg (by omega), if_neg (by omega), b7]⟩
  · obtain ⟨b1, b2⟩ := hM k h h'
    exact ⟨by rw [ex, if_neg (by omega), if_neg (by omega), b1], by rw [ex, if_neg (by omega), if_neg (by omega), b2]⟩
theorem dr_s (hD : DR p q vP vS vD vAg vKi vMe vOw vFk dr) (hq : q < 8) (hv : v < p) (hw : w ≤ 63) : DR p (q + 1) vP (nI (q + 1)) vD vAg vKi vMe (upd vOw q (nI v)) (upd vFk q (nI (w ||| 2 ^ v))) (g_X9_secretOf_mDr dr (nI v) (nI w)) := by
  obtain ⟨⟨h1, h2, h3, h4, h5, h6⟩, ⟨d, h7, h8, h9, h10⟩, hP, hN, hS, hM⟩ := hD
  have ex : ∀ x, g_X9_secretOf_mDr dr (nI v) (nI w) x = if x = 1 then nI (q + 1) else if x = 29 + q then nI (w ||| 2 ^ v) else if x = 21 + q then nI v else dr x := fun x => by
    unfold g_X9_secretOf_mDr; rw [h6, nI_clamp (by omega), nI_1, zb_sh v (by omega), zb_or]; rfl
  have p64 : 2 ^ v < 2 ^ 6 := Nat.pow_lt_pow_right (by decide) (by omega)
  refine ⟨⟨h1, by omega, h3, by rw [ex, if_neg (by omega), if_neg (by omega), if_neg (by omega), h4], rfl, by rw [ex, if_pos rfl]⟩, ⟨d, h7, h8, h9, by rw [ex, if_neg (by omega), if_neg (by omega), if_neg (by omega), h10]⟩, fun i hi => ?_, fun i h h' => ?_, fun k hk => ?_, fun k h h' => ?_⟩
  · obtain ⟨a, κ, M, b1, b2, b3, b4, b5, b6, b7, b8, b9⟩ := hP i hi
    refine ⟨a, κ, M, b1, b2, b3, b4, ?_, b6, ?_, b8, ?_⟩
    · rw [ex, if_neg (by omega), if_neg (by omega), if_neg (by omega), b5]
    · rw [ex, if_neg (by omega), if_neg (by omega), if_neg (by omega), b7]
    · rw [ex, if_neg (by omega), if_neg (by omega), if_neg (by omega), b9]
  · obtain ⟨b1, b2⟩ := hN i h h'
    exact ⟨by rw [ex, if_neg (by omega), if_neg (by omega), if_neg (by omega), b1], by rw [ex, if_neg (by omega), if_neg (by omega), if_neg (by omega), b2]⟩
  · by_cases x : k = q
    · subst x
      refine ⟨v, w ||| 2 ^ v, hv, Nat.or_lt_two_pow (n := 6) (by omega) p64, by rw [Nat.testBit_or, Nat.testBit_two_pow_self, Bool.or_true], if_pos rfl, ?_, if_pos rfl, ?_⟩
      · rw [ex, if_neg (by omega), if_neg (by omega), if_pos rfl]
      · rw [ex, if_neg (by omega), if_pos rfl]
    · obtain ⟨o, K, b1, b2, b3, b4, b5, b6, b7⟩ := hS k (by omega)
      refine ⟨o, K, b1, b2, b3, (if_neg x).trans b4, ?_, (if_neg x).trans b6, ?_⟩
      · rw [ex, if_neg (by omega), if_neg (by omega), if_neg (by omega), b5]
      · rw [ex, if_neg (by omega), if_neg (by omega), if_neg (by omega), b7]
  · obtain ⟨b1, b2⟩ := hM k (by omega) h'
    exact ⟨by rw [ex, if_neg (by omega), if_neg (by omega), if_neg (by omega), b1], by rw [ex, if_neg (by omega), if_neg (by omega), if_neg (by omega), b2]⟩
theorem dr_d (hD : DR p q vP vS vD vAg vKi vMe vOw vFk dr) (h0 : 1 ≤ v) (hv : v ≤ 99) : DR p q vP vS (nI v) vAg vKi vMe vOw vFk (upd dr 2 (nI v)) := by
  obtain ⟨⟨h1, h2, h3, h4, h5, h6⟩, -, hP, hN, hS, hM⟩ := hD
  have ex : ∀ x, ¬ x = 2 → upd dr 2 (nI v) x = dr x := fun x hx => if_neg hx
  refine ⟨⟨h1, h2, h3, (ex _ (by omega)).trans h4, h5, (ex _ (by omega)).trans h6⟩, ⟨v, h0, hv, rfl, if_pos rfl⟩, fun i hi => ?_, fun i h h' => ?_, fun k hk => ?_, fun k h h' => ?_⟩
  · rw [ex _ (by omega), ex _ (by omega), ex _ (by omega)]; exact hP i hi
  · rw [ex _ (by omega), ex _ (by omega)]; exact hN i h h'
  · rw [ex _ (by omega), ex _ (by omega)]; exact hS k hk
  · rw [ex _ (by omega), ex _ (by omega)]; exact hM k h h'
/-- the class goes on behind an item; the reference does; both stop there -/
def Go (tN : Int32) (tL : Nat → Int32) (a e : Nat) (vP vS vD : Int32) (vAg vKi vMe vOw vFk : Nat → Int32) (p' q' : Nat) (dr' : Nat → Int32) : Prop := ∀ m j rn, ∃ rn' P' S' D' A' K' M' O' F', L_X2_readAll_11 tN tL (m + 1) j (nI a) rn vP vS vD vAg vKi vMe vOw vFk = L_X2_readAll_11 tN tL m (j + 1) (nI e) rn' P' S' D' A' K' M' O' F' ∧ DR p' q' P' S' D' A' K' M' O' F' dr'
def Rg (n : Nat) (mTx : Nat → Int32) (a e : Nat) (dr dr' : Nat → Int32) : Prop := ∀ m fi sc, ∃ fi' sc', L_X9_reads_9 n mTx (m + 1) a fi sc dr = L_X9_reads_9 n mTx m e fi' sc' dr'
def Fa (tN : Int32) (tL : Nat → Int32) (n : Nat) (mTx : Nat → Int32) (a : Nat) (vP vS : Int32) (dr : Nat → Int32) : Prop := (∀ rn, f_X2_readItem (nI a) rn tN tL vP vS = 0) ∧ ∀ sc, f_X9_readsItem n (a + 1) sc mTx dr (mTx a) = 0
theorem n_112 : ¬ nI 112 = 100 ∧ nI 112 = 112 ∧ ¬ nI 112 = 109 ∧ ¬ nI 112 = 115 := by decide
theorem n_109 : ¬ nI 109 = 100 ∧ ¬ nI 109 = 112 ∧ nI 109 = 109 ∧ ¬ nI 109 = 115 := by decide
theorem n_115 : ¬ nI 115 = 100 ∧ ¬ nI 115 = 112 ∧ ¬ nI 115 = 109 ∧ nI 115 = 115 := by decide
theorem n_100 : nI 100 = 100 := by decide
theorem go_un (hT : Tx tN tL n mTx c) (ha : a < n) : ¬ tN ≤ nI a := by
  have hn := hT.2.1
  rw [hT.1]; exact nI_ge ha (by omega)
theorem go_p (hT : Tx tN tL n mTx c) (hD : DR p q vP vS vD vAg vKi vMe vOw vFk dr) (ha : a < n) (hc : c a = 112) (ht : tw c n (a + 1) = some (v, w, e)) (hp : p < 6) (hv : v ≤ 60) (hw : w < 5) : Go tN tL a e vP vS vD vAg vKi vMe vOw vFk (p + 1) q (g_X9_adds_mDr dr (nI v) (nI w)) ∧ Rg n mTx a e dr (g_X9_adds_mDr dr (nI v) (nI w)) := by
  have hn := hT.2.1
  obtain ⟨-, -, t3, t4, t5, t6, t7, t8, t9, u1, u2, u3, u4⟩ := r_ts hT (by omega) ht
  have hat : f_X3_at tN tL (nI a) = nI 112 := by rw [r_at6 hT (by omega), if_pos ha, hc]
  have hxt : mTx a = nI 112 := by rw [(hT.2.2 a ha).2.2, hc]
  obtain ⟨n1, n2, n3, n4⟩ := n_112
  have hD' := hD
  obtain ⟨⟨-, -, h3, h4, -, -⟩, -⟩ := hD'
  subst h3
  have q1 : ¬ nI p < 0 := nI_pos (by omega)
  have q2 : ¬ (6 : Int32) ≤ nI p := nI_ge (b := 6) (by omega) (by decide)
  have q3 : ¬ (60 : Int32) < nI v := nI_nlt (a := 60) (by omega) (by decide)
  have q4 : nI w < 5 := nI_lt (b := 5) (by omega) (by decide)
  have q5 : ¬ (4 : Int32) < nI w := nI_nlt (a := 4) (by omega) (by decide)
  have q6 : ¬ nI p = 6 := fun z => absurd ((nI_eq (b := 6) (by omega) (by decide)).mp z) (by omega)
  refine ⟨fun m j rn => ⟨g_X2_readItem_rn (nI a) rn tN tL, _, _, _, _, _, _, _, _, ?_, dr_p hD hp hv hw⟩, fun m fi sc => ⟨g_X9_readsItem_mFi n (a + 1) fi mTx (mTx a), g_X9_readsItem_mSc n (a + 1) sc mTx (mTx a), ?_⟩⟩
  · rw [L_X2_readAll_11, f_X3_size, if_neg (go_un hT ha)]
    simp only [f_X2_readItem, g_X2_readItem_rp, g_X2_readItem_vP, g_X2_readItem_vS, g_X2_readItem_vD, g_X2_readItem_vAg, g_X2_readItem_vKi, g_X2_readItem_vMe, g_X2_readItem_vOw, g_X2_readItem_vFk, hat, if_neg n1, if_pos n2, if_neg n3, nI_1, t5, t6, t7, t8, t9, if_neg i1, f_X7_addPerson, g_X7_addPerson_vP, g_X7_addPerson_vAg, g_X7_addPerson_vKi, g_X7_addPerson_vMe, if_neg q1, if_neg q2, if_neg q3, if_pos q4, nI_clamp (show p < 2 ^ 31 by omega)]
  · rw [L_X9_reads_9, if_neg (nI_ge ha (by omega))]
    simp only [f_X9_readsItem, g_X9_readsItem_mAt, g_X9_readsItem_mDr, hxt, if_neg n1, if_pos n2, if_neg n3, u1, u2, u3, u4, if_neg i1, if_neg q3, if_neg q5, h4, if_neg q6]
theorem go_m (hT : Tx tN tL n mTx c) (hD : DR p q vP vS vD vAg vKi vMe vOw vFk dr) (ha : a < n) (hc : c a = 109) (ht : tw c n (a + 1) = some (v, w, e)) (hv : v < p) (hw : w < p) (hvw : ¬ v = w) : Go tN tL a e vP vS vD vAg vKi vMe vOw vFk p q (g_X9_meets_mDr dr (nI v) (nI w)) ∧ Rg n mTx a e dr (g_X9_meets_mDr dr (nI v) (nI w)) := by
  have hn := hT.2.1
  obtain ⟨-, -, t3, t4, t5, t6, t7, t8, t9, u1, u2, u3, u4⟩ := r_ts hT (by omega) ht
  have hat : f_X3_at tN tL (nI a) = nI 109 := by rw [r_at6 hT (by omega), if_pos ha, hc]
  have hxt : mTx a = nI 109 := by rw [(hT.2.2 a ha).2.2, hc]
  obtain ⟨n1, n2, n3, n4⟩ := n_109
  have hD' := hD
  obtain ⟨⟨h1, -, h3, h4, -, -⟩, -⟩ := hD'
  subst h3
  have q1 : ¬ nI p ≤ nI v := nI_ge hv (by omega)
  have q2 : ¬ nI p ≤ nI w := nI_ge hw (by omega)
  have q3 : ¬ nI v = nI w := fun z => hvw ((nI_eq (by omega) (by omega)).mp z)
  have am := (ad_m (vMe := vMe) h1 hv hw hvw).1
  refine ⟨fun m j rn => ⟨g_X2_readItem_rn (nI a) rn tN tL, _, _, _, _, _, _, _, _, ?_, dr_m hD hv hw hvw⟩, fun m fi sc => ⟨g_X9_readsItem_mFi n (a + 1) fi mTx (mTx a), g_X9_readsItem_mSc n (a + 1) sc mTx (mTx a), ?_⟩⟩
  · rw [L_X2_readAll_11, f_X3_size, if_neg (go_un hT ha)]
    simp only [f_X2_readItem, g_X2_readItem_rp, g_X2_readItem_vP, g_X2_readItem_vS, g_X2_readItem_vD, g_X2_readItem_vAg, g_X2_readItem_vKi, g_X2_readItem_vMe, g_X2_readItem_vOw, g_X2_readItem_vFk, hat, if_neg n1, if_neg n2, if_pos n3, nI_1, t5, t6, t7, t8, t9, if_neg i1, am]
  · rw [L_X9_reads_9, if_neg (nI_ge ha (by omega))]
    simp only [f_X9_readsItem, g_X9_readsItem_mAt, g_X9_readsItem_mDr, hxt, if_neg n1, if_neg n2, if_pos n3, u1, u2, u3, u4, if_neg i1, h4, if_neg q1, if_neg q2, if_neg q3]
theorem go_s (hT : Tx tN tL n mTx c) (hD : DR p q vP vS vD vAg vKi vMe vOw vFk dr) (ha : a < n) (hc : c a = 115) (ht : tw c n (a + 1) = some (v, w, e)) (hq : q < 8) (hv : v < p) (hw : w ≤ 63) : Go tN tL a e vP vS vD vAg vKi vMe vOw vFk p (q + 1) (g_X9_secretOf_mDr dr (nI v) (nI w)) ∧ Rg n mTx a e dr (g_X9_secretOf_mDr dr (nI v) (nI w)) := by
  have hn := hT.2.1
  obtain ⟨-, -, t3, t4, t5, t6, t7, t8, t9, u1, u2, u3, u4⟩ := r_ts hT (by omega) ht
  have hat : f_X3_at tN tL (nI a) = nI 115 := by rw [r_at6 hT (by omega), if_pos ha, hc]
  have hxt : mTx a = nI 115 := by rw [(hT.2.2 a ha).2.2, hc]
  obtain ⟨n1, n2, n3, n4⟩ := n_115
  have hD' := hD
  obtain ⟨⟨h1, -, h3, h4, h5, h6⟩, -⟩ := hD'
  subst h3; subst h5
  have q1 : ¬ nI q < 0 := nI_pos (by omega)
  have q2 : ¬ (8 : Int32) ≤ nI q := nI_ge (b := 8) (by omega) (by decide)
  have q3 : f_X7_hasPerson (nI p) (nI v) = 1 := by
    unfold f_X7_hasPerson
    rw [if_neg (nI_pos (by omega)), if_neg (nI_ge hv (by omega)), if_neg (show ¬ (6 : Int32) ≤ nI v from nI_ge (b := 6) (by omega) (by decide))]
  have q4 : nI w ≤ 63 := nI_le (b := 63) (by omega) (by decide)
  have q5 : ¬ nI p ≤ nI v := nI_ge hv (by omega)
  have q6 : ¬ (63 : Int32) < nI w := nI_nlt (a := 63) (by omega) (by decide)
  have q7 : ¬ nI q = 8 := fun z => absurd ((nI_eq (b := 8) (by omega) (by decide)).mp z) (by omega)
  refine ⟨fun m j rn => ⟨g_X2_readItem_rn (nI a) rn tN tL, _, _, _, _, _, _, _, _, ?_, dr_s hD hq hv hw⟩, fun m fi sc => ⟨g_X9_readsItem_mFi n (a + 1) fi mTx (mTx a), g_X9_readsItem_mSc n (a + 1) sc mTx (mTx a), ?_⟩⟩
  · rw [L_X2_readAll_11, f_X3_size, if_neg (go_un hT ha)]
    simp only [f_X2_readItem, g_X2_readItem_rp, g_X2_readItem_vP, g_X2_readItem_vS, g_X2_readItem_vD, g_X2_readItem_vAg, g_X2_readItem_vKi, g_X2_readItem_vMe, g_X2_readItem_vOw, g_X2_readItem_vFk, hat, if_neg n1, if_neg n2, if_neg n3, if_pos n4, nI_1, t5, t6, t7, t8, t9, if_neg i1, f_X7_addSecret, g_X7_addSecret_vS, g_X7_addSecret_vOw, g_X7_addSecret_vFk, if_neg q1, if_neg q2, q3, if_pos q4, nI_clamp (show q < 2 ^ 31 by omega), zb_sh v (show v < 31 by omega), zb_or]
  · rw [L_X9_reads_9, if_neg (nI_ge ha (by omega))]
    simp only [f_X9_readsItem, g_X9_readsItem_mAt, g_X9_readsItem_mDr, hxt, if_neg n1, if_neg n2, if_neg n3, if_pos n4, u1, u2, u3, u4, if_neg i1, h4, h6, if_neg q5, if_neg q6, if_neg q7]
theorem go_d (hT : Tx tN tL n mTx c) (hD : DR p q vP vS vD vAg vKi vMe vOw vFk dr) (ha : a < n) (hc : c a = 100) (ht : nu c n (a + 1) = some (v, e)) (hs : sg c n 59 e = true) (h0 : 1 ≤ v) : Go tN tL a (e + 1) vP vS vD vAg vKi vMe vOw vFk p q (upd dr 2 (nI v)) ∧ Rg n mTx a (e + 1) dr (upd dr 2 (nI v)) := by
  have hn := hT.2.1
  obtain ⟨t1, t2, t3, t4, t5, t6, t7⟩ := r_ns hT (by omega) ht
  have s1 : f_X2_readNumber (nI (a + 1)) tN tL 59 = if sg c n 59 e then 1 else 0 := (t4 59 (by decide) (by decide)).1
  have s2 : g_X2_readNumber_rp (nI (a + 1)) tN tL 59 = nI (e + 1) := (t4 59 (by decide) (by decide)).2 hs
  have s3 : f_X9_sign n e mTx 59 = if sg c n 59 e then 1 else 0 := (r_sn hT (by omega) (by decide)).1
  have s4 : g_X9_sign_mAt n e mTx 59 = e + 1 := (r_sn hT (by omega) (by decide)).2 hs
  rw [hs, if_pos rfl] at s1 s3
  have hat : f_X3_at tN tL (nI a) = nI 100 := by rw [r_at6 hT (by omega), if_pos ha, hc]
  have hxt : mTx a = nI 100 := by rw [(hT.2.2 a ha).2.2, hc]
  have n1 := n_100
  have q1 : ¬ nI v < 1 := nI_nlt (b := 1) h0 (by omega)
  have q2 : nI v ≤ 99 := nI_le (b := 99) t1 (by decide)
  have q3 : ¬ nI v ≤ 0 := nI_nle (by omega) (by omega)
  refine ⟨fun m j rn => ⟨g_X2_readItem_rn (nI a) rn tN tL, _, _, _, _, _, _, _, _, ?_, dr_d hD h0 t1⟩, fun m fi sc => ⟨g_X9_readsItem_mFi n (a + 1) fi mTx (mTx a), g_X9_readsItem_mSc n (a + 1) sc mTx (mTx a), ?_⟩⟩
  · rw [L_X2_readAll_11, f_X3_size, if_neg (go_un hT ha)]
    simp only [f_X2_readItem, g_X2_readItem_rp, g_X2_readItem_vP, g_X2_readItem_vS, g_X2_readItem_vD, g_X2_readItem_vAg, g_X2_readItem_vKi, g_X2_readItem_vMe, g_X2_readItem_vOw, g_X2_readItem_vFk, hat, if_pos n1, nI_1, s1, s2, t5, if_neg i1, f_X7_addDeath, g_X7_addDeath_vD, if_neg q1, if_pos q2]
  · rw [L_X9_reads_9, if_neg (nI_ge ha (by omega))]
    simp only [f_X9_readsItem, g_X9_readsItem_mAt, g_X9_readsItem_mDr, hxt, if_pos n1, t6, t7, s3, s4, if_neg i1, if_neg q3]
end IT
