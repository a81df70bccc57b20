/-! the whole text; what is laid -/
section LY
variable {tN vP vS vD : Int32} {tL mTx vAg vKi vMe vOw vFk dr mTo : Nat → Int32} {n p q a e v w : Nat} {c : Nat → Nat}
theorem fa_t (hT : Tx tN tL n mTx c) (ha : a < n) (hc : c a = 112 ∨ c a = 109 ∨ c a = 115) (ht : tw c n (a + 1) = none) : Fa tN tL n mTx a vP vS dr := by
  have hn := hT.2.1
  obtain ⟨t, u⟩ := r_tn hT (by omega) ht
  have hat : f_X3_at tN tL (nI a) = nI (c a) := by rw [r_at6 hT (by omega), if_pos ha]
  have hxt : mTx a = nI (c a) := (hT.2.2 a ha).2.2
  rcases hc with hc | hc | hc
  · obtain ⟨n1, n2, n3, n4⟩ := n_112
    rw [hc] at hat hxt
    refine ⟨fun rn => ?_, fun sc => ?_⟩
    · simp only [f_X2_readItem, hat, if_neg n1, if_pos n2, nI_1]
      rcases t with t | ⟨t, t'⟩
      · rw [if_pos t]
      · rw [if_neg t, if_pos t']
    · simp only [f_X9_readsItem, hxt, if_neg n1, if_neg n3, if_pos n2, u, if_true]
  · obtain ⟨n1, n2, n3, n4⟩ := n_109
    rw [hc] at hat hxt
    refine ⟨fun rn => ?_, fun sc => ?_⟩
    · simp only [f_X2_readItem, hat, if_neg n1, if_neg n2, if_pos n3, nI_1]
      rcases t with t | ⟨t, t'⟩
      · rw [if_pos t]
      · rw [if_neg t, if_pos t']
    · simp only [f_X9_readsItem, hxt, if_neg n1, if_pos n3, u, if_true]
  · obtain ⟨n1, n2, n3, n4⟩ := n_115
    rw [hc] at hat hxt
    refine ⟨fun rn => ?_, fun sc => ?_⟩
    · simp only [f_X2_readItem, hat, if_neg n1, if_neg n2, if_neg n3, if_pos n4, nI_1]
      rcases t with t | ⟨t, t'⟩
      · rw [if_pos t]
      · rw [if_neg t, if_pos t']
    · simp only [f_X9_readsItem, hxt, if_neg n1, if_neg n2, if_neg n3, if_pos n4, u, if_true]
theorem fa_hp {v : Nat} (hv : v < 2 ^ 31) (h : p ≤ v) : f_X7_hasPerson (nI p) (nI v) = 0 := by
  unfold f_X7_hasPerson
  rw [if_neg (nI_pos hv), if_pos (nI_le h hv)]
theorem it1 (hT : Tx tN tL n mTx c) (hD : DR p q vP vS vD vAg vKi vMe vOw vFk dr) (ha : a < n) : Fa tN tL n mTx a vP vS dr ∨ ∃ e p' q' dr', a < e ∧ e ≤ n ∧ Go tN tL a e vP vS vD vAg vKi vMe vOw vFk p' q' dr' ∧ Rg n mTx a e dr dr' := by
  have hn := hT.2.1
  have hD' := hD
  obtain ⟨⟨hp, hq, h3, h4, h5, h6⟩, -⟩ := hD'
  have hat : f_X3_at tN tL (nI a) = nI (c a) := by rw [r_at6 hT (by omega), if_pos ha]
  have hxt : mTx a = nI (c a) := (hT.2.2 a ha).2.2
  by_cases c1 : c a = 100
  · have n1 := n_100
    rw [c1] at hat hxt
    cases ht : nu c n (a + 1) with
    | none =>
      obtain ⟨t1, t2⟩ := r_nn hT (by omega) ht
      left
      refine ⟨fun rn => ?_, fun sc => ?_⟩
      · simp only [f_X2_readItem, hat, if_pos n1, nI_1, t1, if_true]
      · simp only [f_X9_readsItem, hxt, if_pos n1, t2, if_pos (show (-1 : Int32) ≤ 0 by decide)]
    | some ve =>
      obtain ⟨v, e⟩ := ve
      obtain ⟨t1, t2, t3, t4, t5, t6, t7⟩ := r_ns hT (by omega) ht
      have s1 : f_X2_readNumber (nI (a + 1)) tN tL 59 = if sg c n 59 e then 1 else 0 := (t4 59 (by decide) (by decide)).1
      have s3 : f_X9_sign n e mTx 59 = if sg c n 59 e then 1 else 0 := (r_sn hT (by omega) (by decide)).1
      rcases Nat.eq_zero_or_pos v with z | z
      · subst z
        left
        refine ⟨fun rn => ?_, fun sc => ?_⟩
        · simp only [f_X2_readItem, hat, if_pos n1, nI_1, t5, f_X7_addDeath, if_pos (show nI 0 < 1 by decide), if_true, ite_self]
        · simp only [f_X9_readsItem, hxt, if_pos n1, t6, if_pos (show nI 0 ≤ 0 by decide)]
      · cases y : sg c n 59 e
        · rw [y] at s1 s3
          left
          refine ⟨fun rn => ?_, fun sc => ?_⟩
          · simp only [f_X2_readItem, hat, if_pos n1, nI_1, s1]; rfl
          · simp only [f_X9_readsItem, hxt, if_pos n1, t6, t7, s3]
            split <;> rfl
        · right
          obtain ⟨g1, g2⟩ := go_d hT hD ha c1 ht y z
          exact ⟨e + 1, p, q, _, by omega, by have := (sg_t y).1; omega, g1, g2⟩
  by_cases c2 : c a = 112 ∨ c a = 109 ∨ c a = 115
  · cases ht : tw c n (a + 1) with
    | none => left; exact fa_t hT ha c2 ht
    | some vwe =>
      obtain ⟨v, w, e⟩ := vwe
      obtain ⟨t1, t2, t3, t4, t5, t6, t7, t8, t9, u1, u2, u3, u4⟩ := r_ts hT (by omega) ht
      rcases c2 with hc | hc | hc
      · obtain ⟨n1, n2, n3, n4⟩ := n_112
        by_cases x : p < 6 ∧ v ≤ 60 ∧ w < 5
        · right
          obtain ⟨g1, g2⟩ := go_p hT hD ha hc ht x.1 x.2.1 x.2.2
          exact ⟨e, p + 1, q, _, by omega, t4, g1, g2⟩
        · left
          rw [hc] at hat hxt
          refine ⟨fun rn => ?_, fun sc => ?_⟩
          · simp only [f_X2_readItem, hat, if_neg n1, if_pos n2, if_neg n3, nI_1, t5, t6, t7, t8, if_neg i1, f_X7_addPerson, h3, if_neg (nI_pos (show p < 2 ^ 31 by omega))]
            by_cases x1 : p < 6
            · rw [if_neg (show ¬ (6 : Int32) ≤ nI p from nI_ge (b := 6) x1 (by decide))]
              by_cases x2 : v ≤ 60
              · rw [if_neg (show ¬ (60 : Int32) < nI v from nI_nlt (a := 60) x2 (by decide)), if_neg (show ¬ nI w < 5 from nI_nlt (b := 5) (by omega) (by omega))]
              · rw [if_pos (show (60 : Int32) < nI v from nI_lt (a := 60) (by omega) (by omega))]
            · rw [if_pos (show (6 : Int32) ≤ nI p from nI_le (a := 6) (by omega) (by omega))]
          · simp only [f_X9_readsItem, hxt, if_neg n1, if_neg n3, if_pos n2, u1, u2, u3, if_neg i1, h4]
            by_cases x2 : v ≤ 60
            · rw [if_neg (show ¬ (60 : Int32) < nI v from nI_nlt (a := 60) x2 (by decide))]
              by_cases x3 : w < 5
              · rw [if_neg (show ¬ (4 : Int32) < nI w from nI_nlt (a := 4) (by omega) (by decide)), if_pos (show nI p = 6 from congrArg nI (show p = 6 by omega))]
              · rw [if_pos (show (4 : Int32) < nI w from nI_lt (a := 4) (by omega) (by omega))]
            · rw [if_pos (show (60 : Int32) < nI v from nI_lt (a := 60) (by omega) (by omega))]
      · obtain ⟨n1, n2, n3, n4⟩ := n_109
        by_cases x : v < p ∧ w < p ∧ ¬ v = w
        · right
          obtain ⟨g1, g2⟩ := go_m hT hD ha hc ht x.1 x.2.1 x.2.2
          exact ⟨e, p, q, _, by omega, t4, g1, g2⟩
        · left
          rw [hc] at hat hxt
          refine ⟨fun rn => ?_, fun sc => ?_⟩
          · simp only [f_X2_readItem, hat, if_neg n1, if_neg n2, if_pos n3, nI_1, t5, t6, t7, t8, if_neg i1, f_X7_addMeeting, h3]
            by_cases x1 : v < p
            · by_cases x2 : w < p
              · rw [if_pos (congrArg nI (show v = w from Classical.byContradiction (fun z => x ⟨x1, x2, z⟩)))]
                simp only [ite_self]
              · simp only [fa_hp (show w < 2 ^ 31 by omega) (show p ≤ w by omega), if_true, ite_self]
            · simp only [fa_hp (show v < 2 ^ 31 by omega) (show p ≤ v by omega), if_true]
          · simp only [f_X9_readsItem, hxt, if_neg n1, if_pos n3, u1, u2, u3, if_neg i1, h4]
            by_cases x1 : v < p
            · rw [if_neg (nI_ge x1 (by omega))]
              by_cases x2 : w < p
              · rw [if_neg (nI_ge x2 (by omega)), if_pos (congrArg nI (show v = w from Classical.byContradiction (fun z => x ⟨x1, x2, z⟩)))]
              · rw [if_pos (nI_le (by omega) (by omega))]
            · rw [if_pos (nI_le (by omega) (by omega))]
      · obtain ⟨n1, n2, n3, n4⟩ := n_115
        by_cases x : q < 8 ∧ v < p ∧ w ≤ 63
        · right
          obtain ⟨g1, g2⟩ := go_s hT hD ha hc ht x.1 x.2.1 x.2.2
          exact ⟨e, p, q + 1, _, by omega, t4, g1, g2⟩
        · left
          rw [hc] at hat hxt
          refine ⟨fun rn => ?_, fun sc => ?_⟩
          · simp only [f_X2_readItem, hat, if_neg n1, if_neg n2, if_neg n3, if_pos n4, nI_1, t5, t6, t7, t8, if_neg i1, f_X7_addSecret, h3, h5, if_neg (nI_pos (show q < 2 ^ 31 by omega))]
            by_cases x1 : q < 8
            · rw [if_neg (show ¬ (8 : Int32) ≤ nI q from nI_ge (b := 8) x1 (by decide))]
              by_cases x2 : v < p
              · rw [if_neg (show ¬ nI w ≤ 63 from nI_ge (a := 63) (by omega) (by omega)), ite_self]
              · rw [fa_hp (by omega) (by omega), if_pos rfl]
            · rw [if_pos (show (8 : Int32) ≤ nI q from nI_le (a := 8) (by omega) (by omega))]
          · simp only [f_X9_readsItem, hxt, if_neg n1, if_neg n2, if_neg n3, if_pos n4, u1, u2, u3, if_neg i1, h4, h6]
            by_cases x2 : v < p
            · rw [if_neg (nI_ge x2 (by omega))]
              by_cases x3 : w ≤ 63
              · rw [if_neg (show ¬ (63 : Int32) < nI w from nI_nlt (a := 63) (by omega) (by decide)), if_pos (show nI q = 8 from congrArg nI (show q = 8 by omega))]
              · rw [if_pos (show (63 : Int32) < nI w from nI_lt (a := 63) (by omega) (by omega))]
            · rw [if_pos (nI_le (by omega) (by omega))]
  · left
    have hl := (hT.2.2 a ha).1
    have m1 : ¬ nI (c a) = 100 := fun z => c1 ((nI_eq (b := 100) (by omega) (by decide)).mp z)
    have m2 : ¬ nI (c a) = 112 := fun z => c2 (.inl ((nI_eq (b := 112) (by omega) (by decide)).mp z))
    have m3 : ¬ nI (c a) = 109 := fun z => c2 (.inr (.inl ((nI_eq (b := 109) (by omega) (by decide)).mp z)))
    have m4 : ¬ nI (c a) = 115 := fun z => c2 (.inr (.inr ((nI_eq (b := 115) (by omega) (by decide)).mp z)))
    exact ⟨fun rn => by simp only [f_X2_readItem, hat, if_neg m1, if_neg m2, if_neg m3, if_neg m4], fun sc => by simp only [f_X9_readsItem, hxt, if_neg m1, if_neg m2, if_neg m3, if_neg m4]⟩
/-- both read the text through -/
theorem lp (hT : Tx tN tL n mTx c) (m : Nat) : ∀ (j a m2 p q : Nat) (rn fi sc vP vS vD : Int32) (vAg vKi vMe vOw vFk dr : Nat → Int32), DR p q vP vS vD vAg vKi vMe vOw vFk dr → a ≤ n → n ≤ a + m → n < a + m2 →
    (∃ b, b < n ∧ (L_X2_readAll_11 tN tL m j (nI a) rn vP vS vD vAg vKi vMe vOw vFk).1 = nI b ∧ (L_X9_reads_9 n mTx m2 a fi sc dr).1 = nI b) ∨
    ((L_X2_readAll_11 tN tL m j (nI a) rn vP vS vD vAg vKi vMe vOw vFk).1 = -4 ∧ (L_X9_reads_9 n mTx m2 a fi sc dr).1 = -4 ∧ ∃ p' q', DR p' q' (L_X2_readAll_11 tN tL m j (nI a) rn vP vS vD vAg vKi vMe vOw vFk).2.2.2.1 (L_X2_readAll_11 tN tL m j (nI a) rn vP vS vD vAg vKi vMe vOw vFk).2.2.2.2.1 (L_X2_readAll_11 tN tL m j (nI a) rn vP vS vD vAg vKi vMe vOw vFk).2.2.2.2.2.1 (L_X2_readAll_11 tN tL m j (nI a) rn vP vS vD vAg vKi vMe vOw vFk).2.2.2.2.2.2.1 (L_X2_readAll_11 tN tL m j (nI a) rn vP vS vD vAg vKi vMe vOw vFk).2.2.2.2.2.2.2.1 (L_X2_readAll_11 tN tL m j (nI a) rn vP vS vD vAg vKi vMe vOw vFk).2.2.2.2.2.2.2.2.1 (L_X2_readAll_11 tN tL m j (nI a) rn vP vS vD vAg vKi vMe vOw vFk).2.2.2.2.2.2.2.2.2.1 (L_X2_readAll_11 tN tL m j (nI a) rn vP vS vD vAg vKi vMe vOw vFk).2.2.2.2.2.2.2.2.2.2 (L_X9_reads_9 n mTx m2 a fi sc dr).2.2.2.2) := by
  have hn := hT.2.1
  have stop9 : ∀ m2 a fi sc dr, a = n → L_X9_reads_9 n mTx m2 a fi sc dr = (-4, a, fi, sc, dr) := fun m2 a fi sc dr e => by
    cases m2 with
    | zero => rfl
    | succ m2 => rw [L_X9_reads_9, if_pos (nI_le (by omega) (by omega))]
  induction m with
  | zero =>
    intro j a m2 p q rn fi sc vP vS vD vAg vKi vMe vOw vFk dr hD h1 h2 h3
    right
    rw [stop9 m2 a fi sc dr (by omega)]
    exact ⟨rfl, rfl, p, q, hD⟩
  | succ m ih =>
    intro j a m2 p q rn fi sc vP vS vD vAg vKi vMe vOw vFk dr hD h1 h2 h3
    by_cases ha : a < n
    · obtain ⟨m2, rfl⟩ : ∃ k, m2 = k + 1 := ⟨m2 - 1, by omega⟩
      rcases it1 hT hD ha with ⟨f1, f2⟩ | ⟨e, p', q', dr', g1, g2, g3, g4⟩
      · left
        refine ⟨a, ha, ?_, ?_⟩
        · rw [L_X2_readAll_11, f_X3_size, if_neg (go_un hT ha), if_pos (f1 rn)]
        · rw [L_X9_reads_9, if_neg (nI_ge ha (by omega)), if_pos (f2 sc)]
      · obtain ⟨rn', P', S', D', A', K', M', O', F', e1, d1⟩ := g3 m j rn
        obtain ⟨fi', sc', e2⟩ := g4 m2 fi sc
        rw [e1, e2]
        exact ih (j + 1) e m2 p' q' rn' fi' sc' P' S' D' A' K' M' O' F' dr' d1 g2 (by omega) (by omega)
    · right
      rw [stop9 m2 a fi sc dr (by omega), L_X2_readAll_11, f_X3_size, if_pos (by rw [hT.1]; exact nI_le (by omega) (by omega))]
      exact ⟨rfl, rfl, p, q, hD⟩
theorem b_be (i0 : Nat → Int32) (n k : Nat) : F_X9_begins_2 i0 n k = if k < n then 0 else i0 k := by
  induction n with
  | zero => rfl
  | succ n ih =>
    rw [F_X9_begins_2]; unfold upd
    by_cases e : k = n
    · subst e; rw [if_pos rfl, if_pos (by omega)]
    · rw [if_neg e, ih]
      by_cases w : k < n
      · rw [if_pos w, if_pos (by omega)]
      · rw [if_neg w, if_neg (by omega)]
theorem dr_0 (vAg vKi vMe vOw vFk i0 : Nat → Int32) : DR 0 0 0 0 80 vAg vKi vMe vOw vFk (g_X9_begins_mDr i0) := by
  have ex : ∀ x, x < 37 → ¬ x = 2 → g_X9_begins_mDr i0 x = 0 := fun x h1 h2 => by
    unfold g_X9_begins_mDr upd; rw [if_neg h2, b_be, if_pos h1]
  refine ⟨⟨by decide, by decide, rfl, ex 0 (by decide) (by decide), rfl, ex 1 (by decide) (by decide)⟩, ⟨80, by decide, by decide, rfl, rfl⟩, fun i hi => absurd hi (Nat.not_lt_zero _), fun i _ hi => ⟨ex _ (by omega) (by omega), ex _ (by omega) (by omega)⟩, fun k hk => absurd hk (Nat.not_lt_zero _), fun k _ hk => ⟨ex _ (by omega) (by omega), ex _ (by omega) (by omega)⟩⟩
theorem tx_of {mTy : Nat} (h : IvT tN tL mTy mTx) : Tx tN tL mTy mTx (fun k => (tL k).toNatClampNeg) := by
  obtain ⟨h1, h2, -, h4⟩ := h
  refine ⟨h1, h2, fun k hk => ?_⟩
  obtain ⟨ch, a, b, e1, e2⟩ := h4 k hk
  have e := (tn_nI e1 (by omega)).2
  dsimp only
  rw [e]
  exact ⟨by omega, e1, e2⟩
/-- the two readings of one text -/
theorem rd (hT : Tx tN tL n mTx c) (rn fi sc : Int32) (vAg vKi vMe vOw vFk i0 : Nat → Int32) :
    (∃ b, b < n ∧ f_X2_readAll rn tN tL vAg vKi vMe vOw vFk = nI b ∧ f_X9_reads n fi sc mTx i0 = nI b) ∨
    (f_X2_readAll rn tN tL vAg vKi vMe vOw vFk = -4 ∧ f_X9_reads n fi sc mTx i0 = -4 ∧ ∃ p' q', DR p' q' (g_X2_readAll_vP rn tN tL vAg vKi vMe vOw vFk) (g_X2_readAll_vS rn tN tL vAg vKi vMe vOw vFk) (g_X2_readAll_vD rn tN tL vAg vKi vMe vOw vFk) (g_X2_readAll_vAg rn tN tL vAg vKi vMe vOw vFk) (g_X2_readAll_vKi rn tN tL vAg vKi vMe vOw vFk) (g_X2_readAll_vMe rn tN tL vAg vKi vMe vOw vFk) (g_X2_readAll_vOw rn tN tL vAg vKi vMe vOw vFk) (g_X2_readAll_vFk rn tN tL vAg vKi vMe vOw vFk) (g_X9_reads_mDr n fi sc mTx i0)) := by
  have hn := hT.2.1
  exact lp hT 200 0 0 201 0 0 rn fi sc 0 0 80 vAg vKi vMe vOw vFk (g_X9_begins_mDr i0) (dr_0 _ _ _ _ _ _) (Nat.zero_le _) (by omega) (by omega)
/-! whether all can live -/
theorem cl_6 (hD : DR p q vP vS vD vAg vKi vMe vOw vFk dr) (m j : Nat) (hj : j + m ≤ 6) : (L_X7_canLive_2 vP vD vAg m j = 0 ↔ p = 0 ∨ ∃ i, j ≤ i ∧ i < j + m ∧ i < p ∧ dr 2 ≤ dr (3 + i)) := by
  obtain ⟨⟨hp, hq, h3, h4, h5, h6⟩, ⟨d, h7, h8, h9, h10⟩, hP, -⟩ := hD
  subst h3
  induction m generalizing j with
  | zero =>
    rw [L_X7_canLive_2]
    by_cases z : p = 0
    · rw [if_pos (by rw [z]; decide)]; exact ⟨fun _ => .inl z, fun _ => rfl⟩
    · rw [if_neg (nI_nle (by omega) (by omega))]
      exact ⟨fun w => absurd w (by decide), fun w => by
        rcases w with w | ⟨i, w1, w2, _⟩
        · exact absurd w z
        · omega⟩
  | succ m ih =>
    have ih := ih (j + 1) (by omega)
    rw [L_X7_canLive_2]
    have skip : ¬ (j < p ∧ dr 2 ≤ dr (3 + j)) → ((p = 0 ∨ ∃ i, j + 1 ≤ i ∧ i < j + 1 + m ∧ i < p ∧ dr 2 ≤ dr (3 + i)) ↔ (p = 0 ∨ ∃ i, j ≤ i ∧ i < j + (m + 1) ∧ i < p ∧ dr 2 ≤ dr (3 + i))) := fun z => by
      constructor
      · rintro (y | ⟨i, y1, y2, y3, y4⟩)
        · exact .inl y
        · exact .inr ⟨i, by omega, by omega, y3, y4⟩
      · rintro (y | ⟨i, y1, y2, y3, y4⟩)
        · exact .inl y
        · by_cases x : i = j
          · subst x; exact absurd ⟨y3, y4⟩ z
          · exact .inr ⟨i, by omega, by omega, y3, y4⟩
    by_cases c1 : p ≤ j
    · rw [if_pos (nI_le c1 (by omega)), ih]
      exact skip (fun z => by have := z.1; omega)
    · rw [if_neg (nI_ge (by omega) (by omega))]
      obtain ⟨a, κ, M, -, -, -, e1, e2, -⟩ := hP j (by omega)
      rw [e1, ← e2, h9, ← h10]
      by_cases c2 : dr (3 + j) < dr 2
      · rw [if_pos c2]
        rw [h9, ← h10] at ih
        rw [ih]
        exact skip (fun z => absurd c2 (Int32.not_lt.mpr z.2))
      · rw [if_neg c2]
        exact ⟨fun _ => .inr ⟨j, Nat.le_refl _, by omega, by omega, Int32.not_lt.mp c2⟩, fun _ => rfl⟩
theorem cl_0 (dr : Nat → Int32) (m j : Nat) : L_X9_lay_26 dr m j 0 = 0 := by
  cases m with
  | zero => rfl
  | succ m => rw [L_X9_lay_26, if_pos rfl]
theorem cl_9 (dr : Nat → Int32) (m j : Nat) : (L_X9_lay_26 dr m j 1 = 0 ↔ ∃ i, j ≤ i ∧ i < j + m ∧ dr 2 ≤ dr (3 + i)) := by
  induction m generalizing j with
  | zero => exact ⟨fun w => absurd w (by rw [L_X9_lay_26]; decide), fun ⟨i, a, b, _⟩ => by omega⟩
  | succ m ih =>
    rw [L_X9_lay_26, if_neg i1]
    by_cases c2 : dr 2 ≤ dr (3 + j)
    · rw [if_pos c2, cl_0]
      exact ⟨fun _ => ⟨j, Nat.le_refl _, by omega, c2⟩, fun _ => rfl⟩
    · rw [if_neg c2, ih (j + 1)]
      constructor
      · rintro ⟨i, y1, y2, y4⟩; exact ⟨i, by omega, by omega, y4⟩
      · rintro ⟨i, y1, y2, y4⟩
        by_cases x : i = j
        · subst x; exact absurd y4 c2
        · exact ⟨i, by omega, by omega, y4⟩
/-! what is laid -/
theorem b_la (d0 i0 : Nat → Int32) (n k : Nat) : F_X9_lays_2 d0 i0 n k = if k < n then d0 k else i0 k := by
  induction n with
  | zero => rfl
  | succ n ih =>
    rw [F_X9_lays_2]; unfold upd
    by_cases e : k = n
    · subst e; rw [if_pos rfl, if_pos (by omega)]
    · rw [if_neg e, ih]
      by_cases w : k < n
      · rw [if_pos w, if_pos (by omega)]
      · rw [if_neg w, if_neg (by omega)]
theorem b_28 (to i0 : Nat → Int32) (n k : Nat) (hn : n ≤ 15) (hk : k < n) : F_X9_lays_28 to i0 n k = if k < 6 then to (3 + k) else if k < 14 then to (23 + k) &&& (((1 : Int32) <<< ((to 0) &&& 31)) - 1) else 0 := by
  induction n with
  | zero => omega
  | succ n ih =>
    rw [F_X9_lays_28]
    by_cases e : k = n
    · subst e
      by_cases w : k < 6
      · rw [if_neg (show ¬ (6 : Int32) ≤ nI k from nI_ge (b := 6) w (by decide)), if_pos w]; unfold upd; rw [if_pos rfl]
      · rw [if_pos (show (6 : Int32) ≤ nI k from nI_le (a := 6) (by omega) (by omega)), if_neg w]
        by_cases y : k < 14
        · rw [if_neg (show ¬ (14 : Int32) ≤ nI k from nI_ge (b := 14) y (by decide)), if_pos y]; unfold upd; rw [if_pos rfl, show 29 + k - 6 = 23 + k by omega]
        · rw [if_pos (show (14 : Int32) ≤ nI k from nI_le (a := 14) (by omega) (by omega)), if_neg y]; unfold upd; rw [if_pos rfl]
    · have ih := ih (by omega) (by omega)
      split
      · split
        · unfold upd; rw [if_neg e, ih]
        · unfold upd; rw [if_neg e, ih]
      · unfold upd; rw [if_neg e, ih]
theorem b_b2 (vP : Int32) (vAg i0 : Nat → Int32) (n k : Nat) : F_X6_begin_2 vP vAg i0 n k = if k < n then f_X7_firstAgeOf vP vAg (nI k) else i0 k := by
  induction n with
  | zero => rfl
  | succ n ih =>
    rw [F_X6_begin_2]; unfold upd
    by_cases e : k = n
    · subst e; rw [if_pos rfl, if_pos (by omega)]
    · rw [if_neg e, ih]
      by_cases w : k < n
      · rw [if_pos w, if_pos (by omega)]
      · rw [if_neg w, if_neg (by omega)]
theorem b_b30 (vP vS : Int32) (vFk i0 : Nat → Int32) (n k : Nat) : F_X6_begin_30 vP vS vFk i0 n k = if 6 ≤ k ∧ k < 6 + n then f_X7_firstKnowersOf vP vS vFk (nI (k - 6)) else i0 k := by
  induction n with
  | zero => rw [if_neg (by omega)]; rfl
  | succ n ih =>
    rw [F_X6_begin_30]; unfold upd
    by_cases e : k = 6 + n
    · rw [if_pos e, if_pos (by omega), show k - 6 = n by omega]
    · rw [if_neg e, ih]
      by_cases w : 6 ≤ k ∧ k < 6 + n
      · rw [if_pos w, if_pos (by omega)]
      · rw [if_neg w, if_neg (by omega)]
theorem dr_V (hD : DR p q vP vS vD vAg vKi vMe vOw vFk dr) (h0 : 1 ≤ p) (hm : ∀ k, k < 37 → mTo k = dr k) : ∃ d, IvV p q d vP vS vD vKi vMe vOw mTo := by
  obtain ⟨⟨hp, hq, h3, h4, h5, h6⟩, ⟨d, h7, h8, h9, h10⟩, hP, hN, hS, hM⟩ := hD
  refine ⟨d, ⟨h0, hp, hq, h7, h8⟩, ⟨h3, by rw [hm 0 (by omega), h4], h5, by rw [hm 1 (by omega), h6], h9, by rw [hm 2 (by omega), h10]⟩, fun i hi => ?_, fun i hi => ?_, fun k hk => ?_, fun k hk => ?_⟩
  · obtain ⟨a, κ, M, b1, b2, b3, b4, b5, b6, b7, b8, b9⟩ := hP i hi
    exact ⟨κ, b2, b6, by rw [hm _ (by omega), b7]⟩
  · obtain ⟨a, κ, M, b1, b2, b3, b4, b5, b6, b7, b8, b9⟩ := hP i hi
    exact ⟨M, b3, b8, by rw [hm _ (by omega), b9]⟩
  · obtain ⟨o, K, b1, b2, b3, b4, b5, b6, b7⟩ := hS k hk
    exact ⟨o, b1, b4, by rw [hm _ (by omega), b5]⟩
  · rw [hm _ (by omega)]
    by_cases x : k < q
    · obtain ⟨o, K, b1, b2, b3, b4, b5, b6, b7⟩ := hS k x
      rw [b5]; exact vp_in_nI (by omega) (by decide)
    · rw [(hM k (by omega) hk).1]; exact vp_in_nI (n := 0) (by decide) (by decide)
theorem b_mask : ∀ p, p ≤ 6 → ((1 : Int32) <<< (nI p &&& 31)) - 1 = nI (2 ^ p - 1) := by decide +kernel
theorem dr_S (hD : DR p q vP vS vD vAg vKi vMe vOw vFk dr) (hm : ∀ k, k < 37 → mTo k = dr k) (row st : Nat → Int32) : IvS p q (g_X6_begin_row row vP vS vAg vFk) mTo (F_X9_lays_28 mTo st 15) := by
  obtain ⟨⟨hp, hq, h3, h4, h5, h6⟩, ⟨d, h7, h8, h9, h10⟩, hP, hN, hS, hM⟩ := hD
  subst h3; subst h5
  have hx : ∀ k, k < 15 → F_X9_lays_28 mTo st 15 k = if k < 6 then dr (3 + k) else if k < 14 then dr (23 + k) &&& nI (2 ^ p - 1) else 0 := fun k hk => by
    rw [b_28 _ _ 15 k (Nat.le_refl _) hk, hm 0 (by omega), h4, b_mask p hp]
    by_cases w : k < 6
    · rw [if_pos w, if_pos w, hm _ (by omega)]
    · rw [if_neg w, if_neg w]
      by_cases y : k < 14
      · rw [if_pos y, if_pos y, hm _ (by omega)]
      · rw [if_neg y, if_neg y]
  refine ⟨fun k hk => ?_, fun k hk => ?_⟩
  · rw [hx k hk]
    unfold g_X6_begin_row upd
    by_cases y : k = 14
    · rw [if_pos y, if_neg (by omega), if_neg (by omega)]
    · rw [if_neg y, b_b30, b_b2]
      by_cases w : k < 6
      · rw [if_neg (by omega), if_pos w, if_pos w]
        unfold f_X7_firstAgeOf f_X7_hasPerson
        rw [if_neg (nI_pos (by omega)), nI_clamp (by omega)]
        by_cases x : k < p
        · obtain ⟨a, κ, M, b1, b2, b3, b4, b5, -⟩ := hP k x
          rw [if_neg (nI_ge x (by omega)), if_neg (show ¬ (6 : Int32) ≤ nI k from nI_ge (b := 6) w (by decide)), if_neg i1, b4, b5]
        · rw [if_pos (nI_le (by omega) (by omega)), if_pos rfl, (hN k (by omega) w).1]
      · rw [if_pos (by omega), if_neg w, if_pos (by omega)]
        unfold f_X7_firstKnowersOf f_X7_hasSecret
        rw [if_neg (nI_pos (by omega)), nI_clamp (by omega), b_mask p hp]
        by_cases x : k - 6 < q
        · obtain ⟨o, K, b1, b2, b3, b4, b5, b6, b7⟩ := hS (k - 6) x
          rw [if_neg (nI_ge x (by omega)), if_neg (show ¬ (8 : Int32) ≤ nI (k - 6) from nI_ge (b := 8) (by omega) (by decide)), if_neg i1, b6, show 23 + k = 29 + (k - 6) by omega, b7]
        · rw [if_pos (nI_le (by omega) (by omega)), if_pos rfl, show 23 + k = 29 + (k - 6) by omega, (hM (k - 6) (by omega) (by omega)).2, show (0 : Int32) = nI 0 from rfl, zb_and, Nat.zero_and]
  · obtain ⟨o, K, b1, b2, b3, b4, b5, b6, b7⟩ := hS k hk
    have hlt : K &&& (2 ^ p - 1) < 2 ^ p := Nat.and_lt_two_pow _ (Nat.sub_lt (Nat.pow_pos (by decide)) (by decide))
    refine ⟨K &&& (2 ^ p - 1), o, hlt, ?_, b1, by rw [hm _ (by omega), b5], ?_⟩
    · rw [hx _ (by omega), if_neg (by omega), if_pos (by omega), show 23 + (6 + k) = 29 + k by omega, b7, zb_and]
    · rw [Nat.testBit_and, b3, Nat.testBit_two_pow_sub_one]; simp [b1]
end LY
