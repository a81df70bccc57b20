/-! the least over all sets is the least over all chains -/
def RSp (A K : Nat) (M own cr : Nat → Nat) (i T : Nat) (a : Int32) : Prop := (a = -4 ∧ ∀ l, pth A K M (i :: l) → (i :: l).Nodup → ¬ bl (i :: l) < T) ∨ ∃ c, c ≤ 18 ∧ a = nI c ∧ (∃ l, pth A K M (i :: l) ∧ (i :: l).Nodup ∧ c = cS cr (l.length + 1) + os own (i :: l)) ∧ ∀ l, pth A K M (i :: l) → (i :: l).Nodup → bl (i :: l) < T → c ≤ cS cr (l.length + 1) + os own (i :: l)
theorem q_m4 : ∀ c, c < 256 → ¬ nI c = -4 := by decide +kernel
theorem q_cs (a b : Int32) (m : Nat) : F_X8_careForMany_5 a b 0 m = nI (cS (fun t => (f_X8_care a (b + nI t)).toNatClampNeg) m) := by
  induction m with
  | zero => rfl
  | succ m ih => rw [F_X8_careForMany_5, ih, cS, ← nI_add, ← (k_care a (b + nI m)).1]
theorem q_c0 (m : Nat) : cS (fun _ => 0) m = 0 := by
  induction m with
  | zero => rfl
  | succ m ih => rw [cS, ih]
theorem RSp_same {A K : Nat} {M own cr : Nat → Nat} {i T : Nat} {a : Int32} (h : RSp A K M own cr i T a) (hn : ∀ l, ¬ PP A K M T i l) : RSp A K M own cr i (T + 1) a := by
  have w : ∀ l, pth A K M (i :: l) → (i :: l).Nodup → bl (i :: l) < T + 1 → bl (i :: l) < T := fun l a b c => by
    rcases Nat.lt_or_ge (bl (i :: l)) T with y | y
    · exact y
    · exact absurd ⟨a, b, by omega⟩ (hn l)
  rcases h with ⟨e1, e2⟩ | ⟨c, e1, e2, e3, e4⟩
  · left; exact ⟨e1, fun l x y z => e2 l x y (w l x y z)⟩
  · right; exact ⟨c, e1, e2, e3, fun l x y z => e4 l x y (w l x y z)⟩
theorem v_lt2 {T M n : Nat} (hM : M < 2 ^ n) (h : ∀ j, T.testBit j = true → M.testBit j = true) : T < 2 ^ n := by
  have e : T &&& M = T := Nat.eq_of_testBit_eq (fun j => by
    rw [Nat.testBit_and]
    cases w : T.testBit j
    · rfl
    · rw [h j w]; rfl)
  rw [← e]; exact Nat.and_lt_two_pow _ hM
section RR
variable {p q d k i : Nat} {vP vS vD : Int32} {vKi vMe vOw mTo row st fw : Nat → Int32}
theorem q_sh (hV : IvV p q d vP vS vD vKi vMe vOw mTo) (hS : StOK p q mTo st) (hk : k < q) {T : Nat} (hT : T < 2 ^ p) (hTK : T &&& zK st k = 0) : f_X9_shades mTo st (nI k) (nI T) = nI (cS (kC mTo st p k) (cb T p)) := by
  have hp := hV.1.2.1
  have h64 := p64 hp
  have e : zb_an T (zK st k) = T := Nat.eq_of_testBit_eq (fun i => by
    rw [zb_an_bit _ (by omega)]
    cases c : T.testBit i
    · rfl
    · cases c' : (zK st k).testBit i
      · rfl
      · have : (T &&& zK st k).testBit i = true := by rw [Nat.testBit_and, c, c']; rfl
        rw [hTK, Nat.zero_testBit] at this; cases this)
  rw [t_sh hV hS hk hT, e]
  by_cases c : (zA (mTo 2) st p).testBit (zO mTo k) = true
  · rw [if_pos c]
    have ek : kC mTo st p k = fun t => (f_X8_care (mTo (9 + zO mTo k)) (f_X9_others mTo st (nI k) + nI t)).toNatClampNeg := funext (fun t => by unfold kC; rw [if_pos c])
    rw [ek]; exact q_cs _ _ _
  · rw [if_neg c]
    have ek : kC mTo st p k = fun _ => 0 := funext (fun t => by unfold kC; rw [if_neg c])
    rw [ek, q_c0]; rfl
theorem q_17 (hV : IvV p q d vP vS vD vKi vMe vOw mTo) (hS : StOK p q mTo st) (hk : k < q) (hi : i < p) (n : Nat) : ∀ (T : Nat) (a : Int32) (fw : Nat → Int32), 1 ≤ T → T + n ≤ 2 ^ p → (∀ S, 1 ≤ S → S < T → ∀ j, j < p → PD (zA (mTo 2) st p) (zK st k) (zM mTo (zA (mTo 2) st p)) (kO mTo) S j (fw (6 * S + j))) → RSp (zA (mTo 2) st p) (zK st k) (zM mTo (zA (mTo 2) st p)) (kO mTo) (kC mTo st p k) i T a → RSp (zA (mTo 2) st p) (zK st k) (zM mTo (zA (mTo 2) st p)) (kO mTo) (kC mTo st p k) i (T + n) (L_X9_reaches_17 (nI k) (nI i) mTo st n T a fw).1 := by
  have hp := hV.1.2.1
  have hq := hV.1.2.2.1
  have h64 := p64 hp
  obtain ⟨e, hK, -⟩ := s_kn hq hp hS hk
  have hA := zA_lt (mTo 2) st p
  induction n with
  | zero => intro T a fw _ _ _ h; exact h
  | succ n ih =>
    intro T a fw hT1 hT2 hI h
    have hT : T < 2 ^ p := by omega
    have hTK : T &&& zK st k < 2 ^ p := Nat.and_lt_two_pow _ hK
    have hx9 : ∀ x5 : Int32, ((x5 = 0 ∧ ¬ (T &&& zK st k = 0 ∧ ∀ i, T.testBit i = true → (zA (mTo 2) st p).testBit i = true)) ∨ (x5 = 1 ∧ T &&& zK st k = 0 ∧ ∀ i, T.testBit i = true → (zA (mTo 2) st p).testBit i = true)) → ∀ m, m ≤ p → ∀ S, 1 ≤ S → ∀ j, (S < T ∧ j < p) ∨ (S = T ∧ j < m) → PD (zA (mTo 2) st p) (zK st k) (zM mTo (zA (mTo 2) st p)) (kO mTo) S j (F_X9_reaches_85 (nI k) x5 T mTo st fw m (6 * S + j)) := fun x5 hx m => by
      induction m with
      | zero =>
        intro _ S hS1 j hj
        rcases hj with ⟨a1, a2⟩ | ⟨a1, a2⟩
        · exact hI S hS1 a1 j a2
        · omega
      | succ m ihm =>
        intro hm S hS1 j hj
        have ihm := ihm (by omega)
        rw [q_85s hV hS hk x5 hT (by omega)]; unfold upd
        by_cases y : 6 * S + j = 6 * T + m
        · rw [if_pos y]
          have hST : S = T ∧ j = m := by
            rcases hj with ⟨a1, a2⟩ | ⟨a1, a2⟩
            · omega
            · omega
          rw [hST.1, hST.2]
          exact q_val hV hT (by omega) hK hx (fun S' h1 h2 j' hj' => ihm S' h1 j' (.inl ⟨h2, hj'⟩))
        · rw [if_neg y]
          refine ihm S hS1 j ?_
          rcases hj with hj | ⟨a1, a2⟩
          · exact .inl hj
          · exact .inr ⟨a1, by
              rcases Nat.lt_or_ge j m with z | z
              · exact z
              · exact absurd (show 6 * S + j = 6 * T + m by rw [a1]; omega) y⟩
    have hnext : ∀ x5 : Int32, ((x5 = 0 ∧ ¬ (T &&& zK st k = 0 ∧ ∀ i, T.testBit i = true → (zA (mTo 2) st p).testBit i = true)) ∨ (x5 = 1 ∧ T &&& zK st k = 0 ∧ ∀ i, T.testBit i = true → (zA (mTo 2) st p).testBit i = true)) → (∀ S, 1 ≤ S → S < T + 1 → ∀ j, j < p → PD (zA (mTo 2) st p) (zK st k) (zM mTo (zA (mTo 2) st p)) (kO mTo) S j (F_X9_reaches_85 (nI k) x5 T mTo st fw p (6 * S + j))) := fun x5 hx S h1 h2 j hj => by
      refine hx9 x5 hx p (Nat.le_refl _) S h1 j ?_
      rcases Nat.lt_or_ge S T with z | z
      · exact .inl ⟨z, hj⟩
      · exact .inr ⟨by omega, hj⟩
    rw [L_X9_reaches_17, nI_clamp (show k < 2 ^ 31 by omega), nI_clamp (show i < 2 ^ 31 by omega), e, s_liv9 hV, zb_and, zb_not, s_to0 hV, show T + (n + 1) = T + 1 + n by omega]
    have notmay : ¬ (T &&& zK st k = 0 ∧ ∀ i, T.testBit i = true → (zA (mTo 2) st p).testBit i = true) → F_X9_reaches_85 (nI k) 0 T mTo st fw p (6 * T + i) = -1 ∧ ∀ l, ¬ PP (zA (mTo 2) st p) (zK st k) (zM mTo (zA (mTo 2) st p)) T i l := fun w => by
      have hno : ∀ l, ¬ PP (zA (mTo 2) st p) (zK st k) (zM mTo (zA (mTo 2) st p)) T i l := fun l ⟨w1, w2, w3⟩ => by
        have hU := pth_U w1
        refine w ⟨Nat.eq_of_testBit_eq (fun i => ?_), fun i hi => ?_⟩
        · rw [Nat.testBit_and, Nat.zero_testBit]
          cases c : T.testBit i
          · rfl
          · rw [← w3] at c
            rw [(hU i ((bl_bit _ _).mp c)).2]; rfl
        · rw [← w3] at hi
          exact (hU i ((bl_bit _ _).mp hi)).1
      rcases hnext 0 (.inl ⟨rfl, w⟩) T hT1 (by omega) i hi with ⟨e1, -⟩ | ⟨c, -, -, ⟨l, w', -⟩, -⟩
      · exact ⟨e1, hno⟩
      · exact absurd w' (hno l)
    by_cases c1 : T &&& zK st k = 0
    · rw [if_pos ((z0 (by omega)).mpr c1)]
      by_cases c2 : zb_an T (zA (mTo 2) st p) = 0
      · have hm : ∀ i, T.testBit i = true → (zA (mTo 2) st p).testBit i = true := fun i hb => by
          have w := zb_an_bit (zA (mTo 2) st p) (show T < 2 ^ 32 by omega) i
          rw [c2, Nat.zero_testBit, hb] at w
          simpa using w.symm
        rw [if_pos ((z0 (by have := zb_an_le T (zA (mTo 2) st p); omega)).mpr c2), q_sh hV hS hk hT c1]
        have hx : ((1 : Int32) = 0 ∧ ¬ (T &&& zK st k = 0 ∧ ∀ i, T.testBit i = true → (zA (mTo 2) st p).testBit i = true)) ∨ ((1 : Int32) = 1 ∧ T &&& zK st k = 0 ∧ ∀ i, T.testBit i = true → (zA (mTo 2) st p).testBit i = true) := .inr ⟨rfl, c1, hm⟩
        rcases hnext 1 hx T hT1 (by omega) i hi with ⟨e1, e2⟩ | ⟨c0, f1, f2, ⟨l0, f3, f4⟩, f5⟩
        · rw [if_neg (by rw [e1]; decide)]
          exact ih (T + 1) _ _ (by omega) (by omega) (hnext 1 hx) (RSp_same h e2)
        · have hlen : ∀ l, PP (zA (mTo 2) st p) (zK st k) (zM mTo (zA (mTo 2) st p)) T i l → cb T p = l.length + 1 := fun l ⟨w1, w2, w3⟩ => by
            rw [← w3, bl_len (i :: l) w2 (fun x hx => Nat.lt_of_not_le (fun w => by have := (pth_U w1 x hx).1; rw [zb_hi hA w] at this; cases this)), List.length_cons]
          have hcb := cb_le T p
          have hcs := cS_le (kC_le mTo st p k) (cb T p)
          rw [f2, if_pos (nI_pos' (by omega)), nI_add, if_neg (nI_pos (by omega))]
          have take : (∀ l, pth (zA (mTo 2) st p) (zK st k) (zM mTo (zA (mTo 2) st p)) (i :: l) → (i :: l).Nodup → bl (i :: l) < T → c0 + cS (kC mTo st p k) (cb T p) ≤ cS (kC mTo st p k) (l.length + 1) + os (kO mTo) (i :: l)) → RSp (zA (mTo 2) st p) (zK st k) (zM mTo (zA (mTo 2) st p)) (kO mTo) (kC mTo st p k) i (T + 1) (nI (c0 + cS (kC mTo st p k) (cb T p))) := fun w => by
            right; refine ⟨c0 + cS (kC mTo st p k) (cb T p), by omega, rfl, ⟨l0, f3.1, f3.2.1, by rw [hlen l0 f3, f4]; omega⟩, fun l y1 y2 y3 => ?_⟩
            rcases Nat.lt_or_ge (bl (i :: l)) T with y | y
            · exact w l y1 y2 y
            · have hP : PP (zA (mTo 2) st p) (zK st k) (zM mTo (zA (mTo 2) st p)) T i l := ⟨y1, y2, by omega⟩
              have := f5 l hP
              rw [hlen l hP]; omega
          rcases id h with ⟨g1, g2⟩ | ⟨c, g1, g2, g3, g4⟩
          · rw [if_pos g1]
            exact ih (T + 1) _ _ (by omega) (by omega) (hnext 1 hx) (take (fun l y1 y2 y3 => absurd y3 (g2 l y1 y2)))
          · rw [g2, if_neg (q_m4 c (by omega))]
            rcases Nat.lt_or_ge (c0 + cS (kC mTo st p k) (cb T p)) c with y | y
            · rw [if_neg (nI_ge y (by omega))]
              exact ih (T + 1) _ _ (by omega) (by omega) (hnext 1 hx) (take (fun l y1 y2 y3 => by have := g4 l y1 y2 y3; omega))
            · rw [if_pos (nI_le y (by omega))]
              refine ih (T + 1) _ _ (by omega) (by omega) (hnext 1 hx) (.inr ⟨c, g1, rfl, g3, fun l y1 y2 y3 => ?_⟩)
              rcases Nat.lt_or_ge (bl (i :: l)) T with z | z
              · exact g4 l y1 y2 z
              · have hP : PP (zA (mTo 2) st p) (zK st k) (zM mTo (zA (mTo 2) st p)) T i l := ⟨y1, y2, by omega⟩
                have := f5 l hP
                rw [← hlen l hP]; omega
      · have w : ¬ (T &&& zK st k = 0 ∧ ∀ i, T.testBit i = true → (zA (mTo 2) st p).testBit i = true) := fun z => c2 (Nat.eq_of_testBit_eq (fun i => by
          rw [zb_an_bit _ (by omega), Nat.zero_testBit]
          cases c : T.testBit i
          · rfl
          · rw [z.2 i c]; rfl))
        obtain ⟨m1, m2⟩ := notmay w
        rw [if_neg (fun z => c2 ((z0 (by have := zb_an_le T (zA (mTo 2) st p); omega)).mp z)), m1, if_neg (by decide)]
        exact ih (T + 1) _ _ (by omega) (by omega) (hnext 0 (.inl ⟨rfl, w⟩)) (RSp_same h m2)
    · have w : ¬ (T &&& zK st k = 0 ∧ ∀ i, T.testBit i = true → (zA (mTo 2) st p).testBit i = true) := fun z => c1 z.1
      obtain ⟨m1, m2⟩ := notmay w
      rw [if_neg (fun z => c1 ((z0 (by omega)).mp z)), m1, if_neg (by decide)]
      exact ih (T + 1) _ _ (by omega) (by omega) (hnext 0 (.inl ⟨rfl, w⟩)) (RSp_same h m2)
/-- both answer alike -/
theorem q_eq (hV : IvV p q d vP vS vD vKi vMe vOw mTo) (hr : ∀ k, k < 15 → row k = st k) (hS : StOK p q mTo st) (hk : k < q) (hi : i < p) (hAi : (zA (mTo 2) st p).testBit i = true) (nCo nNx fw : Nat → Int32) : f_X0_fewestShades nCo nNx row vP vS vD vKi vMe vOw (nI k) (nI i) = f_X9_reaches mTo st fw (nI k) (nI i) ∧ (f_X9_reaches mTo st fw (nI k) (nI i) = -4 ∨ ∃ c, c ≤ 18 ∧ f_X9_reaches mTo st fw (nI k) (nI i) = nI c) := by
  have hp := hV.1.2.1
  have hq := hV.1.2.2.1
  have h64 := p64 hp
  have hA := zA_lt (mTo 2) st p
  have hMA : ∀ j i, (zM mTo (zA (mTo 2) st p) j).testBit i = true → (zA (mTo 2) st p).testBit i = true := fun j i w => (zM_bit mTo w).2
  have hf := k_fin hV hr hS hk (show i < 6 by omega) nCo nNx
  unfold f_X9_reaches
  rw [s_knows9 hq hp hS (by omega) hk]
  by_cases c : (zK st k).testBit i = true
  · rw [if_pos c, if_neg i1]
    have w0 : Wk (zA (mTo 2) st p) (zK st k) (zM mTo (zA (mTo 2) st p)) (kO mTo) 0 i 0 := ⟨⟨hAi, c⟩, rfl⟩
    rcases hf with ⟨-, h2⟩ | ⟨t, s, -, -, -, h4, h5⟩
    · exact absurd w0 (h2 0 (by omega) 0)
    · have e := h5 0 (by omega) 0 w0
      have e' : cS (kC mTo st p k) t + s = 0 := by
        have : cS (kC mTo st p k) 0 = 0 := rfl
        omega
      rw [h4, e']
      exact ⟨rfl, .inr ⟨0, by omega, rfl⟩⟩
  · rw [if_neg c, if_pos rfl, hV.2.1.2.1, zb_sh p (by omega), nI_clamp (by omega)]
    have h1p : 1 ≤ 2 ^ p := Nat.pow_pos (by decide)
    have hR := q_17 hV hS hk hi (2 ^ p - 1) 1 (-4) fw (Nat.le_refl _) (by omega) (fun S h1 h2 => by omega) (.inl ⟨rfl, fun l w1 w2 w3 => by
      have := (bl_bit (i :: l) i).mpr (List.mem_cons_self ..)
      rw [show bl (i :: l) = 0 by omega, Nat.zero_testBit] at this; cases this⟩)
    rw [show 1 + (2 ^ p - 1) = 2 ^ p by omega] at hR
    have hbl : ∀ l, pth (zA (mTo 2) st p) (zK st k) (zM mTo (zA (mTo 2) st p)) (i :: l) → bl (i :: l) < 2 ^ p := fun l w => v_lt2 hA (fun j hj => (pth_U w j ((bl_bit _ _).mp hj)).1)
    have hw : ∀ t s, Wk (zA (mTo 2) st p) (zK st k) (zM mTo (zA (mTo 2) st p)) (kO mTo) t i s → ∃ l, pth (zA (mTo 2) st p) (zK st k) (zM mTo (zA (mTo 2) st p)) (i :: l) ∧ (i :: l).Nodup ∧ cS (kC mTo st p k) (l.length + 1) + os (kO mTo) (i :: l) ≤ cS (kC mTo st p k) t + s := fun t s w => by
      cases t with
      | zero => exact absurd w.1.2 c
      | succ t =>
        obtain ⟨l, a1, a2, a3⟩ := (Wk_p hMA t i s).mp w
        obtain ⟨l', b1, b2, b3, b4⟩ := pth_simple (own := kO mTo) l i a1
        refine ⟨l', b1, b2, ?_⟩
        have := cS_mono (kC mTo st p k) (show l'.length + 1 ≤ t + 1 by omega)
        omega
    have hv : ∀ l, pth (zA (mTo 2) st p) (zK st k) (zM mTo (zA (mTo 2) st p)) (i :: l) → (i :: l).Nodup → l.length + 1 ≤ 6 ∧ Wk (zA (mTo 2) st p) (zK st k) (zM mTo (zA (mTo 2) st p)) (kO mTo) (l.length + 1) i (os (kO mTo) (i :: l)) := fun l w1 w2 => by
      have := pth_len hA w1 w2
      rw [List.length_cons] at this
      exact ⟨by omega, (Wk_p hMA _ i _).mpr ⟨l, w1, rfl, rfl⟩⟩
    rcases hf with ⟨h1, h2⟩ | ⟨t, s, h1, h2, h3, h4, h5⟩
    · rcases hR with ⟨r1, r2⟩ | ⟨c', r1, r2, ⟨l, r3, r4, r5⟩, r6⟩
      · rw [h1, r1]; exact ⟨rfl, .inl rfl⟩
      · obtain ⟨x1, x2⟩ := hv l r3 r4
        exact absurd x2 (h2 _ x1 _)
    · obtain ⟨l, a1, a2, a3⟩ := hw t s h2
      rcases hR with ⟨r1, r2⟩ | ⟨c', r1, r2, ⟨l', r3, r4, r5⟩, r6⟩
      · exact absurd (hbl l a1) (r2 l a1 a2)
      · have g1 := r6 l a1 a2 (hbl l a1)
        obtain ⟨x1, x2⟩ := hv l' r3 r4
        have g2 := h5 _ x1 _ x2
        have e : c' = cS (kC mTo st p k) t + s := by omega
        rw [h4, r2, e]
        exact ⟨rfl, .inr ⟨_, h3, rfl⟩⟩
end RR
