/-! the reference's sets of those told -/
def PP (A K : Nat) (M : Nat → Nat) (T j : Nat) (l : List Nat) : Prop := pth A K M (j :: l) ∧ (j :: l).Nodup ∧ bl (j :: l) = T
def PD (A K : Nat) (M own : Nat → Nat) (T j : Nat) (v : Int32) : Prop := (v = -1 ∧ ∀ l, ¬ PP A K M T j l) ∨ ∃ c, c ≤ 6 ∧ v = nI c ∧ (∃ l, PP A K M T j l ∧ os own (j :: l) = c) ∧ ∀ l, PP A K M T j l → c ≤ os own (j :: l)
theorem q_os {own : Nat → Nat} (ho : ∀ j, own j ≤ 1) (l : List Nat) : os own l ≤ l.length := by
  induction l with
  | nil => exact Nat.le_refl _
  | cons j l ih => rw [os, List.length_cons]; have := ho j; omega
theorem q_x : ∀ T, T < 64 → ∀ n, n < 6 → T.testBit n = true → T ^^^ 2 ^ n < T ∧ (T ^^^ 2 ^ n).testBit n = false ∧ 2 ^ n ||| (T ^^^ 2 ^ n) = T := by decide +kernel
theorem q_m1 : ∀ c, c < 64 → ¬ nI c = -1 := by decide +kernel
/-- the best of those ahead, so far -/
def BSp (v : Nat → Int32) (D : Nat → Prop) (o b : Nat) (a : Int32) : Prop := (a = -1 ∧ ∀ b', b' < b → D b' → v b' = -1) ∨ ∃ c, c ≤ 7 ∧ a = nI c ∧ (∃ b' c', b' < b ∧ D b' ∧ c' ≤ 6 ∧ v b' = nI c' ∧ c = c' + o) ∧ ∀ b', b' < b → D b' → ∀ c', c' ≤ 6 → v b' = nI c' → c ≤ c' + o
section RQ
variable {p q d k : Nat} {vP vS vD : Int32} {vKi vMe vOw mTo row st fw : Nat → Int32}
theorem q_180z (x8 : Int32) (j n b : Nat) (a : Int32) : L_X9_reaches_180 x8 (nI 0) j mTo st fw n b a = a := by
  cases n with
  | zero => rfl
  | succ n => rw [L_X9_reaches_180, if_pos (show nI 0 = 0 from rfl)]
theorem q_180 (hV : IvV p q d vP vS vD vKi vMe vOw mTo) {j left o : Nat} (hj : j < p) (h0 : ¬ left = 0) (hl : left < 2 ^ p) (ho : o ≤ 1) (hv : ∀ b, b < p → fw (6 * left + b) = -1 ∨ ∃ c, c ≤ 6 ∧ fw (6 * left + b) = nI c) (n : Nat) : ∀ (b : Nat) (a : Int32), b + n ≤ p → BSp (fun b => fw (6 * left + b)) (fun b => left.testBit b = true ∧ (zM mTo (zA (mTo 2) st p) j).testBit b = true) o b a → BSp (fun b => fw (6 * left + b)) (fun b => left.testBit b = true ∧ (zM mTo (zA (mTo 2) st p) j).testBit b = true) o (b + n) (L_X9_reaches_180 (nI o) (nI left) j mTo st fw n b a) := by
  have hp := hV.1.2.1
  have h64 := p64 hp
  have hM := zM_lt mTo (zA_lt (mTo 2) st p) j
  induction n with
  | zero => intro b a _ h; exact h
  | succ n ih =>
    intro b a hb h
    have hn0 : ¬ nI left = 0 := fun w => h0 ((z0 (by omega)).mp w)
    rw [L_X9_reaches_180, if_neg hn0, s_meet9 hV hj, show (6 : Int32) * nI left = nI (6 * left) from (Int32.ofNat_mul 6 left).symm, nI_add, nI_clamp (by omega), show b + (n + 1) = b + 1 + n by omega]
    have skip : ¬ (left.testBit b = true ∧ (zM mTo (zA (mTo 2) st p) j).testBit b = true) ∨ fw (6 * left + b) = -1 → BSp (fun b => fw (6 * left + b)) (fun b => left.testBit b = true ∧ (zM mTo (zA (mTo 2) st p) j).testBit b = true) o (b + 1) a := fun w => by
      rcases h with ⟨e1, e2⟩ | ⟨c, e1, e2, ⟨b', c', f1, f2, f3, f4, f5⟩, e4⟩
      · left; refine ⟨e1, fun b' hb' hd => ?_⟩
        by_cases x : b' = b
        · subst x
          rcases w with w | w
          · exact absurd hd w
          · exact w
        · exact e2 b' (by omega) hd
      · right; refine ⟨c, e1, e2, ⟨b', c', by omega, f2, f3, f4, f5⟩, fun b'' hb'' hd c'' hc'' ev => ?_⟩
        by_cases x : b'' = b
        · subst x
          rcases w with w | w
          · exact absurd hd w
          · exact absurd (ev.symm.trans w) (q_m1 c'' (by omega))
        · exact e4 b'' (by omega) hd c'' hc'' ev
    by_cases c1 : left.testBit b = true
    · rw [if_pos ((zb_t1 (by omega) (by omega)).mpr c1)]
      by_cases c2 : (zM mTo (zA (mTo 2) st p) j).testBit b = true
      · rw [if_pos ((zb_t1 (by omega) (by omega)).mpr c2)]
        rcases hv b (by omega) with e | ⟨c0, e0, e⟩
        · rw [if_pos (by rw [e]; decide)]
          exact ih _ _ (by omega) (skip (.inr e))
        · rw [e, if_neg (nI_pos (by omega)), nI_add]
          have take : (∀ b', b' < b → (left.testBit b' = true ∧ (zM mTo (zA (mTo 2) st p) j).testBit b' = true) → ∀ c', c' ≤ 6 → fw (6 * left + b') = nI c' → c0 + o ≤ c' + o) → BSp (fun b => fw (6 * left + b)) (fun b => left.testBit b = true ∧ (zM mTo (zA (mTo 2) st p) j).testBit b = true) o (b + 1) (nI (c0 + o)) := fun w => by
            right; refine ⟨c0 + o, by omega, rfl, ⟨b, c0, by omega, ⟨c1, c2⟩, e0, e, rfl⟩, fun b' hb' hd c' hc' ev => ?_⟩
            by_cases x : b' = b
            · subst x
              have := (nI_eq (by omega) (by omega)).mp (e.symm.trans ev)
              omega
            · exact w b' (by omega) hd c' hc' ev
          have keep : ∀ c, c ≤ 7 → a = nI c → c ≤ c0 + o → BSp (fun b => fw (6 * left + b)) (fun b => left.testBit b = true ∧ (zM mTo (zA (mTo 2) st p) j).testBit b = true) o (b + 1) a := fun c hc7 ha hc => by
            rcases h with ⟨e1, e2⟩ | ⟨c3, e1, e2, ⟨b', c', f1, f2, f3, f4, f5⟩, e4⟩
            · exact absurd (ha.symm.trans e1) (q_m1 c (by omega))
            · have e3 : c3 = c := (nI_eq (by omega) (by omega)).mp (e2.symm.trans ha)
              right; refine ⟨c3, e1, e2, ⟨b', c', by omega, f2, f3, f4, f5⟩, fun b'' hb'' hd c'' hc'' ev => ?_⟩
              by_cases x : b'' = b
              · subst x
                have := (nI_eq (by omega) (by omega)).mp (e.symm.trans ev)
                omega
              · exact e4 b'' (by omega) hd c'' hc'' ev
          rcases id h with ⟨e1, e2⟩ | ⟨c, e1, e2, e3, e4⟩
          · rw [if_pos (by rw [e1]; decide)]
            exact ih _ _ (by omega) (take (fun b' hb' hd c' hc' ev => absurd (ev.symm.trans (e2 b' hb' hd)) (q_m1 c' (by omega))))
          · rw [if_neg (by rw [e2]; exact nI_pos (by omega))]
            rcases Nat.lt_or_ge (c0 + o) c with w | w
            · rw [if_neg (by rw [e2]; exact nI_ge w (by omega))]
              exact ih _ _ (by omega) (take (fun b' hb' hd c' hc' ev => by have := e4 b' hb' hd c' hc' ev; omega))
            · rw [if_pos (by rw [e2]; exact nI_le w (by omega))]
              exact ih _ _ (by omega) (keep c e1 e2 w)
      · rw [if_neg (fun w => c2 ((zb_t1 (by omega) (by omega)).mp w))]
        exact ih _ _ (by omega) (skip (.inl (fun w => c2 w.2)))
    · rw [if_neg (fun w => c1 ((zb_t1 (by omega) (by omega)).mp w))]
      exact ih _ _ (by omega) (skip (.inl (fun w => c1 w.1)))
theorem q_85s (hV : IvV p q d vP vS vD vKi vMe vOw mTo) (hS : StOK p q mTo st) (hk : k < q) (x5 : Int32) {T n : Nat} (hT : T < 2 ^ p) (hn : n < p) : F_X9_reaches_85 (nI k) x5 T mTo st fw (n + 1) = upd (F_X9_reaches_85 (nI k) x5 T mTo st fw n) (6 * T + n) (if x5 = 0 then -1 else if T.testBit n = true then L_X9_reaches_180 (nI (kO mTo n)) (nI (T ^^^ 2 ^ n)) n mTo st (F_X9_reaches_85 (nI k) x5 T mTo st fw n) p 0 (if T ^^^ 2 ^ n = 0 then (if zM mTo (zA (mTo 2) st p) n &&& zK st k = 0 then -1 else nI (kO mTo n)) else -1) else -1) := by
  have hp := hV.1.2.1
  have hq := hV.1.2.2.1
  have h64 := p64 hp
  obtain ⟨e, a, -⟩ := s_kn hq hp hS hk
  have hx : T ^^^ 2 ^ n < 2 ^ 6 := Nat.xor_lt_two_pow (by omega) (Nat.pow_lt_pow_right (by decide) (by omega))
  have hmk : zM mTo (zA (mTo 2) st p) n &&& zK st k < 2 ^ p := Nat.and_lt_two_pow _ a
  rw [F_X9_reaches_85, s_to0 hV, s_meet9 hV hn, nI_clamp (by omega), e, zb_and, zb_sh n (by omega), zb_xor]
  unfold kO
  by_cases c0 : x5 = 0
  · rw [if_pos c0, if_pos c0, if_pos c0, ite_self]
  · rw [if_neg c0, if_neg c0, if_neg c0]
    by_cases c1 : T.testBit n = true
    · have w1 := (zb_t1 (show T < 256 by omega) (show n < 8 by omega)).mpr c1
      rw [if_pos w1, if_pos w1, if_pos c1]
      by_cases c2 : T ^^^ 2 ^ n = 0
      · have w2 := (z0 (show T ^^^ 2 ^ n < 2 ^ 31 by omega)).mpr c2
        rw [if_pos w2, if_pos w2, if_pos c2]
        by_cases c3 : zM mTo (zA (mTo 2) st p) n &&& zK st k = 0
        · have w3 := (z0 (show zM mTo (zA (mTo 2) st p) n &&& zK st k < 2 ^ 31 by omega)).mpr c3
          rw [if_pos w3, if_pos w3, if_pos c3]
          by_cases c4 : mTo (9 + n) = 4
          · rw [if_pos c4, if_pos c4]; rfl
          · rw [if_neg c4, if_neg c4]; rfl
        · have w3 : ¬ nI (zM mTo (zA (mTo 2) st p) n &&& zK st k) = 0 := fun w => c3 ((z0 (by omega)).mp w)
          rw [if_neg w3, if_neg w3, if_neg c3]
          by_cases c4 : mTo (9 + n) = 4
          · rw [if_pos c4, if_pos c4]; rfl
          · rw [if_neg c4, if_neg c4]; rfl
      · have w2 : ¬ nI (T ^^^ 2 ^ n) = 0 := fun w => c2 ((z0 (by omega)).mp w)
        rw [if_neg w2, if_neg w2, if_neg c2]
        by_cases c4 : mTo (9 + n) = 4
        · rw [if_pos c4, if_pos c4]; rfl
        · rw [if_neg c4, if_neg c4]; rfl
    · have w1 : ¬ ((nI T >>> (nI n &&& 31)) &&& 1) = 1 := fun w => c1 ((zb_t1 (by omega) (by omega)).mp w)
      rw [if_neg w1, if_neg w1, if_neg c1, ite_self]
theorem q_85l (hV : IvV p q d vP vS vD vKi vMe vOw mTo) (hS : StOK p q mTo st) (hk : k < q) (x5 : Int32) {T : Nat} (hT : T < 2 ^ p) (n : Nat) (hn : n ≤ p) (i : Nat) (hi : i < 6 * T) : F_X9_reaches_85 (nI k) x5 T mTo st fw n i = fw i := by
  induction n with
  | zero => rfl
  | succ n ih =>
    rw [q_85s hV hS hk x5 hT (by omega)]; unfold upd
    rw [if_neg (by omega)]; exact ih (by omega)
theorem q_tl {T j : Nat} {l : List Nat} (hT : T < 64) (hj : j < 6) (hb : T.testBit j = true) (hn : (j :: l).Nodup) (e : bl (j :: l) = T) : bl l = T ^^^ 2 ^ j := by
  obtain ⟨x1, x2, x3⟩ := q_x T hT j hj hb
  have hjl : (bl l).testBit j = false := by
    cases c : (bl l).testBit j
    · rfl
    · exact absurd ((bl_bit l j).mp c) (List.nodup_cons.mp hn).1
  apply Nat.eq_of_testBit_eq
  intro i
  rw [bl] at e
  rw [← e, Nat.testBit_xor, Nat.testBit_or, Nat.testBit_two_pow]
  by_cases y : j = i
  · subst y; rw [hjl]; simp
  · simp [y]
theorem q_val (hV : IvV p q d vP vS vD vKi vMe vOw mTo) {T n : Nat} {f : Nat → Int32} {x5 : Int32} (hT : T < 2 ^ p) (hn : n < p) (hK : zK st k < 2 ^ p) (hx : (x5 = 0 ∧ ¬ (T &&& zK st k = 0 ∧ ∀ i, T.testBit i = true → (zA (mTo 2) st p).testBit i = true)) ∨ (x5 = 1 ∧ T &&& zK st k = 0 ∧ ∀ i, T.testBit i = true → (zA (mTo 2) st p).testBit i = true)) (hI : ∀ S, 1 ≤ S → S < T → ∀ j, j < p → PD (zA (mTo 2) st p) (zK st k) (zM mTo (zA (mTo 2) st p)) (kO mTo) S j (f (6 * S + j))) : PD (zA (mTo 2) st p) (zK st k) (zM mTo (zA (mTo 2) st p)) (kO mTo) T n (if x5 = 0 then -1 else if T.testBit n = true then L_X9_reaches_180 (nI (kO mTo n)) (nI (T ^^^ 2 ^ n)) n mTo st f p 0 (if T ^^^ 2 ^ n = 0 then (if zM mTo (zA (mTo 2) st p) n &&& zK st k = 0 then -1 else nI (kO mTo n)) else -1) else -1) := by
  have hp := hV.1.2.1
  have h64 := p64 hp
  have hA := zA_lt (mTo 2) st p
  have hu : ∀ l, PP (zA (mTo 2) st p) (zK st k) (zM mTo (zA (mTo 2) st p)) T n l → T.testBit n = true ∧ T &&& zK st k = 0 ∧ ∀ i, T.testBit i = true → (zA (mTo 2) st p).testBit i = true := fun l ⟨w1, w2, w3⟩ => by
    have hU := pth_U w1
    refine ⟨by rw [← w3]; exact (bl_bit _ _).mpr (List.mem_cons_self ..), Nat.eq_of_testBit_eq (fun i => ?_), fun i hi => ?_⟩
    · rw [Nat.testBit_and, Nat.zero_testBit]
      cases c : T.testBit i
      · rfl
      · rw [← w3] at c
        rw [(hU i ((bl_bit _ _).mp c)).2]; rfl
    · rw [← w3] at hi
      exact (hU i ((bl_bit _ _).mp hi)).1
  rcases hx with ⟨x0, xn⟩ | ⟨x1, xK, xA⟩
  · rw [if_pos x0]
    left; exact ⟨rfl, fun l w => xn (hu l w).2⟩
  · rw [if_neg (by rw [x1]; exact i1)]
    by_cases c1 : T.testBit n = true
    · rw [if_pos c1]
      obtain ⟨y1, y2, y3⟩ := q_x T (by omega) n (by omega) c1
      have hUn : UU (zA (mTo 2) st p) (zK st k) n := ⟨xA n c1, by
        cases c : (zK st k).testBit n
        · rfl
        · have : (T &&& zK st k).testBit n = true := by rw [Nat.testBit_and, c1, c]; rfl
          rw [xK, Nat.zero_testBit] at this; cases this⟩
      by_cases c2 : T ^^^ 2 ^ n = 0
      · rw [c2, q_180z, if_pos rfl]
        have hnil : ∀ l, PP (zA (mTo 2) st p) (zK st k) (zM mTo (zA (mTo 2) st p)) T n l → l = [] := fun l ⟨w1, w2, w3⟩ => by
          have e := q_tl (by omega) (by omega) c1 w2 w3
          rw [c2] at e
          cases l with
          | nil => rfl
          | cons a l =>
            have := (bl_bit (a :: l) a).mpr (List.mem_cons_self ..)
            rw [e, Nat.zero_testBit] at this; cases this
        by_cases c3 : zM mTo (zA (mTo 2) st p) n &&& zK st k = 0
        · rw [if_pos c3]
          left; refine ⟨rfl, fun l w => ?_⟩
          have := hnil l w
          subst this
          obtain ⟨-, i, a1, a2⟩ := w.1
          have : (zM mTo (zA (mTo 2) st p) n &&& zK st k).testBit i = true := by rw [Nat.testBit_and, a1, a2]; rfl
          rw [c3, Nat.zero_testBit] at this; cases this
        · rw [if_neg c3]
          right
          have hmk : zM mTo (zA (mTo 2) st p) n &&& zK st k < 2 ^ p := Nat.and_lt_two_pow _ hK
          rcases low_or hmk with z | ⟨i, -, b1, -⟩
          · exact absurd z c3
          · rw [Nat.testBit_and, Bool.and_eq_true] at b1
            have hko := kO_le mTo n
            refine ⟨kO mTo n, by omega, rfl, ⟨[], ⟨⟨hUn, i, b1⟩, by simp, ?_⟩, by rw [os, os]; omega⟩, fun l w => ?_⟩
            · rw [bl, bl, Nat.or_zero, ← y3, c2, Nat.or_zero]
            · rw [os]; omega
      · rw [if_neg c2]
        have hlp : T ^^^ 2 ^ n < 2 ^ p := by omega
        have hPD := fun j hj => hI (T ^^^ 2 ^ n) (by omega) y1 j hj
        have hb := q_180 (st := st) (fw := f) hV hn c2 hlp (kO_le mTo n) (fun b hb => by
          rcases hPD b hb with ⟨e, -⟩ | ⟨c, e1, e2, -⟩
          · exact .inl e
          · exact .inr ⟨c, e1, e2⟩) p 0 (-1) (by omega) (.inl ⟨rfl, fun b' hb' => absurd hb' (Nat.not_lt_zero _)⟩)
        rw [Nat.zero_add] at hb
        have hcons : ∀ l, PP (zA (mTo 2) st p) (zK st k) (zM mTo (zA (mTo 2) st p)) T n l → ∃ b l', l = b :: l' ∧ b < p ∧ ((T ^^^ 2 ^ n).testBit b = true ∧ (zM mTo (zA (mTo 2) st p) n).testBit b = true) ∧ PP (zA (mTo 2) st p) (zK st k) (zM mTo (zA (mTo 2) st p)) (T ^^^ 2 ^ n) b l' := fun l ⟨w1, w2, w3⟩ => by
          have e := q_tl (by omega) (by omega) c1 w2 w3
          cases l with
          | nil => exact absurd e.symm c2
          | cons b l =>
            have hbt : (T ^^^ 2 ^ n).testBit b = true := by rw [← e]; exact (bl_bit _ _).mpr (List.mem_cons_self ..)
            have hbp : b < p := Nat.lt_of_not_le (fun w => by rw [zb_hi hlp w] at hbt; cases hbt)
            exact ⟨b, l, rfl, hbp, ⟨hbt, w1.2.1⟩, w1.2.2, (List.nodup_cons.mp w2).2, e⟩
        rcases hb with ⟨e1, e2⟩ | ⟨c, e1, e2, ⟨b', c', f1, f2, f3, f4, f5⟩, e4⟩
        · left; refine ⟨e1, fun l w => ?_⟩
          obtain ⟨b, l', -, g2, g3, g4⟩ := hcons l w
          have ev := e2 b g2 g3
          rcases hPD b g2 with ⟨-, h2⟩ | ⟨c, h1, h2, -⟩
          · exact h2 l' g4
          · exact q_m1 c (by omega) (h2.symm.trans ev)
        · right
          rcases hPD b' f1 with ⟨h1, -⟩ | ⟨c'', h1, h2, ⟨l', h3, h4⟩, -⟩
          · exact absurd (f4.symm.trans h1) (q_m1 c' (by omega))
          · have ec : c'' = c' := (nI_eq (by omega) (by omega)).mp (h2.symm.trans f4)
            have hnot : n ∉ b' :: l' := fun w => by
              have := (bl_bit _ _).mpr w
              rw [h3.2.2, y2] at this; cases this
            have hPl : PP (zA (mTo 2) st p) (zK st k) (zM mTo (zA (mTo 2) st p)) T n (b' :: l') := ⟨⟨hUn, f2.2, h3.1⟩, List.nodup_cons.mpr ⟨hnot, h3.2.1⟩, by rw [bl, h3.2.2, y3]⟩
            have hos : os (kO mTo) (n :: b' :: l') = c := by rw [os.eq_2 (kO mTo) n, h4, f5, ec]; omega
            refine ⟨c, ?_, e2, ⟨b' :: l', hPl, hos⟩, fun l w => ?_⟩
            · have g1 := q_os (kO_le mTo) (n :: b' :: l')
              have g2 := pth_len hA hPl.1 hPl.2.1
              omega
            · obtain ⟨b, l2, rfl, g2, g3, g4⟩ := hcons l w
              rcases hPD b g2 with ⟨-, k2⟩ | ⟨c3, k1, k2, -, k4⟩
              · exact absurd g4 (k2 l2)
              · have g5 := e4 b g2 g3 c3 k1 k2
                have g6 := k4 l2 g4
                rw [os.eq_2 (kO mTo) n]; omega
    · rw [if_neg c1]
      left; exact ⟨rfl, fun l w => c1 (hu l w).1⟩
end RQ
