/-! chains of tellings -/
def UU (A K j : Nat) : Prop := A.testBit j = true ∧ K.testBit j = false
def pth (A K : Nat) (M : Nat → Nat) : List Nat → Prop
  | [] => False
  | [j] => UU A K j ∧ ∃ i, (M j).testBit i = true ∧ K.testBit i = true
  | j :: i :: l => UU A K j ∧ (M j).testBit i = true ∧ pth A K M (i :: l)
def os (own : Nat → Nat) : List Nat → Nat
  | [] => 0
  | j :: l => own j + os own l
def bl : List Nat → Nat
  | [] => 0
  | j :: l => 2 ^ j ||| bl l
theorem bl_bit (l : List Nat) (i : Nat) : (bl l).testBit i = true ↔ i ∈ l := by
  induction l with
  | nil => rw [bl, Nat.zero_testBit]; simp
  | cons j l ih =>
    rw [bl, Nat.testBit_or, Bool.or_eq_true, ih, Nat.testBit_two_pow, List.mem_cons, decide_eq_true_eq]
    exact ⟨fun h => h.imp Eq.symm id, fun h => h.imp Eq.symm id⟩
theorem cb_or {j B : Nat} (hB : B.testBit j = false) (n : Nat) : cb (2 ^ j ||| B) n = cb B n + if j < n then 1 else 0 := by
  induction n with
  | zero => rw [cb, cb, if_neg (by omega)]
  | succ n ih =>
    rw [cb, cb, ih, Nat.testBit_or, Nat.testBit_two_pow]
    by_cases e : j = n
    · subst e
      rw [hB]; simp
    · have d : decide (j = n) = false := decide_eq_false e
      rw [d, Bool.false_or]
      by_cases h : j < n
      · have h' : j < n + 1 := by omega
        rw [if_pos h, if_pos h']; omega
      · have h' : ¬ j < n + 1 := by omega
        rw [if_neg h, if_neg h']; omega
theorem bl_len {p : Nat} (l : List Nat) (h : l.Nodup) (hp : ∀ x, x ∈ l → x < p) : cb (bl l) p = l.length := by
  induction l with
  | nil =>
    rw [bl, List.length_nil]
    have : ∀ n, cb 0 n = 0 := fun n => by
      induction n with
      | zero => rfl
      | succ n ih => rw [cb, ih, Nat.zero_testBit]; rfl
    exact this p
  | cons j l ih =>
    obtain ⟨h1, h2⟩ := List.nodup_cons.mp h
    have hb : (bl l).testBit j = false := by
      cases c : (bl l).testBit j
      · rfl
      · exact absurd ((bl_bit l j).mp c) h1
    rw [bl, cb_or hb, ih h2 (fun x hx => hp x (List.mem_cons_of_mem _ hx)), if_pos (hp j (List.mem_cons_self ..)), List.length_cons]
section PA
variable {A K : Nat} {M own : Nat → Nat}
theorem pth_tl {j i : Nat} {l : List Nat} (h : pth A K M (j :: i :: l)) : pth A K M (i :: l) := h.2.2
theorem pth_hd {j : Nat} {l : List Nat} (h : pth A K M (j :: l)) : UU A K j := by
  cases l with
  | nil => exact h.1
  | cons i l => exact h.1
theorem pth_U {l : List Nat} (h : pth A K M l) : ∀ x, x ∈ l → UU A K x := by
  induction l with
  | nil => exact h.elim
  | cons j l ih =>
    intro x hx
    rcases List.mem_cons.mp hx with rfl | hx
    · exact pth_hd h
    · cases l with
      | nil => cases hx
      | cons i l => exact ih (pth_tl h) x hx
theorem pth_suf {j : Nat} (l : List Nat) (h : pth A K M l) (hj : j ∈ l) (hn : l.Nodup) : ∃ l', pth A K M (j :: l') ∧ (j :: l').Nodup ∧ (j :: l').length ≤ l.length ∧ os own (j :: l') ≤ os own l := by
  induction l with
  | nil => cases hj
  | cons a l ih =>
    by_cases e : j = a
    · subst e; exact ⟨l, h, hn, Nat.le_refl _, Nat.le_refl _⟩
    · have hj' : j ∈ l := by
        rcases List.mem_cons.mp hj with w | w
        · exact absurd w e
        · exact w
      cases l with
      | nil => cases hj'
      | cons i l =>
        obtain ⟨l', a1, a2, a3, a4⟩ := ih (pth_tl h) hj' (List.nodup_cons.mp hn).2
        refine ⟨l', a1, a2, ?_, ?_⟩
        · rw [List.length_cons (a := a)]; omega
        · rw [os.eq_2 own a]; omega
/-- one without a loop is no dearer -/
theorem pth_simple (l : List Nat) : ∀ j, pth A K M (j :: l) → ∃ l', pth A K M (j :: l') ∧ (j :: l').Nodup ∧ l'.length ≤ l.length ∧ os own (j :: l') ≤ os own (j :: l) := by
  induction l with
  | nil => intro j h; exact ⟨[], h, by simp, Nat.le_refl _, Nat.le_refl _⟩
  | cons i l ih =>
    intro j h
    obtain ⟨l1, a1, a2, a3, a4⟩ := ih i (pth_tl h)
    by_cases hj : j ∈ i :: l1
    · obtain ⟨l', b1, b2, b3, b4⟩ := pth_suf (own := own) _ a1 hj a2
      refine ⟨l', b1, b2, ?_, ?_⟩
      · rw [List.length_cons] at b3 ⊢; rw [List.length_cons] at b3; omega
      · rw [os.eq_2 own j (i :: l)]; omega
    · refine ⟨i :: l1, ⟨h.1, h.2.1, a1⟩, List.nodup_cons.mpr ⟨hj, a2⟩, ?_, ?_⟩
      · rw [List.length_cons, List.length_cons]; omega
      · rw [os.eq_2 own j (i :: l1), os.eq_2 own j (i :: l)]; omega
theorem pth_len {p : Nat} (hA : A < 2 ^ p) {l : List Nat} (h : pth A K M l) (hn : l.Nodup) : l.length ≤ p := by
  rw [← bl_len (p := p) l hn (fun x hx => by
    have := (pth_U h x hx).1
    rcases Nat.lt_or_ge x p with w | w
    · exact w
    · rw [zb_hi hA w] at this; cases this)]
  exact cb_le _ _
/-- walks by their length -/
def Wk (A K : Nat) (M own : Nat → Nat) : Nat → Nat → Nat → Prop
  | 0, j, s => (A.testBit j = true ∧ K.testBit j = true) ∧ s = 0
  | m + 1, j, s => UU A K j ∧ ∃ i s', (M j).testBit i = true ∧ Wk A K M own m i s' ∧ s = own j + s'
theorem Wk_le (ho : ∀ j, own j ≤ 1) (m : Nat) : ∀ j s, Wk A K M own m j s → s ≤ m := by
  induction m with
  | zero => intro j s h; have := h.2; omega
  | succ m ih =>
    intro j s ⟨_, i, s', _, h, e⟩
    have := ih i s' h
    have := ho j
    omega
theorem Wk_p (hM : ∀ j i, (M j).testBit i = true → A.testBit i = true) (m : Nat) : ∀ j s, Wk A K M own (m + 1) j s ↔ ∃ l, pth A K M (j :: l) ∧ l.length = m ∧ s = os own (j :: l) := by
  induction m with
  | zero =>
    intro j s
    constructor
    · rintro ⟨h1, i, s', h2, ⟨h3, h4⟩, h5⟩
      exact ⟨[], ⟨h1, i, h2, h3.2⟩, rfl, by rw [os, os]; omega⟩
    · rintro ⟨l, h1, h2, h3⟩
      cases l with
      | nil =>
        obtain ⟨h4, i, h5, h6⟩ := h1
        rw [os, os] at h3
        exact ⟨h4, i, 0, h5, ⟨⟨hM j i h5, h6⟩, rfl⟩, by omega⟩
      | cons a l => cases h2
  | succ m ih =>
    intro j s
    constructor
    · rintro ⟨h1, i, s', h2, h3, h5⟩
      obtain ⟨l, a1, a2, a3⟩ := (ih i s').mp h3
      exact ⟨i :: l, ⟨h1, h2, a1⟩, by rw [List.length_cons, a2], by rw [os.eq_2 own j, ← a3]; exact h5⟩
    · rintro ⟨l, h1, h2, h3⟩
      cases l with
      | nil => cases h2
      | cons i l =>
        obtain ⟨h4, h5, h6⟩ := h1
        rw [os.eq_2 own j] at h3
        exact ⟨h4, i, os own (i :: l), h5, (ih i _).mpr ⟨l, h6, by rw [List.length_cons] at h2; omega, rfl⟩, h3⟩
end PA
/-- the care for so many -/
def cS (cr : Nat → Nat) : Nat → Nat
  | 0 => 0
  | m + 1 => cS cr m + cr m
theorem cS_mono (cr : Nat → Nat) {a b : Nat} (h : a ≤ b) : cS cr a ≤ cS cr b := by
  induction b with
  | zero => have : a = 0 := by omega
            subst this; exact Nat.le_refl _
  | succ b ih =>
    by_cases e : a = b + 1
    · subst e; exact Nat.le_refl _
    · have := ih (by omega)
      rw [cS]; omega
theorem cS_le {cr : Nat → Nat} (h : ∀ t, cr t ≤ 2) (m : Nat) : cS cr m ≤ 2 * m := by
  induction m with
  | zero => exact Nat.le_refl _
  | succ m ih => rw [cS]; have := h m; omega
