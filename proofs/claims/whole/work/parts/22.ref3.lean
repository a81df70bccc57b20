theorem in_addn {x : Int32} {n N : Nat} (h : vp_in x n) (c : Nat) (hN : n + c ≤ N) (h31 : N < 2 ^ 31) : vp_in (x + nI c) N := by
  obtain ⟨j, hj, rfl⟩ := vp_in_of h (by omega)
  rw [nI_add]
  exact vp_in_nI (by omega) h31
theorem txin {k n : Nat} (h : n ≤ 200) (hk : k < 2000) (hl : ¬ nI n ≤ nI k) : vp_in (nI k) 200 := vp_in_nI (by have := k_leF (by omega) (by omega) hl; omega) (by decide)
