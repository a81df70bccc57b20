/-! the constant text, at the law's entry -/
def q_tm : Nat → Term := fun _ => Term.string "OlderByABlush" 78
set_option maxRecDepth 100000 in
theorem st_el : ∀ j : Nat, j < 79 → Cond.eq (.elem (.field (Term.string "OlderByABlush" 78) "java/lang/String" "value" "[B") (.int (Int32.ofNat j))) (.int (q_txt.getD j 0)) ∈ flatC (Jvm.Cond.and given_1 narrow_1) := by decide +kernel
set_option maxRecDepth 100000 in
set_option maxHeartbeats 4000000 in
theorem st_str {b : Nat} {s : State} (hts : ∀ w ∈ lw_tbl, w.before #[Value.ref b] s = true) (hgv : (Jvm.Cond.and given_1 narrow_1).before #[Value.ref b] s = true) : ∃ aK aV, vk_R RX8 78 q_tx aK s ∧ q_S (fun q : Nat => s.heap.size ≤ q) aK aV s s.heap := by
  have hs := flat_of_before _ hgv
  have hA : ∀ a : Nat, a < s.heap.size → ¬ (fun q : Nat => s.heap.size ≤ q) a := fun a h => Nat.not_le.mpr h
  obtain ⟨adK, adV, hS, he⟩ := vk_Sof (args := #[Value.ref b]) (s := s) (N := 1) (tm := q_tm) (len := [79]) (byt := [q_txt]) (A := fun q : Nat => s.heap.size ≤ q)
    (fun i hi => by rcases (show i = 0 by omega) with rfl; decide)
    (fun i _ => hs _ (by show Cond.exactly (Term.string "OlderByABlush" 78) "java/lang/String" ∈ _; decide +kernel))
    (fun i _ => hs _ (by show Cond.eq (.field (Term.string "OlderByABlush" 78) "java/lang/String" "coder" "B") (.int 0) ∈ _; decide +kernel))
    (fun i _ => hs _ (by show Cond.arrayOf (.field (Term.string "OlderByABlush" 78) "java/lang/String" "value" "[B") .byte ∈ _; decide +kernel))
    (fun i hi => by
      rcases (show i = 0 by omega) with rfl
      exact hs _ (by show Cond.eq (.length (.field (Term.string "OlderByABlush" 78) "java/lang/String" "value" "[B")) (.int 79) ∈ _; decide +kernel))
    (fun i hi j hj => by
      rcases (show i = 0 by omega) with rfl
      exact hs _ (st_el j hj))
    (fun i j hi hj hne => absurd (show i = j by omega) hne) hA
  obtain ⟨h1, h2, h3, h4⟩ := hS.1 0 (by decide)
  refine ⟨adK 0, adV 0, vk_R.of (hts (.stringRef "OlderByABlush" 78 "p20,0;p5,1;p30,2;p8,4;p12,3;m0,1;m1,2;m2,3;m0,3;m3,4;s0,0;s1,1;s2,0;s4,8;s0,16;") (by decide +kernel)) (he 0 (by decide)), h1, h2, h3, h4, ?_, ?_⟩
  · exact va_Zof (hts (.laysStatic "java/lang/String" "COMPACT_STRINGS" "Z") (by decide +kernel)) (hts (.initialized "java/lang/String") (by decide +kernel)) (va_eqi (hs (.eq (.static "java/lang/String" "COMPACT_STRINGS" "Z") (.int 1)) (by decide +kernel))) hA
  · exact va_Zqof (hts (.laysStatic "jdk/internal/util/Preconditions" "SIOOBE_FORMATTER" "Ljava/util/function/BiFunction;") (by decide +kernel)) (hts (.initialized "jdk/internal/util/Preconditions") (by decide +kernel)) (hs (.isRef (.static "jdk/internal/util/Preconditions" "SIOOBE_FORMATTER" "Ljava/util/function/BiFunction;")) (by decide +kernel)) hA
