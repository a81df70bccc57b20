/-! the first village's text: a constant String; length and charAt of it -/
def q_txt : List Int32 := [112, 50, 48, 44, 48, 59, 112, 53, 44, 49, 59, 112, 51, 48, 44, 50, 59, 112, 56, 44, 52, 59, 112, 49, 50, 44, 51, 59, 109, 48, 44, 49, 59, 109, 49, 44, 50, 59, 109, 50, 44, 51, 59, 109, 48, 44, 51, 59, 109, 51, 44, 52, 59, 115, 48, 44, 48, 59, 115, 49, 44, 49, 59, 115, 50, 44, 48, 59, 115, 52, 44, 56, 59, 115, 48, 44, 49, 54, 59]
def q_S (A : Nat → Prop) (aK aV : Nat) (U : State) (H : Heap) : Prop := va_O "java/lang/String" aK A U H ∧ va_OF "java/lang/String" "coder" "B" (.int 0) aK A U H ∧ va_OF "java/lang/String" "value" "[B" (.ref aV) aK A U H ∧ va_T .byte aV 79 (fun j => .int (q_txt.getD j 0)) A U H ∧ va_Z "java/lang/String" "COMPACT_STRINGS" "Z" (.int 1) A U H ∧ va_Zq "jdk/internal/util/Preconditions" "SIOOBE_FORMATTER" "Ljava/util/function/BiFunction;" A U H
theorem q_S.moved {A : Nat → Prop} {aK aV : Nat} {u U : State} {H : Heap} (hvm : u.vm.Alike U.vm) (h : q_S A aK aV u H) : q_S A aK aV U H := ⟨h.1.moved hvm, h.2.1.moved hvm, h.2.2.1.moved hvm, h.2.2.2.1.moved hvm, h.2.2.2.2.1.moved hvm, h.2.2.2.2.2.moved hvm⟩
theorem q_S.kept {A : Nat → Prop} {aK aV : Nat} {U : State} {H H1 : Heap} (h : q_S A aK aV U H) (hq : ∀ a : Nat, a < H.size → ¬ A a → H1[a]? = H[a]?) : q_S A aK aV U H1 := ⟨h.1.kept hq, h.2.1.kept hq, h.2.2.1.kept hq, h.2.2.2.1.kept hq, h.2.2.2.2.1.kept hq, h.2.2.2.2.2.kept hq⟩
theorem q_S.narrow {A B : Nat → Prop} {aK aV : Nat} {U : State} {H : Heap} (h : q_S A aK aV U H) (hAB : ∀ q, B q → A q) : q_S B aK aV U H := ⟨h.1.narrow hAB, h.2.1.narrow hAB, h.2.2.1.narrow hAB, h.2.2.2.1.narrow hAB, h.2.2.2.2.1.narrow hAB, h.2.2.2.2.2.narrow hAB⟩
/-- its start, for a method -/
abbrev q_SP (aK aV : Nat) (av : List Value) : Array Value → State → Prop := va_Pc av (fun U => q_S q_no aK aV U U.heap)
theorem q_SP_blind {aK aV : Nat} {av : List Value} : FrameBlind (q_SP aK aV av) := fun a U g mk q => ⟨q.1, q_S.moved (u := U) (U := U.calling g mk a) (Vm.Alike.refl U.vm) q.2⟩
abbrev q_B0 (p : Program) (s : State) (m : MethodId) (meth : Method) (c : Code) (own : String) (cc : ByteArray) (maxL : Nat) (ret : Option FieldType) (wds : List Cond) (av : List Value) : Prop :=
  p.tables.exec = Jvm.exec ∧ c.code = cc ∧ meth.sig.returnType = ret ∧ meth.locks = false ∧ c.maxLocals = maxL ∧ s.vm.findClass own = some m.cls ∧ ∀ w ∈ wds, w.before av.toArray s = true
theorem st_enter {l : Launch} {y : MethodName} {wds wds' : List Cond} {rm : Room} {S : State → Prop} {av : List Value} {Qc : Array Value → State → Outcome → State → Prop} {cc : ByteArray} {maxL : Nat} {ret : Option FieldType}
    (hy : plainName y.cls = true) (hw : wds = Cond.code y cc maxL ret :: wds') (hn : (lg_sl av).length ≤ maxL)
    (body : ∀ (p : Program) (e : Env) (s : State) (m : MethodId) (below : List Frame) (meth : Method) (c : Code) (ls : Array Slot), q_B0 p s m meth c y.cls cc maxL ret wds av → S s → va_S q_no s.heap s.heap [] → lv_has ls maxL (lv_args 0 av) →
      W p l e rm s m av.toArray below meth c s.heap [] 0 0 (MQ below Qc av.toArray s 0 0 q_no) (F0 m 0 ls [])) : Met l y wds rm (va_Pc av S) Qc 0 0 q_no := by
  refine Met.ofW (cc := cc) (maxL := maxL) (ret := ret) hy hw ?_
  intro p e s m args below meth c s₁ B hml hv
  obtain ⟨rfl, hS⟩ := hv
  have hl := lv_entry av (n := maxL) hn
  rw [lg_entry_eq]
  exact body p e s m below meth c _ ⟨B.exec, B.bytes, B.returns, B.notSynchronized, hml, findClass_of_methodNamed B.named, atoms_spec (ws := wds) B.pre⟩ hS va_S.rf hl
theorem st_preV {s : State} {H : Heap} {locs : List Loc} {aK aV : Nat} {As : List Value} (h : q_S q_no aK aV s s.heap) (hS : va_S q_no s.heap H locs) : PreV s H RJ0 aK (q_SP aK aV (.ref aK :: As)) As := by
  refine ⟨q_SP_blind, ?_, fun U hU hW => ⟨rfl, ?_⟩⟩
  · obtain ⟨cell, h1, h2, h3, -⟩ := (h.kept hS.2.1).1
    exact ⟨cell, h1, h2, h3⟩
  · show q_S q_no aK aV U U.heap
    rw [hU]
    exact (h.kept hS.2.1).moved hW.alike
theorem st_preS {s : State} {H : Heap} {locs : List Loc} {aK aV : Nat} {As : List Value} (h : q_S q_no aK aV s s.heap) (hS : va_S q_no s.heap H locs) : PreS s H (q_SP aK aV As) As :=
  ⟨q_SP_blind, fun U hU hW => ⟨rfl, by show q_S q_no aK aV U U.heap; rw [hU]; exact (h.kept hS.2.1).moved hW.alike⟩⟩
section STC
variable {p : Program} {l : Launch} {e : Env} {R : Room} {s : State} {m : MethodId} {args : Array Value} {below : List Frame} {meth : Method} {c : Code} {H : Heap} {locs : List Loc} {cells slots : Nat} {Q : State → Prop}
variable {pc : Nat} {ls : Array Slot} {rest st0 : List Value} {a : Array Value} {A0 : Nat → Prop} {H0 : Heap}
theorem st_i {v : Int32} (hr : va_Run p l e R s m args below meth c H locs cells slots 0 0 (F0 m pc ls st0) rest (q_Qi v a) q_no) (hS : va_S A0 H0 H locs)
    (kk : ∀ (H1 : Heap) (locs1 : List Loc), (∀ q : Nat, q < H.size → H1[q]? = H[q]?) → va_S A0 H0 H1 locs1 → W p l e R s m args below meth c H1 locs1 cells slots Q (F0 m (pc + 3) ls (.int v :: rest))) : W p l e R s m args below meth c H locs cells slots Q (F0 m pc ls st0) :=
  va_calli hr hS (fun q _ h => h.elim) (fun q h => h.elim) (fun r u t H1 locs1 ht hvm hp hB hz hk hS1 => by
    obtain rfl : r = v := hp
    exact kk H1 locs1 (fun q hq => hk q hq id) hS1)
abbrev q_Qv0 : Array Value → State → Outcome → State → Prop := va_Qv (S := Unit) (fun _ => True) (fun _ _ => True) q_no
theorem st_v (hr : va_Run p l e R s m args below meth c H locs cells slots 0 0 (F0 m pc ls st0) rest (q_Qv0 a) q_no) (hS : va_S A0 H0 H locs)
    (kk : ∀ (H1 : Heap) (locs1 : List Loc), va_S A0 H0 H1 locs1 → W p l e R s m args below meth c H1 locs1 cells slots Q (F0 m (pc + 3) ls rest)) : W p l e R s m args below meth c H locs cells slots Q (F0 m pc ls st0) :=
  va_callv hr hS (fun q _ h => h.elim) (fun q h => h.elim) (fun u t H1 locs1 ht hvm hp hB hz hk hS1 => kk H1 locs1 hS1)
end STC
abbrev rm_J0 : Room := { frames := 0, cells := 0, slots := 0, locals := 0 }
set_option maxRecDepth 100000 in
set_option maxHeartbeats 4000000 in
theorem c_J0_coder (l : Launch) (aK aV : Nat) : Met l yJ0_coder_7d493 wsJ0_coder_7d493 rm_J0 (q_SP aK aV [.ref aK]) (q_Qi 0) 0 0 q_no := by
  refine st_enter (cc := cJ0_coder_7d493) (maxL := 1) (ret := some .byte) (by decide) rfl (Nat.le_of_ble_eq_true rfl) ?_
  intro p e s m below meth c ls B hQ hS hl
  obtain ⟨hx, hb, hr, hlocks, hml, hown, hts⟩ := B
  have hown : s.vm.findClass RJ0 = some m.cls := hown
  have hl : lv_has ls 1 [(0, .ref aK)] := hl
  refine va_gets hx hb hQ.2.2.2.2.1 hS hown (hts (.fieldLink RJ0 38 "java/lang/String" "COMPACT_STRINGS" "Z") (by decide +kernel)) (fun _ h9 => h9) dJ0_coder_7d493_0 ?_
  refine lv_if_eq (tgt := 13) hx hb dJ0_coder_7d493_3 (by decide) (fun c1 => absurd c1 (by decide)) (fun c1 => ?_)
  refine lv_aload_n hx hb dJ0_coder_7d493_6 rfl (lv_at hl 0 rfl) ?_
  refine vk_getf hx hb hQ.2.1 hS hown (hts (.fieldLink RJ0 15 "java/lang/String" "coder" "B") (by decide +kernel)) (fun _ h9 => h9) dJ0_coder_7d493_7 ?_
  refine lv_goto (tgt := 14) hx hb dJ0_coder_7d493_10 (by decide) ?_
  exact ro_zret hx hb hr rfl hlocks hS rfl dJ0_coder_7d493_14
set_option maxRecDepth 100000 in
set_option maxHeartbeats 4000000 in
theorem c_J0_isLatin1 (l : Launch) (aK aV : Nat) : Met l yJ0_isLatin1_aae02 wsJ0_isLatin1_aae02 rm_J0 (q_SP aK aV [.ref aK]) (q_Qi 1) 0 0 q_no := by
  refine st_enter (cc := cJ0_isLatin1_aae02) (maxL := 1) (ret := some .boolean) (by decide) rfl (Nat.le_of_ble_eq_true rfl) ?_
  intro p e s m below meth c ls B hQ hS hl
  obtain ⟨hx, hb, hr, hlocks, hml, hown, hts⟩ := B
  have hown : s.vm.findClass RJ0 = some m.cls := hown
  have hl : lv_has ls 1 [(0, .ref aK)] := hl
  refine va_gets hx hb hQ.2.2.2.2.1 hS hown (hts (.fieldLink RJ0 38 "java/lang/String" "COMPACT_STRINGS" "Z") (by decide +kernel)) (fun _ h9 => h9) dJ0_isLatin1_aae02_0 ?_
  refine lv_if_eq (tgt := 17) hx hb dJ0_isLatin1_aae02_3 (by decide) (fun c1 => absurd c1 (by decide)) (fun c1 => ?_)
  refine lv_aload_n hx hb dJ0_isLatin1_aae02_6 rfl (lv_at hl 0 rfl) ?_
  refine vk_getf hx hb hQ.2.1 hS hown (hts (.fieldLink RJ0 15 "java/lang/String" "coder" "B") (by decide +kernel)) (fun _ h9 => h9) dJ0_isLatin1_aae02_7 ?_
  refine lv_if_ne (tgt := 17) hx hb dJ0_isLatin1_aae02_10 (by decide) (fun c2 => absurd rfl c2) (fun c2 => ?_)
  refine lv_iconst (v := 1) hx hb dJ0_isLatin1_aae02_13 (by decide) ?_
  refine lv_goto (tgt := 18) hx hb dJ0_isLatin1_aae02_14 (by decide) ?_
  exact ro_zret hx hb hr rfl hlocks hS rfl dJ0_isLatin1_aae02_18
abbrev rm_J1 : Room := { frames := 1, cells := 0, slots := 0, locals := 20 }
set_option maxRecDepth 100000 in
set_option maxHeartbeats 4000000 in
theorem c_J0_length (l : Launch) (aK aV : Nat) : Met l yJ0_length_8abf5 wsJ0_length_8abf5 rm_J1 (q_SP aK aV [.ref aK]) (q_Qi 79) 0 0 q_no := by
  refine st_enter (cc := cJ0_length_8abf5) (maxL := 1) (ret := some .int) (by decide) rfl (Nat.le_of_ble_eq_true rfl) ?_
  intro p e s m below meth c ls B hQ hS hl
  obtain ⟨hx, hb, hr, hlocks, hml, hown, hts⟩ := B
  have hown : s.vm.findClass RJ0 = some m.cls := hown
  have hl : lv_has ls 1 [(0, .ref aK)] := hl
  refine lv_aload_n hx hb dJ0_length_8abf5_0 rfl (lv_at hl 0 rfl) ?_
  refine vk_getf hx hb hQ.2.2.1 hS hown (hts (.fieldLink RJ0 9 "java/lang/String" "value" "[B") (by decide +kernel)) (fun _ h9 => h9) dJ0_length_8abf5_1 ?_
  refine va_tlen (v := 79) hx hb hQ.2.2.2.1 hS rfl dJ0_length_8abf5_4 ?_
  refine lv_aload_n hx hb dJ0_length_8abf5_5 rfl (lv_at hl 0 rfl) ?_
  refine st_i (va_runV (As := []) (rest := [.int 79]) ⟨hx, hb, hml, hown, hts⟩ (c_J0_coder l aK aV) (cwV 0 hts gJ0_length_8abf5_J0_coder_7d493 rfl rfl rfl (by decide +kernel) ⟨Nat.le_of_ble_eq_true rfl, Nat.le_of_ble_eq_true rfl⟩) (st_preV hQ hS) rfl rfl hl.1 rfl (lv_room (Nat.le_of_ble_eq_true rfl)) dJ0_length_8abf5_6 ⟨Nat.zero_le _, Nat.zero_le _⟩) hS (fun H locs hk hS => ?_)
  refine lv_ishr hx hb dJ0_length_8abf5_9 ?_
  exact ro_iret hx hb hr hlocks hS (by decide) dJ0_length_8abf5_10
set_option maxRecDepth 100000 in
set_option maxHeartbeats 4000000 in
theorem c_J3_checkIndex (l : Launch) (S : State → Prop) (i n : Int32) (v : Value) (hv : v = .null ∨ ∃ t, v = .ref t) (h0 : ¬ i < 0) (h1 : i < n) : Met l yJ3_checkIndex_8e157 wsJ3_checkIndex_8e157 rm_J0 (va_Pc [.int i, .int n, v] S) (q_Qi i) 0 0 q_no := by
  refine st_enter (cc := cJ3_checkIndex_8e157) (maxL := 3) (ret := some .int) (by decide) rfl (by rcases hv with rfl | ⟨t, rfl⟩ <;> exact Nat.le_of_ble_eq_true rfl) ?_
  intro p e s m below meth c ls B hQ hS hl
  obtain ⟨hx, hb, hr, hlocks, hml, hown, hts⟩ := B
  have hl : lv_has ls 3 [(0, .int i), (1, .int n), (2, v)] := hl
  refine lv_iload_n hx hb dJ3_checkIndex_8e157_0 rfl (lv_at hl 0 rfl) ?_
  refine lv_if_lt (tgt := 9) hx hb dJ3_checkIndex_8e157_1 (by decide) (fun c1 => absurd c1 h0) (fun c1 => ?_)
  refine lv_iload_n hx hb dJ3_checkIndex_8e157_4 rfl (lv_at hl 0 rfl) ?_
  refine lv_iload_n hx hb dJ3_checkIndex_8e157_5 rfl (lv_at hl 1 rfl) ?_
  refine lv_icmp_lt (tgt := 16) hx hb dJ3_checkIndex_8e157_6 (by decide) (fun c2 => ?_) (fun c2 => absurd h1 c2)
  refine lv_iload_n hx hb dJ3_checkIndex_8e157_16 rfl (lv_at hl 0 rfl) ?_
  exact ro_iret hx hb hr hlocks hS rfl dJ3_checkIndex_8e157_17
theorem va_Pc_blind0 {av : List Value} : FrameBlind (va_Pc av (fun _ => True)) := fun _ _ _ _ q => ⟨q.1, trivial⟩
abbrev rm_J2 : Room := { frames := 1, cells := 0, slots := 0, locals := 22 }
set_option maxRecDepth 100000 in
set_option maxHeartbeats 4000000 in
theorem c_J0_checkIndex (l : Launch) (aK aV : Nat) (i n : Int32) (h0 : ¬ i < 0) (h1 : i < n) : Met l yJ0_checkIndex_df160 wsJ0_checkIndex_df160 rm_J2 (q_SP aK aV [.int i, .int n]) q_Qv0 0 0 q_no := by
  refine st_enter (cc := cJ0_checkIndex_df160) (maxL := 2) (ret := none) (by decide) rfl (Nat.le_of_ble_eq_true rfl) ?_
  intro p e s m below meth c ls B hQ hS hl
  obtain ⟨hx, hb, hr, hlocks, hml, hown, hts⟩ := B
  have hown : s.vm.findClass RJ0 = some m.cls := hown
  have hl : lv_has ls 2 [(0, .int i), (1, .int n)] := hl
  have K : ∀ v : Value, (v = .null ∨ ∃ t, v = .ref t) → va_Z "jdk/internal/util/Preconditions" "SIOOBE_FORMATTER" "Ljava/util/function/BiFunction;" v q_no s s.heap → W p l e rm_J2 s m ([.int i, .int n] : List Value).toArray below meth c s.heap [] 0 0 (MQ below q_Qv0 ([.int i, .int n] : List Value).toArray s 0 0 q_no) (F0 m 0 ls []) := by
    intro v hv hZ
    refine lv_iload_n hx hb dJ0_checkIndex_df160_0 rfl (lv_at hl 0 rfl) ?_
    refine lv_iload_n hx hb dJ0_checkIndex_df160_1 rfl (lv_at hl 1 rfl) ?_
    refine va_gets hx hb hZ hS hown (hts (.fieldLink RJ0 1053 "jdk/internal/util/Preconditions" "SIOOBE_FORMATTER" "Ljava/util/function/BiFunction;") (by decide +kernel)) (fun _ h9 => h9) dJ0_checkIndex_df160_2 ?_
    refine st_i (va_runS (As := [.int i, .int n, v]) (rest := []) ⟨hx, hb, hml, hown, hts⟩ (c_J3_checkIndex l (fun _ => True) i n v hv h0 h1) (va_cwS 3 hts gJ0_checkIndex_df160_J3_checkIndex_8e157 rfl rfl rfl (by decide +kernel) ⟨Nat.le_of_ble_eq_true rfl, Nat.le_of_ble_eq_true rfl⟩) ⟨va_Pc_blind0, fun U hU hW => ⟨rfl, trivial⟩⟩ rfl rfl hl.1 rfl (lv_room (Nat.le_of_ble_eq_true rfl)) dJ0_checkIndex_df160_5 ⟨Nat.zero_le _, Nat.zero_le _⟩) hS (fun H locs hk hS => ?_)
    refine lv_pop hx hb dJ0_checkIndex_df160_8 rfl ?_
    exact W.vret hx hb hr (fun t ht hW => ⟨⟨(), rfl, trivial, trivial⟩, hS.F ht⟩) hS.2.2 dJ0_checkIndex_df160_9 hlocks
  rcases hQ.2.2.2.2.2 with h | ⟨t, h⟩
  · exact K _ (Or.inl rfl) h
  · exact K _ (Or.inr ⟨t, rfl⟩) h
/-- the letter at k -/
def q_ch (k : Nat) : Int32 := ((q_txt.getD k 0 &&& 255).toUInt32 % 65536).toInt32
abbrev rm_J3 : Room := { frames := 2, cells := 0, slots := 0, locals := 43 }
set_option maxRecDepth 100000 in
set_option maxHeartbeats 4000000 in
theorem c_J1_charAt (l : Launch) (aK aV k : Nat) (hk : k < 79) : Met l yJ1_charAt_3b067 wsJ1_charAt_3b067 rm_J3 (q_SP aK aV [.ref aV, .int (nI k)]) (q_Qi (q_ch k)) 0 0 q_no := by
  refine st_enter (cc := cJ1_charAt_3b067) (maxL := 2) (ret := some .char) (by decide) rfl (Nat.le_of_ble_eq_true rfl) ?_
  intro p e s m below meth c ls B hQ hS hl
  obtain ⟨hx, hb, hr, hlocks, hml, hown, hts⟩ := B
  have hown : s.vm.findClass RJ1 = some m.cls := hown
  have hl : lv_has ls 2 [(0, .ref aV), (1, .int (nI k))] := hl
  refine lv_iload_n hx hb dJ1_charAt_3b067_0 rfl (lv_at hl 1 rfl) ?_
  refine lv_aload_n hx hb dJ1_charAt_3b067_1 rfl (lv_at hl 0 rfl) ?_
  refine va_tlen (v := nI 79) hx hb hQ.2.2.2.1 hS rfl dJ1_charAt_3b067_2 ?_
  refine st_v (va_runS (As := [.int (nI k), .int (nI 79)]) (rest := []) ⟨hx, hb, hml, hown, hts⟩ (c_J0_checkIndex l aK aV (nI k) (nI 79) (nI_pos (by omega)) (nI_lt hk (by decide))) (va_cwS 2 hts gJ1_charAt_3b067_J0_checkIndex_df160 rfl rfl rfl (by decide +kernel) ⟨Nat.le_of_ble_eq_true rfl, Nat.le_of_ble_eq_true rfl⟩) (st_preS hQ hS) rfl rfl hl.1 rfl (lv_room (Nat.le_of_ble_eq_true rfl)) dJ1_charAt_3b067_3 ⟨Nat.zero_le _, Nat.zero_le _⟩) hS (fun H locs hS => ?_)
  refine lv_aload_n hx hb dJ1_charAt_3b067_6 rfl (lv_at hl 0 rfl) ?_
  refine lv_iload_n hx hb dJ1_charAt_3b067_7 rfl (lv_at hl 1 rfl) ?_
  refine va_tb (v := .int (q_txt.getD k 0)) hx hb hQ.2.2.2.1 hS (vp_in_nI hk (by decide)) (by rw [nI_clamp (by omega)]) dJ1_charAt_3b067_8 ?_
  refine lv_sipush (v := 255) hx hb dJ1_charAt_3b067_9 (by decide) ?_
  refine lv_iand hx hb dJ1_charAt_3b067_12 ?_
  refine lv_i2c (v := q_ch k) hx hb dJ1_charAt_3b067_13 rfl ?_
  exact ro_zret hx hb hr (pk_nc _) hlocks hS rfl dJ1_charAt_3b067_14
abbrev rm_J4 : Room := { frames := 3, cells := 0, slots := 0, locals := 64 }
set_option maxRecDepth 100000 in
set_option maxHeartbeats 4000000 in
theorem c_J0_charAt (l : Launch) (aK aV k : Nat) (hk : k < 79) : Met l yJ0_charAt_5068e wsJ0_charAt_5068e rm_J4 (q_SP aK aV [.ref aK, .int (nI k)]) (q_Qi (q_ch k)) 0 0 q_no := by
  refine st_enter (cc := cJ0_charAt_5068e) (maxL := 2) (ret := some .char) (by decide) rfl (Nat.le_of_ble_eq_true rfl) ?_
  intro p e s m below meth c ls B hQ hS hl
  obtain ⟨hx, hb, hr, hlocks, hml, hown, hts⟩ := B
  have hown : s.vm.findClass RJ0 = some m.cls := hown
  have hl : lv_has ls 2 [(0, .ref aK), (1, .int (nI k))] := hl
  refine lv_aload_n hx hb dJ0_charAt_5068e_0 rfl (lv_at hl 0 rfl) ?_
  refine st_i (va_runV (As := []) (rest := []) ⟨hx, hb, hml, hown, hts⟩ (c_J0_isLatin1 l aK aV) (cwV 0 hts gJ0_charAt_5068e_J0_isLatin1_aae02 rfl rfl rfl (by decide +kernel) ⟨Nat.le_of_ble_eq_true rfl, Nat.le_of_ble_eq_true rfl⟩) (st_preV hQ hS) rfl rfl hl.1 rfl (lv_room (Nat.le_of_ble_eq_true rfl)) dJ0_charAt_5068e_1 ⟨Nat.zero_le _, Nat.zero_le _⟩) hS (fun H locs hk1 hS => ?_)
  refine lv_if_eq (tgt := 16) hx hb dJ0_charAt_5068e_4 (by decide) (fun c1 => absurd c1 (by decide)) (fun c1 => ?_)
  refine lv_aload_n hx hb dJ0_charAt_5068e_7 rfl (lv_at hl 0 rfl) ?_
  refine vk_getf hx hb hQ.2.2.1 hS hown (hts (.fieldLink RJ0 9 "java/lang/String" "value" "[B") (by decide +kernel)) (fun _ h9 => h9) dJ0_charAt_5068e_8 ?_
  refine lv_iload_n hx hb dJ0_charAt_5068e_11 rfl (lv_at hl 1 rfl) ?_
  refine st_i (va_runS (As := [.ref aV, .int (nI k)]) (rest := []) ⟨hx, hb, hml, hown, hts⟩ (c_J1_charAt l aK aV k hk) (va_cwS 2 hts gJ0_charAt_5068e_J1_charAt_3b067 rfl rfl rfl (by decide +kernel) ⟨Nat.le_of_ble_eq_true rfl, Nat.le_of_ble_eq_true rfl⟩) (st_preS hQ hS) rfl rfl hl.1 rfl (lv_room (Nat.le_of_ble_eq_true rfl)) dJ0_charAt_5068e_12 ⟨Nat.zero_le _, Nat.zero_le _⟩) hS (fun H locs hk2 hS => ?_)
  exact ro_zret hx hb hr (pk_nc _) hlocks hS rfl dJ0_charAt_5068e_15
