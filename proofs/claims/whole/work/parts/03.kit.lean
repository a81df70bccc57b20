/-! contracts of methods that read alone, and of methods that write their own cells alone; calls of both -/
/-- the links between nest mates, which no word list may hold -/
def q_nl : List (String × Nat × MethodName × String) := [(RX8, 9, yX3_init, RX8), (RX8, 18, yX2_init, RX8), (RX8, 25, yX7_init, RX8), (RX8, 59, yX0_init, RX8), (RX8, 66, yX1_init, RX8), (RX8, 73, yX5_init, RX8), (RX6, 46, yX8_has, RX8), (RX6, 79, yX8_careForMany, RX8), (RX6, 93, yX8_lowestOf, RX8), (RX0, 59, yX8_care, RX8), (RX0, 68, yX8_has, RX8), (RX5, 29, yX8_careForMany, RX8)]
def q_N (U : State) : Prop := ∀ q ∈ q_nl, va_Nw (.methodLinkNest q.1 q.2.1 q.2.2.1 q.2.2.2) U
theorem q_N.same {u U : State} (hv : u.vm = U.vm) (h : q_N u) : q_N U := fun q hq => va_Nw.same rfl hv (h q hq)
theorem q_N.warm {s U : State} (hW : s.WarmedH U.vm) (h : q_N s) : q_N U := fun q hq => va_Nw.warmM hW (h q hq)
theorem q_N.at {U : State} (h : q_N U) (k : Nat) {a : String} {i : Nat} {y : MethodName} {b : String} (hk : q_nl[k]? = some (a, i, y, b)) : va_Nw (.methodLinkNest a i y b) U := h _ (List.mem_of_getElem? hk)
/-- the kinds of arrays: of ints, of chars, of rows of ints -/
abbrev q_t (cI cC cG : ClassId) : List (ClassId × FieldType) := [(cI, .int), (cC, .char), (cG, .array .int)]
/-- the start of a method that reads alone -/
def q_P (D : va_G) (tys : List (ClassId × FieldType)) (ws : va_W) (av : List Value) : Array Value → State → Prop := va_Pc av (fun U => va_P D vwCl ws U.heap ∧ va_K D vwCl tys U ∧ q_N U)
theorem q_P_blind {D : va_G} {tys : List (ClassId × FieldType)} {ws : va_W} {av : List Value} : FrameBlind (q_P D tys ws av) := fun a U g mk q => ⟨q.1, q.2.1, va_K.moved (u := U) (U := U.calling g mk a) (Vm.Alike.refl U.vm) q.2.2.1, q_N.same (u := U) (U := U.calling g mk a) rfl q.2.2.2⟩
/-- the start of a method that writes -/
def q_PW (D : va_G) (tys : List (ClassId × FieldType)) (ws : va_W) (sz : Nat) (av : List Value) : Array Value → State → Prop := va_Pc av (fun U => U.heap.size = sz ∧ va_P D vwCl ws U.heap ∧ va_K D vwCl tys U ∧ q_N U ∧ va_D (fun _ => True) ws)
theorem q_PW_blind {D : va_G} {tys : List (ClassId × FieldType)} {ws : va_W} {sz : Nat} {av : List Value} : FrameBlind (q_PW D tys ws sz av) := fun a U g mk q => ⟨q.1, q.2.1, q.2.2.1, va_K.moved (u := U) (U := U.calling g mk a) (Vm.Alike.refl U.vm) q.2.2.2.1, q_N.same (u := U) (U := U.calling g mk a) rfl q.2.2.2.2.1, q.2.2.2.2.2⟩
/-- no cell -/
abbrev q_no : Nat → Prop := fun _ => False
abbrev q_Qi (v : Int32) : Array Value → State → Outcome → State → Prop := va_Qi (S := Unit) (fun r _ => r = v) (fun _ _ => True) q_no
abbrev q_Ql (v : Int64) : Array Value → State → Outcome → State → Prop := va_Ql (S := Unit) (fun r _ => r = v) (fun _ _ => True) q_no
abbrev q_Qr (v : Nat) : Array Value → State → Outcome → State → Prop := va_Qr (S := Unit) (fun _ => True) (fun _ a _ => a = v) q_no
abbrev q_QWi (D : va_G) (ws w1 : va_W) (sz : Nat) (v : Int32) : Array Value → State → Outcome → State → Prop := va_Qi (S := Unit) (fun r _ => r = v) (fun _ t => va_P D vwCl w1 t.heap ∧ va_D (va_A ws sz) w1) (va_A ws sz)
abbrev q_QWv (D : va_G) (ws w1 : va_W) (sz : Nat) : Array Value → State → Outcome → State → Prop := va_Qv (S := Unit) (fun _ => True) (fun _ t => va_P D vwCl w1 t.heap ∧ va_D (va_A ws sz) w1) (va_A ws sz)
abbrev RoI (l : Launch) (y : MethodName) (wds : List Cond) (rm : Room) (D : va_G) (tys : List (ClassId × FieldType)) (ws : va_W) (av : List Value) (v : Int32) : Prop := Met l y wds rm (q_P D tys ws av) (q_Qi v) 0 0 q_no
abbrev RoL (l : Launch) (y : MethodName) (wds : List Cond) (rm : Room) (D : va_G) (tys : List (ClassId × FieldType)) (ws : va_W) (av : List Value) (v : Int64) : Prop := Met l y wds rm (q_P D tys ws av) (q_Ql v) 0 0 q_no
abbrev RoR (l : Launch) (y : MethodName) (wds : List Cond) (rm : Room) (D : va_G) (tys : List (ClassId × FieldType)) (ws : va_W) (av : List Value) (v : Nat) : Prop := Met l y wds rm (q_P D tys ws av) (q_Qr v) 0 0 q_no
abbrev RwI (l : Launch) (y : MethodName) (wds : List Cond) (rm : Room) (D : va_G) (tys : List (ClassId × FieldType)) (ws w1 : va_W) (sz : Nat) (av : List Value) (v : Int32) : Prop := Met l y wds rm (q_PW D tys ws sz av) (q_QWi D ws w1 sz v) 0 0 (va_A ws sz)
abbrev RwV (l : Launch) (y : MethodName) (wds : List Cond) (rm : Room) (D : va_G) (tys : List (ClassId × FieldType)) (ws w1 : va_W) (sz : Nat) (av : List Value) : Prop := Met l y wds rm (q_PW D tys ws sz av) (q_QWv D ws w1 sz) 0 0 (va_A ws sz)
/-- what a body has in hand -/
abbrev q_B (p : Program) (s : State) (m : MethodId) (meth : Method) (c : Code) (own : String) (cc : ByteArray) (maxL : Nat) (ret : Option FieldType) (wds : List Cond) (av : List Value) : Prop :=
  p.tables.exec = Jvm.exec ∧ c.code = cc ∧ meth.sig.returnType = ret ∧ meth.locks = false ∧ c.maxLocals = maxL ∧ s.vm.findClass own = some m.cls ∧ (∀ w ∈ wds, w.before av.toArray s = true) ∧ q_N s
theorem ro_enter {l : Launch} {y : MethodName} {wds wds' : List Cond} {rm : Room} {D : va_G} {tys : List (ClassId × FieldType)} {ws : va_W} {av : List Value} {Qc : Array Value → State → Outcome → State → Prop} {cc : ByteArray} {maxL : Nat} {ret : Option FieldType}
    (hy : plainName y.cls = true) (hw : wds = Cond.code y cc maxL ret :: wds') (hn : (lg_sl av).length ≤ maxL)
    (body : ∀ (p : Program) (e : Env) (s : State) (m : MethodId) (below : List Frame) (meth : Method) (c : Code) (ls : Array Slot), q_B p s m meth c y.cls cc maxL ret wds av → va_P D vwCl ws s.heap → va_K D vwCl tys s → lv_has ls maxL (lv_args 0 av) →
      W p l e rm s m av.toArray below meth c s.heap [] 0 0 (MQ below Qc av.toArray s 0 0 q_no) (F0 m 0 ls [])) : Met l y wds rm (q_P D tys ws av) Qc 0 0 q_no := by
  refine Met.ofW (cc := cc) (maxL := maxL) (ret := ret) hy hw ?_
  intro p e s m args below meth c s₁ B hml hv
  obtain ⟨rfl, hP, hK, hN⟩ := hv
  have hl := lv_entry av (n := maxL) hn
  rw [lg_entry_eq]
  exact body p e s m below meth c _ ⟨B.exec, B.bytes, B.returns, B.notSynchronized, hml, findClass_of_methodNamed B.named, atoms_spec (ws := wds) B.pre, hN⟩ hP hK hl
theorem rw_enter {l : Launch} {y : MethodName} {wds wds' : List Cond} {rm : Room} {D : va_G} {tys : List (ClassId × FieldType)} {ws : va_W} {sz : Nat} {av : List Value} {Qc : Array Value → State → Outcome → State → Prop} {cc : ByteArray} {maxL : Nat} {ret : Option FieldType}
    (hy : plainName y.cls = true) (hw : wds = Cond.code y cc maxL ret :: wds') (hn : (lg_sl av).length ≤ maxL)
    (body : ∀ (p : Program) (e : Env) (s : State) (m : MethodId) (below : List Frame) (meth : Method) (c : Code) (ls : Array Slot), q_B p s m meth c y.cls cc maxL ret wds av → va_P D vwCl ws s.heap → va_K D vwCl tys s → va_D (va_A ws sz) ws → va_S (va_A ws sz) s.heap s.heap [] → (∀ q : Nat, s.heap.size ≤ q → va_A ws sz q) → lv_has ls maxL (lv_args 0 av) →
      W p l e rm s m av.toArray below meth c s.heap [] 0 0 (MQ below Qc av.toArray s 0 0 (va_A ws sz)) (F0 m 0 ls [])) : Met l y wds rm (q_PW D tys ws sz av) Qc 0 0 (va_A ws sz) := by
  refine Met.ofW (cc := cc) (maxL := maxL) (ret := ret) hy hw ?_
  intro p e s m args below meth c s₁ B hml hv
  obtain ⟨rfl, rfl, hP, hK, hN, hD⟩ := hv
  have hl := lv_entry av (n := maxL) hn
  rw [lg_entry_eq]
  exact body p e s m below meth c _ ⟨B.exec, B.bytes, B.returns, B.notSynchronized, hml, findClass_of_methodNamed B.named, atoms_spec (ws := wds) B.pre, hN⟩ hP hK hD.self va_S.rf (fun q h => Or.inr h) hl
section QC
variable {p : Program} {l : Launch} {e : Env} {R : Room} {s : State} {m : MethodId} {args : Array Value} {below : List Frame} {meth : Method} {c : Code} {H : Heap} {locs : List Loc} {cells slots : Nat} {Q : State → Prop}
variable {pc : Nat} {ls : Array Slot} {rest st0 : List Value} {a : Array Value} {A0 : Nat → Prop} {H0 : Heap} {D : va_G} {tys : List (ClassId × FieldType)} {ws ws' w1 wc wr : va_W}
theorem q_preS {As : List Value} (hK : va_K D vwCl tys s) (hP : va_P D vwCl ws H) (hN : q_N s) (is : List Nat) (hs : is.filterMap (fun i => ws[i]?) = ws') : PreS s H (q_P D tys ws' As) As :=
  ⟨q_P_blind, fun U hU hW => ⟨rfl, by rw [hU]; exact hP.sub is hs, va_K.moved hW.alike hK, hN.warm hW⟩⟩
theorem q_preV {As : List Value} {b : Nat} {C : String} {T : u_T} {N ci q0 : Nat} {fs : List Value} (hK : va_K D vwCl tys s) (hP : va_P D vwCl ws H) (hN : q_N s) (is : List Nat) (hs : is.filterMap (fun i => ws[i]?) = ws') (hc : vwCl[ci]? = some (C, T, N)) (he : ws[q0]? = some (b, .inr (ci, fs))) : PreV s H C b (q_P D tys ws' (.ref b :: As)) As :=
  ⟨q_P_blind, va_recv hK hP hc he, fun U hU hW => ⟨rfl, by rw [hU]; exact hP.sub is hs, va_K.moved hW.alike hK, hN.warm hW⟩⟩
theorem q_preWS {As : List Value} {A : Nat → Prop} (hK : va_K D vwCl tys s) (hP : va_P D vwCl ws H) (hD : va_D A ws) (hN : q_N s) (is : List Nat) (hn : va_nd is = true) (hs : is.filterMap (fun i => ws[i]?) = ws') (hs2 : is.map (fun i => ws[i]?) = ws'.map some) : PreS s H (q_PW D tys ws' H.size As) As :=
  ⟨q_PW_blind, fun U hU hW => ⟨rfl, by rw [hU], by rw [hU]; exact hP.sub is hs, va_K.moved hW.alike hK, hN.warm hW, (hD.sub is hn hs2).weaken (fun _ _ _ _ => trivial)⟩⟩
theorem q_preWV {As : List Value} {b : Nat} {C : String} {T : u_T} {N ci q0 : Nat} {fs : List Value} {A : Nat → Prop} (hK : va_K D vwCl tys s) (hP : va_P D vwCl ws H) (hD : va_D A ws) (hN : q_N s) (is : List Nat) (hn : va_nd is = true) (hs : is.filterMap (fun i => ws[i]?) = ws') (hs2 : is.map (fun i => ws[i]?) = ws'.map some) (hc : vwCl[ci]? = some (C, T, N)) (he : ws[q0]? = some (b, .inr (ci, fs))) : PreV s H C b (q_PW D tys ws' H.size (.ref b :: As)) As :=
  ⟨q_PW_blind, va_recv hK hP hc he, fun U hU hW => ⟨rfl, by rw [hU], by rw [hU]; exact hP.sub is hs, va_K.moved hW.alike hK, hN.warm hW, (hD.sub is hn hs2).weaken (fun _ _ _ _ => trivial)⟩⟩
theorem q_kept {H1 : Heap} (hP : va_P D vwCl ws H) (hk : ∀ q : Nat, q < H.size → ¬ q_no q → H1[q]? = H[q]?) : va_P D vwCl ws H1 := hP.kept (fun k q hq => hk q.1 (hP k q hq).lt id)
/-- behind the call of a method that reads alone -/
theorem ro_i {v : Int32} (hr : va_Run p l e R s m args below meth c H locs cells slots 0 0 (F0 m pc ls st0) rest (q_Qi v a) q_no) (hS : va_S A0 H0 H locs) (hP : va_P D vwCl ws H)
    (kk : ∀ (H1 : Heap) (locs1 : List Loc), va_P D vwCl ws H1 → va_S A0 H0 H1 locs1 → W p l e R s m args below meth c H1 locs1 cells slots Q (F0 m (pc + 3) ls (.int v :: rest))) : W p l e R s m args below meth c H locs cells slots Q (F0 m pc ls st0) :=
  va_calli hr hS (fun q _ h => h.elim) (fun q h => h.elim) (fun r u t H1 locs1 ht hvm hp hB hz hk hS1 => by
    obtain rfl : r = v := hp
    exact kk H1 locs1 (q_kept hP hk) hS1)
theorem ro_l {v : Int64} (hr : va_Run p l e R s m args below meth c H locs cells slots 0 0 (F0 m pc ls st0) rest (q_Ql v a) q_no) (hS : va_S A0 H0 H locs) (hP : va_P D vwCl ws H)
    (kk : ∀ (H1 : Heap) (locs1 : List Loc), va_P D vwCl ws H1 → va_S A0 H0 H1 locs1 → W p l e R s m args below meth c H1 locs1 cells slots Q (F0 m (pc + 3) ls (.long v :: rest))) : W p l e R s m args below meth c H locs cells slots Q (F0 m pc ls st0) :=
  va_calll hr hS (fun q _ h => h.elim) (fun q h => h.elim) (fun r u t H1 locs1 ht hvm hp hB hz hk hS1 => by
    obtain rfl : r = v := hp
    exact kk H1 locs1 (q_kept hP hk) hS1)
theorem ro_r {v : Nat} (hr : va_Run p l e R s m args below meth c H locs cells slots 0 0 (F0 m pc ls st0) rest (q_Qr v a) q_no) (hS : va_S A0 H0 H locs) (hP : va_P D vwCl ws H)
    (kk : ∀ (H1 : Heap) (locs1 : List Loc), va_P D vwCl ws H1 → va_S A0 H0 H1 locs1 → W p l e R s m args below meth c H1 locs1 cells slots Q (F0 m (pc + 3) ls (.ref v :: rest))) : W p l e R s m args below meth c H locs cells slots Q (F0 m pc ls st0) :=
  va_callr hr hS (fun q _ h => h.elim) (fun q h => h.elim) (fun u ra t H1 locs1 ht hvm hp hB hz hk hS1 => by
    obtain rfl : ra = v := hB
    exact kk H1 locs1 (q_kept hP hk) hS1)
/-- behind the call of a method that writes a part of the world -/
theorem rw_i {v : Int32} {ws2 : va_W} (hr : va_Run p l e R s m args below meth c H locs cells slots 0 0 (F0 m pc ls st0) rest (q_QWi D wc w1 H.size v a) (va_A wc H.size)) (hS : va_S A0 H0 H locs) (hA : ∀ q, H0.size ≤ q → A0 q) (hP : va_P D vwCl ws H) (hD : va_D A0 ws)
    (isC isR : List Nat) (hC : isC.map (fun i => ws[i]?) = wc.map some) (hR : isR.map (fun i => ws[i]?) = wr.map some) (hn : va_nd isR = true) (hdis : ∀ i ∈ isR, i ∉ isC) (is2 : List Nat) (h2n : va_nd is2 = true) (h2 : is2.filterMap (fun i => (wr ++ w1)[i]?) = ws2) (h2m : is2.map (fun i => (wr ++ w1)[i]?) = ws2.map some)
    (kk : ∀ (H1 : Heap) (locs1 : List Loc), va_P D vwCl ws2 H1 → va_D A0 ws2 → va_S A0 H0 H1 locs1 → W p l e R s m args below meth c H1 locs1 cells slots Q (F0 m (pc + 3) ls (.int v :: rest))) : W p l e R s m args below meth c H locs cells slots Q (F0 m pc ls st0) := by
  have hF := va_free (wc := wc) hD hS hA isC hC
  refine va_calli hr hS (fun q _ h => hF q h) hF (fun r u t H1 locs1 ht hvm hp hB hz hk hS1 => ?_)
  obtain rfl : r = v := hp
  obtain ⟨hP1, hD1⟩ := hB
  rw [ht] at hP1
  obtain ⟨hP2, hD2⟩ := va_join hP hD isC isR hC hR hn hdis hk hF hP1 hD1
  exact kk H1 locs1 (hP2.sub is2 h2) (hD2.sub is2 h2n h2m) hS1
theorem rw_v {ws2 : va_W} (hr : va_Run p l e R s m args below meth c H locs cells slots 0 0 (F0 m pc ls st0) rest (q_QWv D wc w1 H.size a) (va_A wc H.size)) (hS : va_S A0 H0 H locs) (hA : ∀ q, H0.size ≤ q → A0 q) (hP : va_P D vwCl ws H) (hD : va_D A0 ws)
    (isC isR : List Nat) (hC : isC.map (fun i => ws[i]?) = wc.map some) (hR : isR.map (fun i => ws[i]?) = wr.map some) (hn : va_nd isR = true) (hdis : ∀ i ∈ isR, i ∉ isC) (is2 : List Nat) (h2n : va_nd is2 = true) (h2 : is2.filterMap (fun i => (wr ++ w1)[i]?) = ws2) (h2m : is2.map (fun i => (wr ++ w1)[i]?) = ws2.map some)
    (kk : ∀ (H1 : Heap) (locs1 : List Loc), va_P D vwCl ws2 H1 → va_D A0 ws2 → va_S A0 H0 H1 locs1 → W p l e R s m args below meth c H1 locs1 cells slots Q (F0 m (pc + 3) ls rest)) : W p l e R s m args below meth c H locs cells slots Q (F0 m pc ls st0) := by
  have hF := va_free (wc := wc) hD hS hA isC hC
  refine va_callv hr hS (fun q _ h => hF q h) hF (fun u t H1 locs1 ht hvm hp hB hz hk hS1 => ?_)
  obtain ⟨hP1, hD1⟩ := hB
  rw [ht] at hP1
  obtain ⟨hP2, hD2⟩ := va_join hP hD isC isR hC hR hn hdis hk hF hP1 hD1
  exact kk H1 locs1 (hP2.sub is2 h2) (hD2.sub is2 h2n h2m) hS1
/-- of the whole world, in its order -/
theorem rw_i0 {v : Int32} (hr : va_Run p l e R s m args below meth c H locs cells slots 0 0 (F0 m pc ls st0) rest (q_QWi D ws w1 H.size v a) (va_A ws H.size)) (hS : va_S A0 H0 H locs) (hA : ∀ q, H0.size ≤ q → A0 q) (hD : va_D A0 ws)
    (kk : ∀ (H1 : Heap) (locs1 : List Loc), va_P D vwCl w1 H1 → va_D A0 w1 → va_S A0 H0 H1 locs1 → W p l e R s m args below meth c H1 locs1 cells slots Q (F0 m (pc + 3) ls (.int v :: rest))) : W p l e R s m args below meth c H locs cells slots Q (F0 m pc ls st0) := by
  have hF : ∀ q, va_A ws H.size q → A0 q := fun q h => by
    rcases h with ⟨k, e, h⟩ | h
    · exact hD.2 k _ h
    · exact hA q (Nat.le_trans hS.1 h)
  refine va_calli hr hS (fun q _ h => hF q h) hF (fun r u t H1 locs1 ht hvm hp hB hz hk hS1 => ?_)
  obtain rfl : r = v := hp
  obtain ⟨hP1, hD1⟩ := hB
  rw [ht] at hP1
  exact kk H1 locs1 hP1 (hD1.weaken (fun k q _ h => hF q.1 h)) hS1
theorem rw_v0 (hr : va_Run p l e R s m args below meth c H locs cells slots 0 0 (F0 m pc ls st0) rest (q_QWv D ws w1 H.size a) (va_A ws H.size)) (hS : va_S A0 H0 H locs) (hA : ∀ q, H0.size ≤ q → A0 q) (hD : va_D A0 ws)
    (kk : ∀ (H1 : Heap) (locs1 : List Loc), va_P D vwCl w1 H1 → va_D A0 w1 → va_S A0 H0 H1 locs1 → W p l e R s m args below meth c H1 locs1 cells slots Q (F0 m (pc + 3) ls rest)) : W p l e R s m args below meth c H locs cells slots Q (F0 m pc ls st0) := by
  have hF : ∀ q, va_A ws H.size q → A0 q := fun q h => by
    rcases h with ⟨k, e, h⟩ | h
    · exact hD.2 k _ h
    · exact hA q (Nat.le_trans hS.1 h)
  refine va_callv hr hS (fun q _ h => hF q h) hF (fun u t H1 locs1 ht hvm hp hB hz hk hS1 => ?_)
  obtain ⟨hP1, hD1⟩ := hB
  rw [ht] at hP1
  exact kk H1 locs1 hP1 (hD1.weaken (fun k q _ h => hF q.1 h)) hS1
/-- the ends -/
theorem ro_iret {cc : ByteArray} {v r : Int32} (hexec : p.tables.exec = Jvm.exec) (hb : c.code = cc) (hr : meth.sig.returnType = some .int) (hlocks : meth.locks = false) (hS : va_S q_no s.heap H locs) (hv : r = v) (hdg : decode cc pc = .ok (.ireturn, 1)) : W p l e R s m args below meth c H locs cells slots (MQ below (q_Qi v) args s cells slots q_no) (F0 m pc ls [.int r]) :=
  W.iret hexec hb hr (fun t ht hW => ⟨⟨r, (), rfl, hv, trivial⟩, hS.F ht⟩) hS.2.2 hdg hlocks
theorem ro_zret {cc : ByteArray} {v r : Int32} {ty : FieldType} (hexec : p.tables.exec = Jvm.exec) (hb : c.code = cc) (hr : meth.sig.returnType = some ty) (hn : narrow ty (.int r) = .int r) (hlocks : meth.locks = false) (hS : va_S q_no s.heap H locs) (hv : r = v) (hdg : decode cc pc = .ok (.ireturn, 1)) : W p l e R s m args below meth c H locs cells slots (MQ below (q_Qi v) args s cells slots q_no) (F0 m pc ls [.int r]) :=
  W.zret hexec hb hr hn (fun t ht hW => ⟨⟨r, (), rfl, hv, trivial⟩, hS.F ht⟩) hS.2.2 hdg hlocks
theorem ro_lret {cc : ByteArray} {v r : Int64} (hexec : p.tables.exec = Jvm.exec) (hb : c.code = cc) (hr : meth.sig.returnType = some .long) (hlocks : meth.locks = false) (hS : va_S q_no s.heap H locs) (hv : r = v) (hdg : decode cc pc = .ok (.lreturn, 1)) : W p l e R s m args below meth c H locs cells slots (MQ below (q_Ql v) args s cells slots q_no) (F0 m pc ls [.long r]) :=
  W.lret hexec hb hr (fun t ht hW => ⟨⟨r, (), rfl, hv, trivial⟩, hS.F ht⟩) hS.2.2 hdg hlocks
theorem ro_aret {cc : ByteArray} {v : Nat} {C : String} (hexec : p.tables.exec = Jvm.exec) (hb : c.code = cc) (hr : meth.sig.returnType = some (.object C)) (hlocks : meth.locks = false) (hS : va_S q_no s.heap H locs) (hdg : decode cc pc = .ok (.areturn, 1)) : W p l e R s m args below meth c H locs cells slots (MQ below (q_Qr v) args s cells slots q_no) (F0 m pc ls [.ref v]) :=
  W.aret hexec hb hr (Or.inl ⟨_, rfl⟩) (Or.inr ⟨_, rfl⟩) (fun t ht hW => ⟨⟨(), v, rfl, trivial, rfl⟩, hS.F ht⟩) hS.2.2 hdg hlocks
theorem rw_iret {cc : ByteArray} {v r : Int32} {sz : Nat} {w2 : va_W} (hexec : p.tables.exec = Jvm.exec) (hb : c.code = cc) (hr : meth.sig.returnType = some .int) (hlocks : meth.locks = false) (hP : va_P D vwCl w2 H) (hD : va_D (va_A ws sz) w2) (hS : va_S (va_A ws sz) s.heap H locs) (hv : r = v) (hw : w2 = w1) (hdg : decode cc pc = .ok (.ireturn, 1)) : W p l e R s m args below meth c H locs cells slots (MQ below (q_QWi D ws w1 sz v) args s cells slots (va_A ws sz)) (F0 m pc ls [.int r]) := by
  subst hw
  exact W.iret hexec hb hr (fun t ht hW => ⟨⟨r, (), rfl, hv, by rw [ht]; exact hP, hD⟩, hS.F ht⟩) hS.2.2 hdg hlocks
theorem rw_zret {cc : ByteArray} {v r : Int32} {sz : Nat} {w2 : va_W} {ty : FieldType} (hexec : p.tables.exec = Jvm.exec) (hb : c.code = cc) (hr : meth.sig.returnType = some ty) (hn : narrow ty (.int r) = .int r) (hlocks : meth.locks = false) (hP : va_P D vwCl w2 H) (hD : va_D (va_A ws sz) w2) (hS : va_S (va_A ws sz) s.heap H locs) (hv : r = v) (hw : w2 = w1) (hdg : decode cc pc = .ok (.ireturn, 1)) : W p l e R s m args below meth c H locs cells slots (MQ below (q_QWi D ws w1 sz v) args s cells slots (va_A ws sz)) (F0 m pc ls [.int r]) := by
  subst hw
  exact W.zret hexec hb hr hn (fun t ht hW => ⟨⟨r, (), rfl, hv, by rw [ht]; exact hP, hD⟩, hS.F ht⟩) hS.2.2 hdg hlocks
theorem rw_vret {cc : ByteArray} {sz : Nat} {w2 : va_W} (hexec : p.tables.exec = Jvm.exec) (hb : c.code = cc) (hr : meth.sig.returnType = none) (hlocks : meth.locks = false) (hP : va_P D vwCl w2 H) (hD : va_D (va_A ws sz) w2) (hS : va_S (va_A ws sz) s.heap H locs) (hw : w2 = w1) (hdg : decode cc pc = .ok (.return_, 1)) : W p l e R s m args below meth c H locs cells slots (MQ below (q_QWv D ws w1 sz) args s cells slots (va_A ws sz)) (F0 m pc ls []) := by
  subst hw
  exact W.vret hexec hb hr (fun t ht hW => ⟨⟨(), rfl, trivial, by rw [ht]; exact hP, hD⟩, hS.F ht⟩) hS.2.2 hdg hlocks
end QC
/-! numbers -/
theorem k_lt {j : Nat} {x : Int32} (h : j < x.toNatClampNeg) : nI j < x := by
  have hx : x.toNatClampNeg < 2 ^ 31 := by
    have := Int32.toInt_lt x
    unfold Int32.toNatClampNeg
    omega
  rw [Int32.lt_iff_toInt_lt, nI_toInt (by omega)]
  unfold Int32.toNatClampNeg at h
  omega
theorem k_nlt {x : Int32} : ¬ nI x.toNatClampNeg < x := by
  have hx : x.toNatClampNeg < 2 ^ 31 := by
    have := Int32.toInt_lt x
    unfold Int32.toNatClampNeg
    omega
  rw [Int32.lt_iff_toInt_lt, nI_toInt (by omega)]
  unfold Int32.toNatClampNeg
  omega
theorem k_le {j : Nat} {x : Int32} (h : j < x.toNatClampNeg) : ¬ x ≤ nI j := fun q => absurd (k_lt h) (Int32.not_lt.mpr q)
theorem k_ge {x : Int32} : x ≤ nI x.toNatClampNeg := Int32.not_lt.mp k_nlt
theorem k_add (k : Nat) {j n : Nat} (h : k + j < n) (hn : n < 2 ^ 31) : vp_in (nI k + nI j) n := by rw [nI_add]; exact vp_in_nI h hn
