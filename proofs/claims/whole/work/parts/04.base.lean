/-! rows and numbers that the walks use -/
theorem k_31 {x : Int32} : x.toNatClampNeg < 2 ^ 31 := by
  have := Int32.toInt_lt x
  unfold Int32.toNatClampNeg
  omega
theorem k_addc (c : Nat) {j : Nat} (h : c + j < 2 ^ 31) : (nI c + nI j).toNatClampNeg = c + j := by rw [nI_add]; exact nI_clamp h
theorem in_cmp {i : Int32} {n : Nat} (h1 : ¬ i < 0) (h2 : ¬ Int32.ofNat n ≤ i) (hn : n < 2 ^ 31 := by decide) : vp_in i n := by
  rw [vp_in_iff]
  rw [Int32.lt_iff_toInt_lt] at h1
  rw [Int32.le_iff_toInt_le] at h2
  have h3 : (Int32.ofNat n).toInt = (n : Int) := nI_toInt hn
  have h4 : (0 : Int32).toInt = 0 := by decide
  omega
theorem in_cmp2 {i : Int32} {n : Nat} (h1 : ¬ i < 0) (h2 : i < Int32.ofNat n) (hn : n < 2 ^ 31 := by decide) : vp_in i n := in_cmp h1 (Int32.not_le.mpr h2) hn
theorem vp_mono {i : Int32} {n N : Nat} (h : vp_in i n) (hn : n ≤ N) : vp_in i N := by
  rw [vp_in_iff] at h ⊢
  omega
theorem in_add (c : Nat) {i : Int32} {n N : Nat} (h : vp_in i n) (hn : c + n ≤ N) (hN : N < 2 ^ 31) : vp_in (nI c + i) N := by
  obtain ⟨j, hj, rfl⟩ := vp_in_of h (by omega)
  rw [nI_add]
  exact vp_in_nI (by omega) hN
theorem in_addc (c : Nat) {i : Int32} {n N : Nat} (h : vp_in i n) (hn : c + n ≤ N) (hN : N < 2 ^ 31) : (nI c + i).toNatClampNeg = c + i.toNatClampNeg := by
  obtain ⟨j, hj, rfl⟩ := vp_in_of h (by omega)
  rw [nI_add, nI_clamp (by omega), nI_clamp (by omega)]
section QA
variable {p : Program} {l : Launch} {e : Env} {R : Room} {s : State} {m : MethodId} {args : Array Value} {below : List Frame} {meth : Method} {c : Code} {H : Heap} {locs : List Loc} {cells slots : Nat} {Q : State → Prop}
variable {cc : ByteArray} {pc : Nat} {ls : Array Slot} {rest : List Value} {D : va_G} {cl : List vw_C} {A : Nat → Prop} {a : Nat} {tys : List (ClassId × FieldType)} {ws : va_W} {H0 : Heap}
theorem q_iald (hexec : p.tables.exec = Jvm.exec) (hb : c.code = cc) (hK : va_K D cl tys s) (hP : va_P D cl ws H) (q0 t0 : Nat) {cA : ClassId} {n : Nat} {f : Nat → Int32} (ha : ws[q0]? = some (a, .inl (cA, n, .inl f))) (ht : tys[t0]? = some (cA, .int)) {i : Int32} (hin : vp_in i n) (k : Nat) (hk : i.toNatClampNeg = k) (hdg : decode cc pc = .ok (.iaload, 1))
    (kk : W p l e R s m args below meth c H locs cells slots Q (F0 m (pc + 1) ls (.int (f k) :: rest))) : W p l e R s m args below meth c H locs cells slots Q (F0 m pc ls (.int i :: .ref a :: rest)) := by
  subst hk
  exact va_iald hexec hb hK hP q0 t0 ha ht hin hdg kk
theorem q_cald (hexec : p.tables.exec = Jvm.exec) (hb : c.code = cc) (hK : va_K D cl tys s) (hP : va_P D cl ws H) (q0 t0 : Nat) {cA : ClassId} {n : Nat} {f : Nat → Int32} (ha : ws[q0]? = some (a, .inl (cA, n, .inl f))) (ht : tys[t0]? = some (cA, .char)) {i : Int32} (hin : vp_in i n) (k : Nat) (hk : i.toNatClampNeg = k) (hdg : decode cc pc = .ok (.caload, 1))
    (kk : W p l e R s m args below meth c H locs cells slots Q (F0 m (pc + 1) ls (.int (f k) :: rest))) : W p l e R s m args below meth c H locs cells slots Q (F0 m pc ls (.int i :: .ref a :: rest)) := by
  subst hk
  exact va_cald hexec hb hK hP q0 t0 ha ht hin hdg kk
theorem q_iast (hexec : p.tables.exec = Jvm.exec) (hb : c.code = cc) (hK : va_K D cl tys s) (hP : va_P D cl ws H) (hD : va_D A ws) (hS : va_S A H0 H locs) (q0 t0 : Nat) {cA : ClassId} {n : Nat} {f : Nat → Int32} (ha : ws[q0]? = some (a, .inl (cA, n, .inl f))) (ht : tys[t0]? = some (cA, .int)) {i : Int32} {x : Int32} (hin : vp_in i n) (k : Nat) (hk : i.toNatClampNeg = k) (hdg : decode cc pc = .ok (.iastore, 1))
    (kk : ∀ (H1 : Heap) (locs1 : List Loc), va_P D cl (ws.set q0 (a, .inl (cA, n, .inl (upd f k x)))) H1 → va_D A (ws.set q0 (a, .inl (cA, n, .inl (upd f k x)))) → va_S A H0 H1 locs1 → W p l e R s m args below meth c H1 locs1 cells slots Q (F0 m (pc + 1) ls rest)) : W p l e R s m args below meth c H locs cells slots Q (F0 m pc ls (.int x :: .int i :: .ref a :: rest)) := by
  subst hk
  exact va_iast hexec hb hK hP hD hS q0 t0 ha ht hin hdg kk
theorem q_cast (hexec : p.tables.exec = Jvm.exec) (hb : c.code = cc) (hK : va_K D cl tys s) (hP : va_P D cl ws H) (hD : va_D A ws) (hS : va_S A H0 H locs) (q0 t0 : Nat) {cA : ClassId} {n : Nat} {f : Nat → Int32} (ha : ws[q0]? = some (a, .inl (cA, n, .inl f))) (ht : tys[t0]? = some (cA, .char)) {i : Int32} {x : Int32} (hin : vp_in i n) (k : Nat) (hk : i.toNatClampNeg = k) (hdg : decode cc pc = .ok (.castore, 1))
    (kk : ∀ (H1 : Heap) (locs1 : List Loc), va_P D cl (ws.set q0 (a, .inl (cA, n, .inl (upd f k (vp_nar .char x))))) H1 → va_D A (ws.set q0 (a, .inl (cA, n, .inl (upd f k (vp_nar .char x))))) → va_S A H0 H1 locs1 → W p l e R s m args below meth c H1 locs1 cells slots Q (F0 m (pc + 1) ls rest)) : W p l e R s m args below meth c H locs cells slots Q (F0 m pc ls (.int x :: .int i :: .ref a :: rest)) := by
  subst hk
  exact va_cast hexec hb hK hP hD hS q0 t0 ha ht hin hdg kk
theorem q_aald (hexec : p.tables.exec = Jvm.exec) (hb : c.code = cc) (hK : va_K D cl tys s) (hP : va_P D cl ws H) (q0 t0 : Nat) {cA : ClassId} {n : Nat} {f : Nat → Option Nat} (ha : ws[q0]? = some (a, .inl (cA, n, .inr (.inr (.inr (.inr f)))))) (ht : tys[t0]? = some (cA, .array .int)) {i : Int32} (hin : vp_in i n) (k : Nat) (hk : i.toNatClampNeg = k) {b : Nat} (hf : f k = some b) (hdg : decode cc pc = .ok (.aaload, 1))
    (kk : W p l e R s m args below meth c H locs cells slots Q (F0 m (pc + 1) ls (.ref b :: rest))) : W p l e R s m args below meth c H locs cells slots Q (F0 m pc ls (.int i :: .ref a :: rest)) := by
  subst hk
  have hlt : i.toNatClampNeg < n := Nat.not_le.mp fun q => hin (Or.inr q)
  refine W.aald (v := va_rf (f i.toNatClampNeg)) (ty := .array .int) hexec hb (hP q0 _ ha) ((hK.2 t0 _ ht).1 n (fun j => va_rf (f j))) rfl (fun q => by cases q) (by show ¬ (i < 0 ∨ (arrV _ _ _).slots.size ≤ _); rw [arrV_size]; exact hin) (by show (arrV _ _ _).slots[_]? = _; rw [arrV_read _ _ hlt]) rfl rfl hdg ?_
  rw [hf]
  exact kk
theorem q_copyi (hexec : p.tables.exec = Jvm.exec) (hb : c.code = cc) (hml : c.maxLocals = ls.size) {own : String} {index : Nat} (hown : s.vm.findClass own = some m.cls) (hlink : (Cond.methodLink own index arraycopyName).before args s = true) (hnat : (Cond.native arraycopyName).before args s = true) (hstat : (Cond.static arraycopyName).before args s = true) (hini : (Cond.initialized "java/lang/System").before args s = true)
    (hK : va_K D cl tys s) (hP : va_P D cl ws H) (hD : va_D A ws) (hS : va_S A H0 H locs) (q0 q1 t0 t1 : Nat) {a0 : Nat} {c0 c1 : ClassId} {n0 n1 : Nat} {f g : Nat → Int32} (ha0 : ws[q0]? = some (a0, .inl (c0, n0, .inl f))) (ha1 : ws[q1]? = some (a, .inl (c1, n1, .inl g))) (ht0 : tys[t0]? = some (c0, .int)) (ht1 : tys[t1]? = some (c1, .int))
    (SP DP N : Nat) {sp dp n : Int32} (e1 : sp.toNatClampNeg = SP) (e2 : dp.toNatClampNeg = DP) (e3 : n.toNatClampNeg = N) (h1 : ¬ sp < 0) (h2 : ¬ dp < 0) (h3 : ¬ n < 0) (h4 : SP + N ≤ n0) (h5 : DP + N ≤ n1)
    (hframes : 1 ≤ R.frames) (hlocals : (rest.map fun v => v.category).sum + (nativeFrameWords "java/lang/System" "arraycopy" 5 + 11) ≤ R.locals) (hdg : decode cc pc = .ok (.invokestatic index, 3))
    (kk : ∀ (H1 : Heap) (locs1 : List Loc), va_P D cl (ws.set q1 (a, .inl (c1, n1, .inl (va_cpy f g SP DP N)))) H1 → va_D A (ws.set q1 (a, .inl (c1, n1, .inl (va_cpy f g SP DP N)))) → va_S A H0 H1 locs1 → W p l e R s m args below meth c H1 locs1 cells slots Q (F0 m (pc + 3) ls rest)) : W p l e R s m args below meth c H locs cells slots Q (F0 m pc ls (.int n :: .int dp :: .ref a :: .int sp :: .ref a0 :: rest)) := by
  subst e1; subst e2; subst e3
  exact va_copyi hexec hb hml hown hlink hnat hstat hini hK hP hD hS q0 q1 t0 t1 ha0 ha1 ht0 ht1 rfl h1 h2 h3 h4 h5 (fun _ _ => rfl) hframes hlocals hdg kk
end QA
theorem k_addd (c : Nat) {j : Nat} (h : j + c < 2 ^ 31) : (nI j + nI c).toNatClampNeg = j + c := by rw [nI_add]; exact nI_clamp h
theorem k_addr (c : Nat) {j n : Nat} (h : j + c < n) (hn : n < 2 ^ 31) : vp_in (nI j + nI c) n := by rw [nI_add]; exact vp_in_nI h hn
/-- the addresses of a row of rows -/
def q_g (l : List Nat) : Nat → Option Nat := fun k => l[k]?
theorem last2 {i : Int32} (h : vp_in i 2) (h0 : ¬ i = 0) : i = 1 := by
  obtain ⟨j, hj, rfl⟩ := vp_in_of h (by decide)
  rcases (show j = 0 ∨ j = 1 by omega) with rfl | rfl
  · exact absurd rfl h0
  · rfl
theorem last8 {i : Int32} (h : vp_in i 8) (h0 : ¬ i = 0) (h1 : ¬ i = 1) (h2 : ¬ i = 2) (h3 : ¬ i = 3) (h4 : ¬ i = 4) (h5 : ¬ i = 5) (h6 : ¬ i = 6) : i = 7 := by
  obtain ⟨j, hj, rfl⟩ := vp_in_of h (by decide)
  rcases (show j = 0 ∨ j = 1 ∨ j = 2 ∨ j = 3 ∨ j = 4 ∨ j = 5 ∨ j = 6 ∨ j = 7 by omega) with rfl | rfl | rfl | rfl | rfl | rfl | rfl | rfl
  · exact absurd rfl h0
  · exact absurd rfl h1
  · exact absurd rfl h2
  · exact absurd rfl h3
  · exact absurd rfl h4
  · exact absurd rfl h5
  · exact absurd rfl h6
  · rfl
theorem in_pop {i : Int32} {n : Nat} (h1 : ¬ i ≤ 0) (h2 : i ≤ nI n) (hn : n < 2 ^ 31) : vp_in (i - 1) n := by
  obtain ⟨j, hj, rfl⟩ := nI_of (x := i) (fun q => h1 (Int32.le_of_lt q))
  cases j with
  | zero => exact absurd (by decide) h1
  | succ j =>
    rw [nI_pred]
    have := (nI_leI hj hn).mp h2
    exact vp_in_nI (by omega) hn
theorem q_nb {x : Int32} (h : x = 0 ∨ x = 1) : narrow .boolean (.int x) = .int x := by rcases h with rfl | rfl <;> rfl
/-- a row of chars -/
def isC (f : Nat → Int32) : Prop := ∀ k, narrow .char (.int (f k)) = .int (f k)
def f_X8_has (p0 : Int32) (p1 : Int32) : Int32 := (if ((p0 >>> (p1 &&& 31)) &&& 1) = 0 then 0 else 1)
abbrev rm_X8_has : Room := { frames := 0, cells := 0, slots := 0, locals := 0 }
set_option maxRecDepth 100000 in
set_option maxHeartbeats 4000000 in
theorem c_X8_has (l : Launch) (D : va_G) (cI cC cG : ClassId) (p0 : Int32) (p1 : Int32) : RoI l yX8_has wsX8_has rm_X8_has D (q_t cI cC cG) [] [.int p0, .int p1] (f_X8_has p0 p1) := by
  refine ro_enter (cc := cX8_has) (maxL := 2) (ret := (some .boolean)) (by decide) rfl (Nat.le_of_ble_eq_true rfl) ?_
  intro p e s m below meth c ls B hP hK hl
  obtain ⟨hx, hb, hr, hlocks, hml, hown, hts, hN⟩ := B
  have hS : va_S q_no s.heap s.heap [] := va_S.rf
  have hown : s.vm.findClass RX8 = some m.cls := hown
  have hl : lv_has ls 2 [(0, .int p0), (1, .int p1)] := hl
  refine lv_iload_n hx hb dX8_has_0 rfl (lv_at hl 0 rfl) ?_
  refine lv_iload_n hx hb dX8_has_1 rfl (lv_at hl 1 rfl) ?_
  refine lv_ishr hx hb dX8_has_2 ?_
  refine lv_iconst (v := 1) hx hb dX8_has_3 (by decide) ?_
  refine lv_iand hx hb dX8_has_4 ?_
  refine lv_if_eq (tgt := 12) hx hb dX8_has_5 (by decide) (fun c_1 => ?_) (fun c_1 => ?_)
  · refine lv_iconst (v := 0) hx hb dX8_has_12 (by decide) ?_
    exact ro_zret hx hb hr (by rfl) hlocks hS (by simp only [f_X8_has, if_pos c_1]) dX8_has_13
  refine lv_iconst (v := 1) hx hb dX8_has_8 (by decide) ?_
  refine lv_goto (tgt := 13) hx hb dX8_has_9 (by decide) ?_
  exact ro_zret hx hb hr (by rfl) hlocks hS (by simp only [f_X8_has, if_neg c_1]) dX8_has_13
def f_X8_care (p0 : Int32) (p1 : Int32) : Int32 := (if p0 = 1 then 2 else (if p0 = 2 then 0 else (if p0 = 3 then (if p1 < 2 then 0 else 1) else 1)))
abbrev rm_X8_care : Room := { frames := 0, cells := 0, slots := 0, locals := 0 }
set_option maxRecDepth 100000 in
set_option maxHeartbeats 4000000 in
theorem c_X8_care (l : Launch) (D : va_G) (cI cC cG : ClassId) (p0 : Int32) (p1 : Int32) : RoI l yX8_care wsX8_care rm_X8_care D (q_t cI cC cG) [] [.int p0, .int p1] (f_X8_care p0 p1) := by
  refine ro_enter (cc := cX8_care) (maxL := 2) (ret := (some .int)) (by decide) rfl (Nat.le_of_ble_eq_true rfl) ?_
  intro p e s m below meth c ls B hP hK hl
  obtain ⟨hx, hb, hr, hlocks, hml, hown, hts, hN⟩ := B
  have hS : va_S q_no s.heap s.heap [] := va_S.rf
  have hown : s.vm.findClass RX8 = some m.cls := hown
  have hl : lv_has ls 2 [(0, .int p0), (1, .int p1)] := hl
  refine lv_iload_n hx hb dX8_care_0 rfl (lv_at hl 0 rfl) ?_
  by_cases c_1 : p0 = 1
  · refine lv_tableIn (off := 27) (tgt := 28) hx hb dX8_care_1 (by rw [c_1]; decide) (by rw [c_1]; decide) (by rw [c_1]; decide) (by decide) ?_
    refine lv_iconst (v := 2) hx hb dX8_care_28 (by decide) ?_
    exact ro_iret hx hb hr hlocks hS (by simp only [f_X8_care, if_pos c_1]) dX8_care_29
  by_cases c_2 : p0 = 2
  · refine lv_tableIn (off := 29) (tgt := 30) hx hb dX8_care_1 (by rw [c_2]; decide) (by rw [c_2]; decide) (by rw [c_2]; decide) (by decide) ?_
    refine lv_iconst (v := 0) hx hb dX8_care_30 (by decide) ?_
    exact ro_iret hx hb hr hlocks hS (by simp only [f_X8_care, if_neg c_1, if_pos c_2]) dX8_care_31
  by_cases c_3 : p0 = 3
  · refine lv_tableIn (off := 31) (tgt := 32) hx hb dX8_care_1 (by rw [c_3]; decide) (by rw [c_3]; decide) (by rw [c_3]; decide) (by decide) ?_
    refine lv_iload_n hx hb dX8_care_32 rfl (lv_at hl 1 rfl) ?_
    refine lv_iconst (v := 2) hx hb dX8_care_33 (by decide) ?_
    refine lv_icmp_lt (tgt := 41) hx hb dX8_care_34 (by decide) (fun c_4 => ?_) (fun c_4 => ?_)
    · refine lv_iconst (v := 0) hx hb dX8_care_41 (by decide) ?_
      exact ro_iret hx hb hr hlocks hS (by simp only [f_X8_care, if_neg c_1, if_neg c_2, if_pos c_3, if_pos c_4]) dX8_care_42
    refine lv_iconst (v := 1) hx hb dX8_care_37 (by decide) ?_
    refine lv_goto (tgt := 42) hx hb dX8_care_38 (by decide) ?_
    exact ro_iret hx hb hr hlocks hS (by simp only [f_X8_care, if_neg c_1, if_neg c_2, if_pos c_3, if_neg c_4]) dX8_care_42
  refine lv_tableOut (tgt := 43) hx hb dX8_care_1 (by have t0 := lv_neT (a := 1) c_1 rfl; have t1 := lv_neT (a := 2) c_2 rfl; have t2 := lv_neT (a := 3) c_3 rfl; omega) (by decide) ?_
  refine lv_iconst (v := 1) hx hb dX8_care_43 (by decide) ?_
  exact ro_iret hx hb hr hlocks hS (by simp only [f_X8_care, if_neg c_1, if_neg c_2, if_neg c_3]) dX8_care_44
def F_X8_careForMany_5 (x0 : Int32) (x1 : Int32) (i0_ : Int32) : Nat → Int32
  | 0 => i0_
  | j5_ + 1 => ((F_X8_careForMany_5 x0 x1 i0_ j5_) + (f_X8_care x0 (x1 + (nI j5_))))
def f_X8_careForMany (p0 : Int32) (p1 : Int32) (p2 : Int32) : Int32 := (F_X8_careForMany_5 p0 p1 0 (Int32.toNatClampNeg p2))
abbrev rm_X8_careForMany : Room := { frames := 1, cells := 0, slots := 0, locals := 21 }
set_option maxRecDepth 100000 in
set_option maxHeartbeats 4000000 in
theorem c_X8_careForMany (l : Launch) (D : va_G) (cI cC cG : ClassId) (p0 : Int32) (p1 : Int32) (p2 : Int32) : RoI l yX8_careForMany wsX8_careForMany rm_X8_careForMany D (q_t cI cC cG) [] [.int p0, .int p1, .int p2] (f_X8_careForMany p0 p1 p2) := by
  refine ro_enter (cc := cX8_careForMany) (maxL := 5) (ret := (some .int)) (by decide) rfl (Nat.le_of_ble_eq_true rfl) ?_
  intro p e s m below meth c ls B hP hK hl
  obtain ⟨hx, hb, hr, hlocks, hml, hown, hts, hN⟩ := B
  have hS : va_S q_no s.heap s.heap [] := va_S.rf
  have hown : s.vm.findClass RX8 = some m.cls := hown
  have hl : lv_has ls 5 [(0, .int p0), (1, .int p1), (2, .int p2)] := hl
  refine lv_iconst (v := 0) hx hb dX8_careForMany_0 (by decide) ?_
  refine lv_istore_n (lv' := [(3, .int 0), (0, .int p0), (1, .int p1), (2, .int p2)]) hx hb dX8_careForMany_1 rfl hl (by decide) rfl (fun ls hl => ?_)
  refine lv_iconst (v := 0) hx hb dX8_careForMany_2 (by decide) ?_
  refine lv_istore (lv' := [(4, .int 0), (3, .int 0), (0, .int p0), (1, .int p1), (2, .int p2)]) hx hb dX8_careForMany_3 hl (by decide) rfl (fun ls hl => ?_)
  have K5_ : ∀ (H : Heap) (locs : List Loc), va_P D vwCl [] H → va_S q_no s.heap H locs → ∀ ls : Array Slot, lv_has ls 5 [(3, .int (F_X8_careForMany_5 p0 p1 0 (Int32.toNatClampNeg p2)))] → W p l e rm_X8_careForMany s m ([.int p0, .int p1, .int p2] : List Value).toArray below meth c H locs 0 0 (MQ below (q_Qi (f_X8_careForMany p0 p1 p2)) ([.int p0, .int p1, .int p2] : List Value).toArray s 0 0 q_no) (F0 m 28 ls []) := by
    intro H locs hP hS ls hl
    refine lv_iload_n hx hb dX8_careForMany_28 rfl (lv_at hl 0 rfl) ?_
    exact ro_iret hx hb hr hlocks hS (by simp only [f_X8_careForMany]) dX8_careForMany_29
  have loop5_ : ∀ (n5_ j5_ : Nat), j5_ + n5_ = (Int32.toNatClampNeg p2) → ∀ (H : Heap) (locs : List Loc), va_P D vwCl [] H → va_S q_no s.heap H locs → ∀ ls : Array Slot, lv_has ls 5 [(0, .int p0), (1, .int p1), (2, .int p2), (3, .int (F_X8_careForMany_5 p0 p1 0 j5_)), (4, .int (nI j5_))] → W p l e rm_X8_careForMany s m ([.int p0, .int p1, .int p2] : List Value).toArray below meth c H locs 0 0 (MQ below (q_Qi (f_X8_careForMany p0 p1 p2)) ([.int p0, .int p1, .int p2] : List Value).toArray s 0 0 q_no) (F0 m 5 ls []) := by
    intro n5_
    induction n5_ with
    | zero =>
      intro j5_ hj5_ H locs hP hS ls hl
      obtain rfl : j5_ = (Int32.toNatClampNeg p2) := by omega
      refine lv_iload hx hb dX8_careForMany_5 (lv_at hl 4 rfl) ?_
      refine lv_iload_n hx hb dX8_careForMany_7 rfl (lv_at hl 2 rfl) ?_
      refine lv_icmp_ge (tgt := 28) hx hb dX8_careForMany_8 (by decide) (fun c_1 => ?_) (fun c_1 => ?_)
      rotate_left
      · exact absurd k_ge c_1
      exact K5_ _ _ hP hS _ (lv_sub hl [3] rfl)
    | succ n5_ ih5_ =>
      intro j5_ hj5_ H locs hP hS ls hl
      refine lv_iload hx hb dX8_careForMany_5 (lv_at hl 4 rfl) ?_
      refine lv_iload_n hx hb dX8_careForMany_7 rfl (lv_at hl 2 rfl) ?_
      refine lv_icmp_ge (tgt := 28) hx hb dX8_careForMany_8 (by decide) (fun c_2 => ?_) (fun c_2 => ?_)
      · exact absurd c_2 (k_le (by omega))
      refine lv_iload_n hx hb dX8_careForMany_11 rfl (lv_at hl 3 rfl) ?_
      refine lv_iload_n hx hb dX8_careForMany_12 rfl (lv_at hl 0 rfl) ?_
      refine lv_iload_n hx hb dX8_careForMany_13 rfl (lv_at hl 1 rfl) ?_
      refine lv_iload hx hb dX8_careForMany_14 (lv_at hl 4 rfl) ?_
      refine lv_iadd hx hb dX8_careForMany_16 ?_
      refine ro_i (va_runS (As := [.int p0, .int (p1 + (nI j5_))]) (rest := [.int (F_X8_careForMany_5 p0 p1 0 j5_)]) ⟨hx, hb, hml, hown, hts⟩ (c_X8_care l D cI cC cG p0 (p1 + (nI j5_))) (cwS 2 hts gX8_careForMany_X8_care rfl rfl rfl (by decide +kernel) ⟨Nat.le_of_ble_eq_true rfl, Nat.le_of_ble_eq_true rfl⟩) (q_preS hK hP hN [] rfl) rfl rfl hl.1 rfl (lv_room (Nat.le_of_ble_eq_true rfl)) dX8_careForMany_17 ⟨Nat.zero_le _, Nat.zero_le _⟩) hS hP (fun H locs hP hS => ?_)
      refine lv_iadd hx hb dX8_careForMany_20 ?_
      refine lv_istore_n (lv' := [(3, .int ((F_X8_careForMany_5 p0 p1 0 j5_) + (f_X8_care p0 (p1 + (nI j5_))))), (0, .int p0), (1, .int p1), (2, .int p2), (4, .int (nI j5_))]) hx hb dX8_careForMany_21 rfl hl (by decide) rfl (fun ls hl => ?_)
      refine lv_iinc (v := (nI (j5_ + 1))) (lv' := [(4, .int (nI (j5_ + 1))), (3, .int ((F_X8_careForMany_5 p0 p1 0 j5_) + (f_X8_care p0 (p1 + (nI j5_))))), (0, .int p0), (1, .int p1), (2, .int p2)]) hx hb dX8_careForMany_22 hl (k := 4) rfl (nI_1 _) (by decide) rfl (fun ls hl => ?_)
      refine lv_goto (tgt := 5) hx hb dX8_careForMany_25 (by decide) ?_
      have e_3 : (F_X8_careForMany_5 p0 p1 0 (j5_ + 1)) = ((F_X8_careForMany_5 p0 p1 0 j5_) + (f_X8_care p0 (p1 + (nI j5_)))) := by simp only [F_X8_careForMany_5]
      exact ih5_ (j5_ + 1) (by omega) _ _ hP hS _ (by rw [e_3]; exact (lv_sub hl [2, 3, 4, 1, 0] rfl))
  exact loop5_ (Int32.toNatClampNeg p2) 0 (by omega) _ _ hP hS _ (lv_sub hl [2, 3, 4, 1, 0] rfl)
def L_X8_lowestOf_2 (x0 : Int32) : Nat → Nat → Int32
  | 0, j2_ => (-4)
  | n2_ + 1, j2_ => (if (f_X8_has x0 (nI j2_)) = 0 then L_X8_lowestOf_2 x0 n2_ (j2_ + 1)  else (nI j2_))
def f_X8_lowestOf (p0 : Int32) : Int32 := (L_X8_lowestOf_2 p0 6 0)
abbrev rm_X8_lowestOf : Room := { frames := 1, cells := 0, slots := 0, locals := 21 }
set_option maxRecDepth 100000 in
set_option maxHeartbeats 4000000 in
theorem c_X8_lowestOf (l : Launch) (D : va_G) (cI cC cG : ClassId) (p0 : Int32) : RoI l yX8_lowestOf wsX8_lowestOf rm_X8_lowestOf D (q_t cI cC cG) [] [.int p0] (f_X8_lowestOf p0) := by
  refine ro_enter (cc := cX8_lowestOf) (maxL := 2) (ret := (some .int)) (by decide) rfl (Nat.le_of_ble_eq_true rfl) ?_
  intro p e s m below meth c ls B hP hK hl
  obtain ⟨hx, hb, hr, hlocks, hml, hown, hts, hN⟩ := B
  have hS : va_S q_no s.heap s.heap [] := va_S.rf
  have hown : s.vm.findClass RX8 = some m.cls := hown
  have hl : lv_has ls 2 [(0, .int p0)] := hl
  refine lv_iconst (v := 0) hx hb dX8_lowestOf_0 (by decide) ?_
  refine lv_istore_n (lv' := [(1, .int 0), (0, .int p0)]) hx hb dX8_lowestOf_1 rfl hl (by decide) rfl (fun ls hl => ?_)
  have hr2_ : (f_X8_lowestOf p0) = (L_X8_lowestOf_2 p0 6 0) := by simp only [f_X8_lowestOf]
  have loop2_ : ∀ (n2_ j2_ : Nat), j2_ + n2_ = 6 → (L_X8_lowestOf_2 p0 n2_ j2_) = (L_X8_lowestOf_2 p0 6 0) → ∀ (H : Heap) (locs : List Loc), va_P D vwCl [] H → va_S q_no s.heap H locs → ∀ ls : Array Slot, lv_has ls 2 [(0, .int p0), (1, .int (nI j2_))] → W p l e rm_X8_lowestOf s m ([.int p0] : List Value).toArray below meth c H locs 0 0 (MQ below (q_Qi (f_X8_lowestOf p0)) ([.int p0] : List Value).toArray s 0 0 q_no) (F0 m 2 ls []) := by
    intro n2_
    induction n2_ with
    | zero =>
      intro j2_ hj2_ hv2_ H locs hP hS ls hl
      obtain rfl : j2_ = 6 := by omega
      refine lv_iload_n hx hb dX8_lowestOf_2 rfl (lv_at hl 1 rfl) ?_
      refine lv_bipush (v := 6) hx hb dX8_lowestOf_3 (by decide) ?_
      refine lv_icmp_ge (tgt := 24) hx hb dX8_lowestOf_5 (by decide) (fun c_1 => ?_) (fun c_1 => ?_)
      rotate_left
      · exact absurd (nI_le (Nat.le_refl 6) (by decide)) c_1
      refine lv_bipush (v := (-4)) hx hb dX8_lowestOf_24 (by decide) ?_
      exact ro_iret hx hb hr hlocks hS (by rw [hr2_, ← hv2_]; simp only [L_X8_lowestOf_2]) dX8_lowestOf_26
    | succ n2_ ih2_ =>
      intro j2_ hj2_ hv2_ H locs hP hS ls hl
      refine lv_iload_n hx hb dX8_lowestOf_2 rfl (lv_at hl 1 rfl) ?_
      refine lv_bipush (v := 6) hx hb dX8_lowestOf_3 (by decide) ?_
      refine lv_icmp_ge (tgt := 24) hx hb dX8_lowestOf_5 (by decide) (fun c_2 => ?_) (fun c_2 => ?_)
      · exact absurd c_2 (nI_ge (b := 6) (by omega) (by decide))
      refine lv_iload_n hx hb dX8_lowestOf_8 rfl (lv_at hl 0 rfl) ?_
      refine lv_iload_n hx hb dX8_lowestOf_9 rfl (lv_at hl 1 rfl) ?_
      refine ro_i (va_runS (As := [.int p0, .int (nI j2_)]) (rest := []) ⟨hx, hb, hml, hown, hts⟩ (c_X8_has l D cI cC cG p0 (nI j2_)) (cwS 2 hts gX8_lowestOf_X8_has rfl rfl rfl (by decide +kernel) ⟨Nat.le_of_ble_eq_true rfl, Nat.le_of_ble_eq_true rfl⟩) (q_preS hK hP hN [] rfl) rfl rfl hl.1 rfl (lv_room (Nat.le_of_ble_eq_true rfl)) dX8_lowestOf_10 ⟨Nat.zero_le _, Nat.zero_le _⟩) hS hP (fun H locs hP hS => ?_)
      refine lv_if_eq (tgt := 18) hx hb dX8_lowestOf_13 (by decide) (fun c_3 => ?_) (fun c_3 => ?_)
      · refine lv_iinc (v := (nI (j2_ + 1))) (lv' := [(1, .int (nI (j2_ + 1))), (0, .int p0)]) hx hb dX8_lowestOf_18 hl (k := 1) rfl (nI_1 _) (by decide) rfl (fun ls hl => ?_)
        refine lv_goto (tgt := 2) hx hb dX8_lowestOf_21 (by decide) ?_
        exact ih2_ (j2_ + 1) (by omega) (by rw [← hv2_]; simp only [L_X8_lowestOf_2, if_pos c_3]) _ _ hP hS _ (lv_sub hl [1, 0] rfl)
      refine lv_iload_n hx hb dX8_lowestOf_16 rfl (lv_at hl 1 rfl) ?_
      exact ro_iret hx hb hr hlocks hS (by rw [hr2_, ← hv2_]; simp only [L_X8_lowestOf_2, if_neg c_3]) dX8_lowestOf_17
  exact loop2_ 6 0 (by omega) rfl _ _ hP hS _ (lv_sub hl [1, 0] rfl)
def f_J6_bitCount_0f7a4 (p0 : Int32) : Int32 := ((((((((p0 - ((Int32.toUInt32 p0 >>> (Int32.toUInt32 1 &&& Int32.toUInt32 31)).toInt32 &&& 1431655765)) &&& 858993459) + ((Int32.toUInt32 (p0 - ((Int32.toUInt32 p0 >>> (Int32.toUInt32 1 &&& Int32.toUInt32 31)).toInt32 &&& 1431655765)) >>> (Int32.toUInt32 2 &&& Int32.toUInt32 31)).toInt32 &&& 858993459)) + (Int32.toUInt32 (((p0 - ((Int32.toUInt32 p0 >>> (Int32.toUInt32 1 &&& Int32.toUInt32 31)).toInt32 &&& 1431655765)) &&& 858993459) + ((Int32.toUInt32 (p0 - ((Int32.toUInt32 p0 >>> (Int32.toUInt32 1 &&& Int32.toUInt32 31)).toInt32 &&& 1431655765)) >>> (Int32.toUInt32 2 &&& Int32.toUInt32 31)).toInt32 &&& 858993459)) >>> (Int32.toUInt32 4 &&& Int32.toUInt32 31)).toInt32) &&& 252645135) + (Int32.toUInt32 (((((p0 - ((Int32.toUInt32 p0 >>> (Int32.toUInt32 1 &&& Int32.toUInt32 31)).toInt32 &&& 1431655765)) &&& 858993459) + ((Int32.toUInt32 (p0 - ((Int32.toUInt32 p0 >>> (Int32.toUInt32 1 &&& Int32.toUInt32 31)).toInt32 &&& 1431655765)) >>> (Int32.toUInt32 2 &&& Int32.toUInt32 31)).toInt32 &&& 858993459)) + (Int32.toUInt32 (((p0 - ((Int32.toUInt32 p0 >>> (Int32.toUInt32 1 &&& Int32.toUInt32 31)).toInt32 &&& 1431655765)) &&& 858993459) + ((Int32.toUInt32 (p0 - ((Int32.toUInt32 p0 >>> (Int32.toUInt32 1 &&& Int32.toUInt32 31)).toInt32 &&& 1431655765)) >>> (Int32.toUInt32 2 &&& Int32.toUInt32 31)).toInt32 &&& 858993459)) >>> (Int32.toUInt32 4 &&& Int32.toUInt32 31)).toInt32) &&& 252645135) >>> (Int32.toUInt32 8 &&& Int32.toUInt32 31)).toInt32) + (Int32.toUInt32 ((((((p0 - ((Int32.toUInt32 p0 >>> (Int32.toUInt32 1 &&& Int32.toUInt32 31)).toInt32 &&& 1431655765)) &&& 858993459) + ((Int32.toUInt32 (p0 - ((Int32.toUInt32 p0 >>> (Int32.toUInt32 1 &&& Int32.toUInt32 31)).toInt32 &&& 1431655765)) >>> (Int32.toUInt32 2 &&& Int32.toUInt32 31)).toInt32 &&& 858993459)) + (Int32.toUInt32 (((p0 - ((Int32.toUInt32 p0 >>> (Int32.toUInt32 1 &&& Int32.toUInt32 31)).toInt32 &&& 1431655765)) &&& 858993459) + ((Int32.toUInt32 (p0 - ((Int32.toUInt32 p0 >>> (Int32.toUInt32 1 &&& Int32.toUInt32 31)).toInt32 &&& 1431655765)) >>> (Int32.toUInt32 2 &&& Int32.toUInt32 31)).toInt32 &&& 858993459)) >>> (Int32.toUInt32 4 &&& Int32.toUInt32 31)).toInt32) &&& 252645135) + (Int32.toUInt32 (((((p0 - ((Int32.toUInt32 p0 >>> (Int32.toUInt32 1 &&& Int32.toUInt32 31)).toInt32 &&& 1431655765)) &&& 858993459) + ((Int32.toUInt32 (p0 - ((Int32.toUInt32 p0 >>> (Int32.toUInt32 1 &&& Int32.toUInt32 31)).toInt32 &&& 1431655765)) >>> (Int32.toUInt32 2 &&& Int32.toUInt32 31)).toInt32 &&& 858993459)) + (Int32.toUInt32 (((p0 - ((Int32.toUInt32 p0 >>> (Int32.toUInt32 1 &&& Int32.toUInt32 31)).toInt32 &&& 1431655765)) &&& 858993459) + ((Int32.toUInt32 (p0 - ((Int32.toUInt32 p0 >>> (Int32.toUInt32 1 &&& Int32.toUInt32 31)).toInt32 &&& 1431655765)) >>> (Int32.toUInt32 2 &&& Int32.toUInt32 31)).toInt32 &&& 858993459)) >>> (Int32.toUInt32 4 &&& Int32.toUInt32 31)).toInt32) &&& 252645135) >>> (Int32.toUInt32 8 &&& Int32.toUInt32 31)).toInt32) >>> (Int32.toUInt32 16 &&& Int32.toUInt32 31)).toInt32) &&& 63)
abbrev rm_J6_bitCount_0f7a4 : Room := { frames := 0, cells := 0, slots := 0, locals := 0 }
set_option maxRecDepth 100000 in
set_option maxHeartbeats 4000000 in
theorem c_J6_bitCount_0f7a4 (l : Launch) (D : va_G) (cI cC cG : ClassId) (p0 : Int32) : RoI l yJ6_bitCount_0f7a4 wsJ6_bitCount_0f7a4 rm_J6_bitCount_0f7a4 D (q_t cI cC cG) [] [.int p0] (f_J6_bitCount_0f7a4 p0) := by
  refine ro_enter (cc := cJ6_bitCount_0f7a4) (maxL := 1) (ret := (some .int)) (by decide) rfl (Nat.le_of_ble_eq_true rfl) ?_
  intro p e s m below meth c ls B hP hK hl
  obtain ⟨hx, hb, hr, hlocks, hml, hown, hts, hN⟩ := B
  have hS : va_S q_no s.heap s.heap [] := va_S.rf
  have hown : s.vm.findClass RJ6 = some m.cls := hown
  have hl : lv_has ls 1 [(0, .int p0)] := hl
  have hc265 := hts (.constant RJ6 265 (1431655765)) (by decide +kernel)
  have hc266 := hts (.constant RJ6 266 (858993459)) (by decide +kernel)
  have hc267 := hts (.constant RJ6 267 (252645135)) (by decide +kernel)
  refine lv_iload_n hx hb dJ6_bitCount_0f7a4_0 rfl (lv_at hl 0 rfl) ?_
  refine lv_iload_n hx hb dJ6_bitCount_0f7a4_1 rfl (lv_at hl 0 rfl) ?_
  refine lv_iconst (v := 1) hx hb dJ6_bitCount_0f7a4_2 (by decide) ?_
  refine lv_iushr (v := (Int32.toUInt32 p0 >>> (Int32.toUInt32 1 &&& Int32.toUInt32 31)).toInt32) hx hb dJ6_bitCount_0f7a4_3 rfl ?_
  refine lv_ldcw hx hb hown hc265 dJ6_bitCount_0f7a4_4 ?_
  refine lv_iand hx hb dJ6_bitCount_0f7a4_7 ?_
  refine lv_isub hx hb dJ6_bitCount_0f7a4_8 ?_
  refine lv_istore_n (lv' := [(0, .int (p0 - ((Int32.toUInt32 p0 >>> (Int32.toUInt32 1 &&& Int32.toUInt32 31)).toInt32 &&& 1431655765)))]) hx hb dJ6_bitCount_0f7a4_9 rfl hl (by decide) rfl (fun ls hl => ?_)
  refine lv_iload_n hx hb dJ6_bitCount_0f7a4_10 rfl (lv_at hl 0 rfl) ?_
  refine lv_ldcw hx hb hown hc266 dJ6_bitCount_0f7a4_11 ?_
  refine lv_iand hx hb dJ6_bitCount_0f7a4_14 ?_
  refine lv_iload_n hx hb dJ6_bitCount_0f7a4_15 rfl (lv_at hl 0 rfl) ?_
  refine lv_iconst (v := 2) hx hb dJ6_bitCount_0f7a4_16 (by decide) ?_
  refine lv_iushr (v := (Int32.toUInt32 (p0 - ((Int32.toUInt32 p0 >>> (Int32.toUInt32 1 &&& Int32.toUInt32 31)).toInt32 &&& 1431655765)) >>> (Int32.toUInt32 2 &&& Int32.toUInt32 31)).toInt32) hx hb dJ6_bitCount_0f7a4_17 rfl ?_
  refine lv_ldcw hx hb hown hc266 dJ6_bitCount_0f7a4_18 ?_
  refine lv_iand hx hb dJ6_bitCount_0f7a4_21 ?_
  refine lv_iadd hx hb dJ6_bitCount_0f7a4_22 ?_
  refine lv_istore_n (lv' := [(0, .int (((p0 - ((Int32.toUInt32 p0 >>> (Int32.toUInt32 1 &&& Int32.toUInt32 31)).toInt32 &&& 1431655765)) &&& 858993459) + ((Int32.toUInt32 (p0 - ((Int32.toUInt32 p0 >>> (Int32.toUInt32 1 &&& Int32.toUInt32 31)).toInt32 &&& 1431655765)) >>> (Int32.toUInt32 2 &&& Int32.toUInt32 31)).toInt32 &&& 858993459)))]) hx hb dJ6_bitCount_0f7a4_23 rfl hl (by decide) rfl (fun ls hl => ?_)
  refine lv_iload_n hx hb dJ6_bitCount_0f7a4_24 rfl (lv_at hl 0 rfl) ?_
  refine lv_iload_n hx hb dJ6_bitCount_0f7a4_25 rfl (lv_at hl 0 rfl) ?_
  refine lv_iconst (v := 4) hx hb dJ6_bitCount_0f7a4_26 (by decide) ?_
  refine lv_iushr (v := (Int32.toUInt32 (((p0 - ((Int32.toUInt32 p0 >>> (Int32.toUInt32 1 &&& Int32.toUInt32 31)).toInt32 &&& 1431655765)) &&& 858993459) + ((Int32.toUInt32 (p0 - ((Int32.toUInt32 p0 >>> (Int32.toUInt32 1 &&& Int32.toUInt32 31)).toInt32 &&& 1431655765)) >>> (Int32.toUInt32 2 &&& Int32.toUInt32 31)).toInt32 &&& 858993459)) >>> (Int32.toUInt32 4 &&& Int32.toUInt32 31)).toInt32) hx hb dJ6_bitCount_0f7a4_27 rfl ?_
  refine lv_iadd hx hb dJ6_bitCount_0f7a4_28 ?_
  refine lv_ldcw hx hb hown hc267 dJ6_bitCount_0f7a4_29 ?_
  refine lv_iand hx hb dJ6_bitCount_0f7a4_32 ?_
  refine lv_istore_n (lv' := [(0, .int (((((p0 - ((Int32.toUInt32 p0 >>> (Int32.toUInt32 1 &&& Int32.toUInt32 31)).toInt32 &&& 1431655765)) &&& 858993459) + ((Int32.toUInt32 (p0 - ((Int32.toUInt32 p0 >>> (Int32.toUInt32 1 &&& Int32.toUInt32 31)).toInt32 &&& 1431655765)) >>> (Int32.toUInt32 2 &&& Int32.toUInt32 31)).toInt32 &&& 858993459)) + (Int32.toUInt32 (((p0 - ((Int32.toUInt32 p0 >>> (Int32.toUInt32 1 &&& Int32.toUInt32 31)).toInt32 &&& 1431655765)) &&& 858993459) + ((Int32.toUInt32 (p0 - ((Int32.toUInt32 p0 >>> (Int32.toUInt32 1 &&& Int32.toUInt32 31)).toInt32 &&& 1431655765)) >>> (Int32.toUInt32 2 &&& Int32.toUInt32 31)).toInt32 &&& 858993459)) >>> (Int32.toUInt32 4 &&& Int32.toUInt32 31)).toInt32) &&& 252645135))]) hx hb dJ6_bitCount_0f7a4_33 rfl hl (by decide) rfl (fun ls hl => ?_)
  refine lv_iload_n hx hb dJ6_bitCount_0f7a4_34 rfl (lv_at hl 0 rfl) ?_
  refine lv_iload_n hx hb dJ6_bitCount_0f7a4_35 rfl (lv_at hl 0 rfl) ?_
  refine lv_bipush (v := 8) hx hb dJ6_bitCount_0f7a4_36 (by decide) ?_
  refine lv_iushr (v := (Int32.toUInt32 (((((p0 - ((Int32.toUInt32 p0 >>> (Int32.toUInt32 1 &&& Int32.toUInt32 31)).toInt32 &&& 1431655765)) &&& 858993459) + ((Int32.toUInt32 (p0 - ((Int32.toUInt32 p0 >>> (Int32.toUInt32 1 &&& Int32.toUInt32 31)).toInt32 &&& 1431655765)) >>> (Int32.toUInt32 2 &&& Int32.toUInt32 31)).toInt32 &&& 858993459)) + (Int32.toUInt32 (((p0 - ((Int32.toUInt32 p0 >>> (Int32.toUInt32 1 &&& Int32.toUInt32 31)).toInt32 &&& 1431655765)) &&& 858993459) + ((Int32.toUInt32 (p0 - ((Int32.toUInt32 p0 >>> (Int32.toUInt32 1 &&& Int32.toUInt32 31)).toInt32 &&& 1431655765)) >>> (Int32.toUInt32 2 &&& Int32.toUInt32 31)).toInt32 &&& 858993459)) >>> (Int32.toUInt32 4 &&& Int32.toUInt32 31)).toInt32) &&& 252645135) >>> (Int32.toUInt32 8 &&& Int32.toUInt32 31)).toInt32) hx hb dJ6_bitCount_0f7a4_38 rfl ?_
  refine lv_iadd hx hb dJ6_bitCount_0f7a4_39 ?_
  refine lv_istore_n (lv' := [(0, .int ((((((p0 - ((Int32.toUInt32 p0 >>> (Int32.toUInt32 1 &&& Int32.toUInt32 31)).toInt32 &&& 1431655765)) &&& 858993459) + ((Int32.toUInt32 (p0 - ((Int32.toUInt32 p0 >>> (Int32.toUInt32 1 &&& Int32.toUInt32 31)).toInt32 &&& 1431655765)) >>> (Int32.toUInt32 2 &&& Int32.toUInt32 31)).toInt32 &&& 858993459)) + (Int32.toUInt32 (((p0 - ((Int32.toUInt32 p0 >>> (Int32.toUInt32 1 &&& Int32.toUInt32 31)).toInt32 &&& 1431655765)) &&& 858993459) + ((Int32.toUInt32 (p0 - ((Int32.toUInt32 p0 >>> (Int32.toUInt32 1 &&& Int32.toUInt32 31)).toInt32 &&& 1431655765)) >>> (Int32.toUInt32 2 &&& Int32.toUInt32 31)).toInt32 &&& 858993459)) >>> (Int32.toUInt32 4 &&& Int32.toUInt32 31)).toInt32) &&& 252645135) + (Int32.toUInt32 (((((p0 - ((Int32.toUInt32 p0 >>> (Int32.toUInt32 1 &&& Int32.toUInt32 31)).toInt32 &&& 1431655765)) &&& 858993459) + ((Int32.toUInt32 (p0 - ((Int32.toUInt32 p0 >>> (Int32.toUInt32 1 &&& Int32.toUInt32 31)).toInt32 &&& 1431655765)) >>> (Int32.toUInt32 2 &&& Int32.toUInt32 31)).toInt32 &&& 858993459)) + (Int32.toUInt32 (((p0 - ((Int32.toUInt32 p0 >>> (Int32.toUInt32 1 &&& Int32.toUInt32 31)).toInt32 &&& 1431655765)) &&& 858993459) + ((Int32.toUInt32 (p0 - ((Int32.toUInt32 p0 >>> (Int32.toUInt32 1 &&& Int32.toUInt32 31)).toInt32 &&& 1431655765)) >>> (Int32.toUInt32 2 &&& Int32.toUInt32 31)).toInt32 &&& 858993459)) >>> (Int32.toUInt32 4 &&& Int32.toUInt32 31)).toInt32) &&& 252645135) >>> (Int32.toUInt32 8 &&& Int32.toUInt32 31)).toInt32))]) hx hb dJ6_bitCount_0f7a4_40 rfl hl (by decide) rfl (fun ls hl => ?_)
  refine lv_iload_n hx hb dJ6_bitCount_0f7a4_41 rfl (lv_at hl 0 rfl) ?_
  refine lv_iload_n hx hb dJ6_bitCount_0f7a4_42 rfl (lv_at hl 0 rfl) ?_
  refine lv_bipush (v := 16) hx hb dJ6_bitCount_0f7a4_43 (by decide) ?_
  refine lv_iushr (v := (Int32.toUInt32 ((((((p0 - ((Int32.toUInt32 p0 >>> (Int32.toUInt32 1 &&& Int32.toUInt32 31)).toInt32 &&& 1431655765)) &&& 858993459) + ((Int32.toUInt32 (p0 - ((Int32.toUInt32 p0 >>> (Int32.toUInt32 1 &&& Int32.toUInt32 31)).toInt32 &&& 1431655765)) >>> (Int32.toUInt32 2 &&& Int32.toUInt32 31)).toInt32 &&& 858993459)) + (Int32.toUInt32 (((p0 - ((Int32.toUInt32 p0 >>> (Int32.toUInt32 1 &&& Int32.toUInt32 31)).toInt32 &&& 1431655765)) &&& 858993459) + ((Int32.toUInt32 (p0 - ((Int32.toUInt32 p0 >>> (Int32.toUInt32 1 &&& Int32.toUInt32 31)).toInt32 &&& 1431655765)) >>> (Int32.toUInt32 2 &&& Int32.toUInt32 31)).toInt32 &&& 858993459)) >>> (Int32.toUInt32 4 &&& Int32.toUInt32 31)).toInt32) &&& 252645135) + (Int32.toUInt32 (((((p0 - ((Int32.toUInt32 p0 >>> (Int32.toUInt32 1 &&& Int32.toUInt32 31)).toInt32 &&& 1431655765)) &&& 858993459) + ((Int32.toUInt32 (p0 - ((Int32.toUInt32 p0 >>> (Int32.toUInt32 1 &&& Int32.toUInt32 31)).toInt32 &&& 1431655765)) >>> (Int32.toUInt32 2 &&& Int32.toUInt32 31)).toInt32 &&& 858993459)) + (Int32.toUInt32 (((p0 - ((Int32.toUInt32 p0 >>> (Int32.toUInt32 1 &&& Int32.toUInt32 31)).toInt32 &&& 1431655765)) &&& 858993459) + ((Int32.toUInt32 (p0 - ((Int32.toUInt32 p0 >>> (Int32.toUInt32 1 &&& Int32.toUInt32 31)).toInt32 &&& 1431655765)) >>> (Int32.toUInt32 2 &&& Int32.toUInt32 31)).toInt32 &&& 858993459)) >>> (Int32.toUInt32 4 &&& Int32.toUInt32 31)).toInt32) &&& 252645135) >>> (Int32.toUInt32 8 &&& Int32.toUInt32 31)).toInt32) >>> (Int32.toUInt32 16 &&& Int32.toUInt32 31)).toInt32) hx hb dJ6_bitCount_0f7a4_45 rfl ?_
  refine lv_iadd hx hb dJ6_bitCount_0f7a4_46 ?_
  refine lv_istore_n (lv' := [(0, .int (((((((p0 - ((Int32.toUInt32 p0 >>> (Int32.toUInt32 1 &&& Int32.toUInt32 31)).toInt32 &&& 1431655765)) &&& 858993459) + ((Int32.toUInt32 (p0 - ((Int32.toUInt32 p0 >>> (Int32.toUInt32 1 &&& Int32.toUInt32 31)).toInt32 &&& 1431655765)) >>> (Int32.toUInt32 2 &&& Int32.toUInt32 31)).toInt32 &&& 858993459)) + (Int32.toUInt32 (((p0 - ((Int32.toUInt32 p0 >>> (Int32.toUInt32 1 &&& Int32.toUInt32 31)).toInt32 &&& 1431655765)) &&& 858993459) + ((Int32.toUInt32 (p0 - ((Int32.toUInt32 p0 >>> (Int32.toUInt32 1 &&& Int32.toUInt32 31)).toInt32 &&& 1431655765)) >>> (Int32.toUInt32 2 &&& Int32.toUInt32 31)).toInt32 &&& 858993459)) >>> (Int32.toUInt32 4 &&& Int32.toUInt32 31)).toInt32) &&& 252645135) + (Int32.toUInt32 (((((p0 - ((Int32.toUInt32 p0 >>> (Int32.toUInt32 1 &&& Int32.toUInt32 31)).toInt32 &&& 1431655765)) &&& 858993459) + ((Int32.toUInt32 (p0 - ((Int32.toUInt32 p0 >>> (Int32.toUInt32 1 &&& Int32.toUInt32 31)).toInt32 &&& 1431655765)) >>> (Int32.toUInt32 2 &&& Int32.toUInt32 31)).toInt32 &&& 858993459)) + (Int32.toUInt32 (((p0 - ((Int32.toUInt32 p0 >>> (Int32.toUInt32 1 &&& Int32.toUInt32 31)).toInt32 &&& 1431655765)) &&& 858993459) + ((Int32.toUInt32 (p0 - ((Int32.toUInt32 p0 >>> (Int32.toUInt32 1 &&& Int32.toUInt32 31)).toInt32 &&& 1431655765)) >>> (Int32.toUInt32 2 &&& Int32.toUInt32 31)).toInt32 &&& 858993459)) >>> (Int32.toUInt32 4 &&& Int32.toUInt32 31)).toInt32) &&& 252645135) >>> (Int32.toUInt32 8 &&& Int32.toUInt32 31)).toInt32) + (Int32.toUInt32 ((((((p0 - ((Int32.toUInt32 p0 >>> (Int32.toUInt32 1 &&& Int32.toUInt32 31)).toInt32 &&& 1431655765)) &&& 858993459) + ((Int32.toUInt32 (p0 - ((Int32.toUInt32 p0 >>> (Int32.toUInt32 1 &&& Int32.toUInt32 31)).toInt32 &&& 1431655765)) >>> (Int32.toUInt32 2 &&& Int32.toUInt32 31)).toInt32 &&& 858993459)) + (Int32.toUInt32 (((p0 - ((Int32.toUInt32 p0 >>> (Int32.toUInt32 1 &&& Int32.toUInt32 31)).toInt32 &&& 1431655765)) &&& 858993459) + ((Int32.toUInt32 (p0 - ((Int32.toUInt32 p0 >>> (Int32.toUInt32 1 &&& Int32.toUInt32 31)).toInt32 &&& 1431655765)) >>> (Int32.toUInt32 2 &&& Int32.toUInt32 31)).toInt32 &&& 858993459)) >>> (Int32.toUInt32 4 &&& Int32.toUInt32 31)).toInt32) &&& 252645135) + (Int32.toUInt32 (((((p0 - ((Int32.toUInt32 p0 >>> (Int32.toUInt32 1 &&& Int32.toUInt32 31)).toInt32 &&& 1431655765)) &&& 858993459) + ((Int32.toUInt32 (p0 - ((Int32.toUInt32 p0 >>> (Int32.toUInt32 1 &&& Int32.toUInt32 31)).toInt32 &&& 1431655765)) >>> (Int32.toUInt32 2 &&& Int32.toUInt32 31)).toInt32 &&& 858993459)) + (Int32.toUInt32 (((p0 - ((Int32.toUInt32 p0 >>> (Int32.toUInt32 1 &&& Int32.toUInt32 31)).toInt32 &&& 1431655765)) &&& 858993459) + ((Int32.toUInt32 (p0 - ((Int32.toUInt32 p0 >>> (Int32.toUInt32 1 &&& Int32.toUInt32 31)).toInt32 &&& 1431655765)) >>> (Int32.toUInt32 2 &&& Int32.toUInt32 31)).toInt32 &&& 858993459)) >>> (Int32.toUInt32 4 &&& Int32.toUInt32 31)).toInt32) &&& 252645135) >>> (Int32.toUInt32 8 &&& Int32.toUInt32 31)).toInt32) >>> (Int32.toUInt32 16 &&& Int32.toUInt32 31)).toInt32))]) hx hb dJ6_bitCount_0f7a4_47 rfl hl (by decide) rfl (fun ls hl => ?_)
  refine lv_iload_n hx hb dJ6_bitCount_0f7a4_48 rfl (lv_at hl 0 rfl) ?_
  refine lv_bipush (v := 63) hx hb dJ6_bitCount_0f7a4_49 (by decide) ?_
  refine lv_iand hx hb dJ6_bitCount_0f7a4_51 ?_
  exact ro_iret hx hb hr hlocks hS (by simp only [f_J6_bitCount_0f7a4]) dJ6_bitCount_0f7a4_52
