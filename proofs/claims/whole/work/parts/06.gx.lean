/-! methods that may throw: R.1 = 0: it returns R.2.1 in the state R.2.2; else it throws the exception of that number -/
abbrev XR : Type := Nat × Int32 × CS
def x_exc : Nat → String
  | 1 => "java/lang/IndexOutOfBoundsException"
  | 2 => "java/lang/IllegalArgumentException"
  | _ => "java/lang/IllegalStateException"
def x_obx (x : Option XR) (k : CS → Option XR) : Option XR := match x with
  | none => none
  | some q => if q.1 = 0 then k q.2.2 else some (q.1, 0, q.2.2)
theorem x_obx_of {x : Option XR} {k : CS → Option XR} {r : XR} (h : x_obx x k = some r) : ∃ q : XR, x = some q ∧ ((q.1 = 0 ∧ k q.2.2 = some r) ∨ (q.1 ≠ 0 ∧ some (q.1, (0 : Int32), q.2.2) = some r)) := by
  cases x with
  | none => cases h
  | some q =>
    refine ⟨q, rfl, ?_⟩
    unfold x_obx at h
    by_cases h0 : q.1 = 0
    · simp only [if_pos h0] at h
      exact Or.inl ⟨h0, h⟩
    · simp only [if_neg h0] at h
      exact Or.inr ⟨h0, h⟩
def x_strs : List (Nat × String) := [(79, "a grid has 2 to 4 columns and 2 to 4 rows"), (84, "a buffer has room for 1 to 3 packets"), (86, "the delay is 0 to 3 ticks"), (95, "the goal is the source"), (100, "the mode is 0 or 1"), (112, "the buffer is full"), (123, "the gap is not over"), (128, "80 packets were sent"), (141, "1 to 50 ticks are run at once"), (165, "there is no credit to lose"), (177, "an input is 0 to 4"), (211, "there is no such switch"), (217, "there is no link in this direction"), (219, "there is no such packet"), (221, "the lane is 0 or 1")]
def x_S (U : State) : Prop := ∀ q ∈ x_strs, ∃ sa : Nat, vk_R RX7 q.1 q.2 sa U
def x_Z (A : Nat → Prop) (U : State) (H : Heap) : Prop := vx_Zq Bundle.tN "UNASSIGNED_STACK" Bundle.steD A U H ∧ vx_Zq Bundle.tN "SUPPRESSED_SENTINEL" Bundle.listD A U H
def x_XX (l : Launch) (s : State) (c : Code) (A : Nat → Prop) : Prop := x_S s ∧ x_Z A s s.heap ∧ l.stackTraces = false ∧ ∀ x ∈ c.exceptionTable.toList, False
theorem x_S.warm {s U : State} (hW : s.WarmedH U.vm) (h : x_S s) : x_S U := fun q hq => (h q hq).elim fun sa h2 => ⟨sa, vk_R.warm hW h2⟩
theorem x_S.same {s U : State} (hv : U.vm = s.vm) (h : x_S s) : x_S U := fun q hq => (h q hq).elim fun sa h2 => ⟨sa, vk_R.same hv h2⟩
def x_BX (D : va_G) (tys : List (ClassId × FieldType)) (wld : CS → va_W) (σ : CS) (sz : Nat) (U : State) : Prop := x_B D tys wld σ sz U ∧ x_S U ∧ x_Z (va_A (wld σ) sz) U U.heap
theorem x_blindX {D : va_G} {tys : List (ClassId × FieldType)} {wld : CS → va_W} {av : List Value} {σ : CS} {sz : Nat} : FrameBlind (va_Pc av (x_BX D tys wld σ sz)) := fun a U g mk q => by
  obtain ⟨q0, ⟨q1, q2, q3, q4⟩, q5, q6, q7⟩ := q
  exact ⟨q0, ⟨q1, q2, x_K.same (s := U) (U := U.calling g mk a) rfl q3, q4⟩, x_S.same (s := U) (U := U.calling g mk a) rfl q5, vx_Zq.moved (u := U) (U := U.calling g mk a) (Vm.Alike.refl U.vm) q6, vx_Zq.moved (u := U) (U := U.calling g mk a) (Vm.Alike.refl U.vm) q7⟩
/-- the ends -/
def x_EX (D : va_G) (wld : CS → va_W) (A : Nat → Prop) (R : XR) : String → State → State → Prop := vx_X (fun _ : Unit => True) (fun E _ t => E = x_exc R.1 ∧ va_P D vwCl (wld R.2.2) t.heap ∧ va_D A (wld R.2.2)) A
def x_Rz (below : List Frame) (args : Array Value) (s : State) (A : Nat → Prop) (D : va_G) (wld : CS → va_W) (R : XR) : State → Prop := if R.1 = 0 then x_Ri below args s A D wld R.2.1 R.2.2 else vx_MQ below (fun _ _ _ _ => False) (x_EX D wld A R) args s 1 6 A
def x_Rzv (below : List Frame) (args : Array Value) (s : State) (A : Nat → Prop) (D : va_G) (wld : CS → va_W) (R : XR) : State → Prop := if R.1 = 0 then x_Rv below args s A D wld R.2.2 else vx_MQ below (fun _ _ _ _ => False) (x_EX D wld A R) args s 1 6 A
/-- a contract of a call that throws -/
def x_Mt (l : Launch) (y : MethodName) (ws : List Cond) (rm : Room) (D : va_G) (tys : List (ClassId × FieldType)) (wld : CS → va_W) (av : List Value) (σ : CS) (R : XR) : Prop :=
  ∀ sz : Nat, vx_Met l y ws rm (va_Pc av (x_BX D tys wld σ sz)) (fun _ _ _ _ => False) (x_EX D wld (va_A (wld σ) sz) R) 1 6 (va_A (wld σ) sz)
def x_Mz (l : Launch) (y : MethodName) (ws : List Cond) (rm : Nat → Nat → Room) (D : va_G) (tys : List (ClassId × FieldType)) (wld : CS → va_W) (av : List Value) (σ : CS) (R : XR) : Prop :=
  (R.1 = 0 → ∀ sz : Nat, Met l y ws (rm 0 0) (va_Pc av (x_BX D tys wld σ sz)) (va_Qi (fun (r1 : Int32) (_ : Unit) => r1 = R.2.1) (fun _ t => va_P D vwCl (wld R.2.2) t.heap ∧ va_D (va_A (wld σ) sz) (wld R.2.2)) (va_A (wld σ) sz)) 0 0 (va_A (wld σ) sz)) ∧ (R.1 ≠ 0 → x_Mt l y ws (rm 1 6) D tys wld av σ R)
def x_Mzv (l : Launch) (y : MethodName) (ws : List Cond) (rm : Nat → Nat → Room) (D : va_G) (tys : List (ClassId × FieldType)) (wld : CS → va_W) (av : List Value) (σ : CS) (R : XR) : Prop :=
  (R.1 = 0 → ∀ sz : Nat, Met l y ws (rm 0 0) (va_Pc av (x_BX D tys wld σ sz)) (va_Qv (fun (_ : Unit) => True) (fun _ t => va_P D vwCl (wld R.2.2) t.heap ∧ va_D (va_A (wld σ) sz) (wld R.2.2)) (va_A (wld σ) sz)) 0 0 (va_A (wld σ) sz)) ∧ (R.1 ≠ 0 → x_Mt l y ws (rm 1 6) D tys wld av σ R)
theorem x_noTab {p : Program} {l : Launch} {y : MethodName} {ws ws' : List Cond} {rm : Room} {cc : ByteArray} {maxL : Nat} {ret : Option FieldType} {e : Env} {s s₁ : State} {m : MethodId} {args : Array Value} {below : List Frame} {meth : Method} {c : Code} (B : BodyLoose p l y (headSpec ws rm) cc maxL ret e s m args below meth c s₁) (hw : ws = Cond.code y cc maxL ret :: ws') : ∀ x ∈ c.exceptionTable.toList, False := by
  obtain ⟨meth9, c9, h1, h2, -, -, -, -, h7, -⟩ := Cond.code_spec B.named (atoms_spec (ws := ws) B.pre _ (by rw [hw]; exact List.mem_cons_self))
  cases Option.some.inj (h1.symm.trans B.method)
  cases Option.some.inj (h2.symm.trans (Stand.of_body B).code)
  intro x hx
  rw [Array.isEmpty_iff.mp h7] at hx
  cases hx
section XTH
variable {p : Program} {l : Launch} {e : Env} {R : Room} {s : State} {m : MethodId} {args : Array Value} {below : List Frame} {meth : Method} {c : Code} {k n : Nat} {Q : State → Prop} {cc : ByteArray} {nL : Nat} {ret : Option FieldType} {own : String} {Ts : List Cond} {D : va_G} {tys : List (ClassId × FieldType)} {A : Nat → Prop} {wld : CS → va_W} {σ σ' : CS} {pc : Nat} {ls : Array Slot} {rest : List Value} {lv lv' : List (Nat × Value)}
theorem x_iretZ (X : x_X p s m args meth c cc nL ret own Ts D tys A) {v : Int32} {r : XR} {ty : FieldType} (hret : ret = some ty) (hn : narrow ty (.int v) = .int v) (hf : some ((0 : Nat), v, σ) = some r) (hdg : decode cc pc = .ok (.ireturn, 1)) : x_W p l e R s m args below meth c A D wld 0 0 (x_Rz below args s A D wld r) σ (F0 m pc ls [.int v]) := by
  cases Option.some.inj hf
  unfold x_Rz
  rw [if_pos rfl]
  exact x_iret X hret hn rfl hdg
theorem x_vretZ (X : x_X p s m args meth c cc nL ret own Ts D tys A) {v : Int32} {r : XR} (hret : ret = none) (hf : some ((0 : Nat), v, σ) = some r) (hdg : decode cc pc = .ok (.return_, 1)) : x_W p l e R s m args below meth c A D wld 0 0 (x_Rzv below args s A D wld r) σ (F0 m pc ls []) := by
  cases Option.some.inj hf
  unfold x_Rzv
  rw [if_pos rfl]
  exact x_vret (r := v) X hret rfl hdg
theorem x_thr (X : x_X p s m args meth c cc nL ret own Ts D tys A) (XX : x_XX l s c A) {r : XR} (h0 : r.1 ≠ 0) (hw : r.2.2 = σ) {ik is ic : Nat} {text : String} (hown : own = RX7) (hl : lv_has ls nL lv) (hst : (is, text) ∈ x_strs)
    (hk : Cond.classLink own ik (x_exc r.1) ∈ Ts) (hini : Cond.initialized (x_exc r.1) ∈ Ts) (hat : ∀ w ∈ (vx_atS own ic (x_exc r.1) ["java/lang/RuntimeException", "java/lang/Exception"]).filter goodWord, w ∈ Ts) (hcast : ∀ w ∈ (vx_atS own ic (x_exc r.1) ["java/lang/RuntimeException", "java/lang/Exception"]).filter (fun w => !goodWord w), w ∈ x_nest) (hon : ∀ w ∈ x_nest, w.onTables = true)
    (hgood : ∀ w ∈ Cond.classLink own ik (x_exc r.1) :: Cond.initialized (x_exc r.1) :: vx_atS own ic (x_exc r.1) ["java/lang/RuntimeException", "java/lang/Exception"], vx_ot w = true) (hfit : Bundle.fit (x_exc r.1) = true) (hnm : ∀ n ∈ ["java/lang/RuntimeException", "java/lang/Exception"], Bundle.fit n = true)
    (d0 : decode cc pc = .ok (.new ik, 3)) (d3 : decode cc (pc + 3) = .ok (.dup, 1)) (d4 : decode cc (pc + 4) = .ok (.ldc is, 2)) (d6 : decode cc (pc + 6) = .ok (.invokespecial ic, 3)) (d9 : decode cc (pc + 9) = .ok (.athrow, 1))
    (hRf : 5 < R.frames) (hRl : 82 ≤ R.locals) (hRc : 1 ≤ R.cells) (hRs : 6 ≤ R.slots) :
    x_W p l e R s m args below meth c A D wld 0 0 (vx_MQ below (fun _ _ _ _ => False) (x_EX D wld A r) args s 1 6 A) σ (F0 m pc ls []) := by
  intro H locs hP hD hS
  subst hown
  obtain ⟨sa, hsa⟩ := XX.1 _ hst
  refine vx_throwS X.1 X.2.1 XX.2.2.1 X.2.2.2.1 hfit hnm (X.2.2.2.2.1 _ hk) (X.2.2.2.2.1 _ hini) hsa (vx_hat (B := x_nest) (fun w hw => X.2.2.2.2.1 _ (hat w hw)) hcast (fun w hw => va_Nw.use (hon w hw) (X.2.2.2.2.2.1.2 w hw))) hgood XX.2.1.1 XX.2.1.2 hS (hl.1.trans X.2.2.1.symm) d0 d3 d4 d6 d9 (fun x hx => (XX.2.2.2 x hx).elim) hRf hRl (by omega) (by omega) X.2.2.2.2.2.2.2.2 (fun t ht hz hq => ?_) hS.2.2 (Nat.le_refl _) (Nat.le_refl _)
  refine ⟨(), trivial, ⟨rfl, ?_, ?_⟩, Nat.le_trans hS.1 hz, fun q h1 h2 => by rw [hq q (Nat.lt_of_lt_of_le h1 hS.1)]; exact hS.2.1 q h1 h2⟩
  · rw [hw]
    exact hP.kept fun j q hj => hq _ (vx_lt hP hj)
  · rw [hw]
    exact hD
theorem x_thrZ (X : x_X p s m args meth c cc nL ret own Ts D tys A) {r : XR} (h0 : r.1 ≠ 0) {g : JFrame} (kk : x_W p l e R s m args below meth c A D wld k n (vx_MQ below (fun _ _ _ _ => False) (x_EX D wld A r) args s 1 6 A) σ g) : x_W p l e R s m args below meth c A D wld k n (x_Rz below args s A D wld r) σ g := by
  unfold x_Rz
  rw [if_neg h0]
  exact kk
theorem x_thrZv (X : x_X p s m args meth c cc nL ret own Ts D tys A) {r : XR} (h0 : r.1 ≠ 0) {g : JFrame} (kk : x_W p l e R s m args below meth c A D wld k n (vx_MQ below (fun _ _ _ _ => False) (x_EX D wld A r) args s 1 6 A) σ g) : x_W p l e R s m args below meth c A D wld k n (x_Rzv below args s A D wld r) σ g := by
  unfold x_Rzv
  rw [if_neg h0]
  exact kk
theorem x_zVi (X : x_X p s m args meth c cc nL ret own Ts D tys A) (XX : x_XX l s c A) {y : MethodName} {bytes : ByteArray} {maxL index nn : Nat} {rt : Option FieldType} {ws : List Cond} {rm : Nat → Nat → Room} {As st : List Value} {b : Nat} {C : String} (q0 ci : Nat) {fs : List Value} {q : vw_C} (he : (wld σ)[q0]? = some (b, .inr (ci, fs))) (hc : vwCl[ci]? = some q) (hC : q.1 = C) {r : XR} (h0 : r.1 = 0) (hM : x_Mz l y ws rm D tys wld (.ref b :: As) σ r) (cw : CallW R s args own C index y bytes maxL rt ws (rm 0 0) 0 0 nn) (hn : As.length = nn) (hl : lv_has ls nL lv) (hst : st = As.reverse ++ .ref b :: rest) (hrm : (rest.map fun v => v.category).sum ≤ 8) (hkn : k ≤ R.cells ∧ n ≤ R.slots) (hdg : decode cc pc = .ok (.invokevirtual index, 3)) (kk : x_W p l e R s m args below meth c A D wld k n Q r.2.2 (F0 m (pc + 3) ls (.int r.2.1 :: rest))) : x_W p l e R s m args below meth c A D wld k n Q σ (F0 m pc ls st) := by
  intro H locs hP hD hS
  subst hC
  have hFc := x_fr X.2.2.2.2.2.2.1 hD hS
  refine va_calli (va_runV (As := As) (rest := rest) ⟨X.1, X.2.1, X.2.2.1, X.2.2.2.1, X.2.2.2.2.1⟩ (hM.1 h0 H.size) cw ⟨x_blindX, va_recv X.2.2.2.2.2.1.1 hP hc he, fun U hU hW => ⟨rfl, ⟨by rw [hU], by rw [hU]; exact hP, X.2.2.2.2.2.1.warm hW, hD.weaken (fun _ _ _ _ => trivial)⟩, XX.1.warm hW, by rw [hU]; exact ⟨vx_Zq.moved hW.alike ((XX.2.1.1.kept hS.2.1).narrow hFc), vx_Zq.moved hW.alike ((XX.2.1.2.kept hS.2.1).narrow hFc)⟩⟩⟩ rfl hn hl.1 hst (lv_room hrm) hdg hkn) hS (fun q _ h => hFc q h) hFc (fun r1 u t H1 locs1 ht hvm hw hB hz1 hk1 hS1 => ?_)
  obtain ⟨hP1, hD1⟩ := hB
  rw [ht] at hP1
  subst hw
  exact kk H1 locs1 hP1 (hD1.weaken (fun _ _ _ h => hFc _ h)) hS1
theorem x_zVv (X : x_X p s m args meth c cc nL ret own Ts D tys A) (XX : x_XX l s c A) {y : MethodName} {bytes : ByteArray} {maxL index nn : Nat} {rt : Option FieldType} {ws : List Cond} {rm : Nat → Nat → Room} {As st : List Value} {b : Nat} {C : String} (q0 ci : Nat) {fs : List Value} {q : vw_C} (he : (wld σ)[q0]? = some (b, .inr (ci, fs))) (hc : vwCl[ci]? = some q) (hC : q.1 = C) {r : XR} (h0 : r.1 = 0) (hM : x_Mzv l y ws rm D tys wld (.ref b :: As) σ r) (cw : CallW R s args own C index y bytes maxL rt ws (rm 0 0) 0 0 nn) (hn : As.length = nn) (hl : lv_has ls nL lv) (hst : st = As.reverse ++ .ref b :: rest) (hrm : (rest.map fun v => v.category).sum ≤ 8) (hkn : k ≤ R.cells ∧ n ≤ R.slots) (hdg : decode cc pc = .ok (.invokevirtual index, 3)) (kk : x_W p l e R s m args below meth c A D wld k n Q r.2.2 (F0 m (pc + 3) ls rest)) : x_W p l e R s m args below meth c A D wld k n Q σ (F0 m pc ls st) := by
  intro H locs hP hD hS
  subst hC
  have hFc := x_fr X.2.2.2.2.2.2.1 hD hS
  refine va_callv (va_runV (As := As) (rest := rest) ⟨X.1, X.2.1, X.2.2.1, X.2.2.2.1, X.2.2.2.2.1⟩ (hM.1 h0 H.size) cw ⟨x_blindX, va_recv X.2.2.2.2.2.1.1 hP hc he, fun U hU hW => ⟨rfl, ⟨by rw [hU], by rw [hU]; exact hP, X.2.2.2.2.2.1.warm hW, hD.weaken (fun _ _ _ _ => trivial)⟩, XX.1.warm hW, by rw [hU]; exact ⟨vx_Zq.moved hW.alike ((XX.2.1.1.kept hS.2.1).narrow hFc), vx_Zq.moved hW.alike ((XX.2.1.2.kept hS.2.1).narrow hFc)⟩⟩⟩ rfl hn hl.1 hst (lv_room hrm) hdg hkn) hS (fun q _ h => hFc q h) hFc (fun u t H1 locs1 ht hvm hw hB hz1 hk1 hS1 => ?_)
  obtain ⟨hP1, hD1⟩ := hB
  rw [ht] at hP1
  exact kk H1 locs1 hP1 (hD1.weaken (fun _ _ _ h => hFc _ h)) hS1
theorem x_zxV (X : x_X p s m args meth c cc nL ret own Ts D tys A) (XX : x_XX l s c A) {y : MethodName} {bytes : ByteArray} {maxL index nn : Nat} {rt : Option FieldType} {ws : List Cond} {rm : Nat → Nat → Room} {As st : List Value} {b : Nat} {C : String} (q0 ci : Nat) {fs : List Value} {q : vw_C} (he : (wld σ)[q0]? = some (b, .inr (ci, fs))) (hc : vwCl[ci]? = some q) (hC : q.1 = C) {r r' : XR} (h0 : r.1 ≠ 0) (hr : some (r.1, (0 : Int32), r.2.2) = some r') (hM : x_Mt l y ws (rm 1 6) D tys wld (.ref b :: As) σ r) (cw : CallW R s args own C index y bytes maxL rt ws (rm 1 6) 1 6 nn) (hn : As.length = nn) (hl : lv_has ls nL lv) (hst : st = As.reverse ++ .ref b :: rest) (hrm : (rest.map fun v => v.category).sum ≤ 8) (hkn : 1 ≤ R.cells ∧ 6 ≤ R.slots) (hdg : decode cc pc = .ok (.invokevirtual index, 3)) : x_W p l e R s m args below meth c A D wld 0 0 (vx_MQ below (fun _ _ _ _ => False) (x_EX D wld A r') args s 1 6 A) σ (F0 m pc ls st) := by
  intro H locs hP hD hS
  subst hC
  have hFc := x_fr X.2.2.2.2.2.2.1 hD hS
  cases Option.some.inj hr
  have hrun := vx_runV (cells := 0) (slots := 0) (As := As) (rest := rest) (H := H) (locs := locs) (e := e) (below := below) (meth := meth) (g := F0 m pc ls st) ⟨X.1, X.2.1, X.2.2.1, X.2.2.2.1, X.2.2.2.2.1⟩ (hM H.size) cw ⟨x_blindX, va_recv X.2.2.2.2.2.1.1 hP hc he, fun U hU hW => ⟨rfl, ⟨by rw [hU], by rw [hU]; exact hP, X.2.2.2.2.2.1.warm hW, hD.weaken (fun _ _ _ _ => trivial)⟩, XX.1.warm hW, by rw [hU]; exact ⟨vx_Zq.moved hW.alike ((XX.2.1.1.kept hS.2.1).narrow hFc), vx_Zq.moved hW.alike ((XX.2.1.2.kept hS.2.1).narrow hFc)⟩⟩⟩ rfl hn hl.1 hst (lv_room hrm) hdg ⟨by omega, by omega⟩
  intro T hT Y
  rcases hrun T hT Y with ⟨v, st₀, t, T', L, h0', X', hL, e1, e2, hq, st⟩ | ⟨q, st₀, t, T', L, E, ce, h0', X', hL, e1, e2, ⟨u, hp, hb, hF⟩, hce, hcv, hcl, st⟩
  · exact hq.elim
  · obtain ⟨k1, k2, k3⟩ := vx_keep h0' e1 hS (fun q _ h => hFc q h) hFc hL hF
    obtain ⟨rfl, hb1, hb2⟩ := hb
    obtain ⟨t2, a1, b1⟩ := vx_out (XC := x_EX D wld A (r.1, 0, r.2.2)) (Qc := fun _ _ _ _ => False) (free := A) (pc := pc) (ls := ls) (rest := rest) (fun x hx => (XX.2.2.2 x hx).elim) X.2.2.2.2.2.2.2.2 (by rw [e1]; exact hce) hcv hcl (fun t9 ht9 _ => ⟨(), trivial, ⟨rfl, by rw [ht9, e1]; exact hb1, hb2.weaken (fun _ _ _ h => hFc _ h)⟩, Nat.le_trans hS.1 (by rw [ht9]; exact k1), fun q h1 h2 => by rw [ht9]; exact k3.2.1 q h1 h2⟩) k3.2.2 (Nat.le_refl _) (Nat.le_refl _) T' rfl X'
    exact ⟨t2, st.trans a1, b1⟩
theorem x_zSi (X : x_X p s m args meth c cc nL ret own Ts D tys A) (XX : x_XX l s c A) {y : MethodName} {bytes : ByteArray} {maxL index nn : Nat} {rt : Option FieldType} {ws : List Cond} {rm : Nat → Nat → Room} {As st : List Value} {r : XR} (h0 : r.1 = 0) (hM : x_Mz l y ws rm D tys wld As σ r) (cw : (CallB R s args own index y bytes maxL rt ws (rm 0 0) 0 0 nn ∧ (Cond.static y).before args s = true)) (hn : As.length = nn) (hl : lv_has ls nL lv) (hst : st = As.reverse ++ rest) (hrm : (rest.map fun v => v.category).sum ≤ 8) (hkn : k ≤ R.cells ∧ n ≤ R.slots) (hdg : decode cc pc = .ok (.invokestatic index, 3)) (kk : x_W p l e R s m args below meth c A D wld k n Q r.2.2 (F0 m (pc + 3) ls (.int r.2.1 :: rest))) : x_W p l e R s m args below meth c A D wld k n Q σ (F0 m pc ls st) := by
  intro H locs hP hD hS
  have hFc := x_fr X.2.2.2.2.2.2.1 hD hS
  refine va_calli (va_runS (As := As) (rest := rest) ⟨X.1, X.2.1, X.2.2.1, X.2.2.2.1, X.2.2.2.2.1⟩ (hM.1 h0 H.size) cw ⟨x_blindX, fun U hU hW => ⟨rfl, ⟨by rw [hU], by rw [hU]; exact hP, X.2.2.2.2.2.1.warm hW, hD.weaken (fun _ _ _ _ => trivial)⟩, XX.1.warm hW, by rw [hU]; exact ⟨vx_Zq.moved hW.alike ((XX.2.1.1.kept hS.2.1).narrow hFc), vx_Zq.moved hW.alike ((XX.2.1.2.kept hS.2.1).narrow hFc)⟩⟩⟩ rfl hn hl.1 hst (lv_room hrm) hdg hkn) hS (fun q _ h => hFc q h) hFc (fun r1 u t H1 locs1 ht hvm hw hB hz1 hk1 hS1 => ?_)
  obtain ⟨hP1, hD1⟩ := hB
  rw [ht] at hP1
  subst hw
  exact kk H1 locs1 hP1 (hD1.weaken (fun _ _ _ h => hFc _ h)) hS1
theorem x_zSv (X : x_X p s m args meth c cc nL ret own Ts D tys A) (XX : x_XX l s c A) {y : MethodName} {bytes : ByteArray} {maxL index nn : Nat} {rt : Option FieldType} {ws : List Cond} {rm : Nat → Nat → Room} {As st : List Value} {r : XR} (h0 : r.1 = 0) (hM : x_Mzv l y ws rm D tys wld As σ r) (cw : (CallB R s args own index y bytes maxL rt ws (rm 0 0) 0 0 nn ∧ (Cond.static y).before args s = true)) (hn : As.length = nn) (hl : lv_has ls nL lv) (hst : st = As.reverse ++ rest) (hrm : (rest.map fun v => v.category).sum ≤ 8) (hkn : k ≤ R.cells ∧ n ≤ R.slots) (hdg : decode cc pc = .ok (.invokestatic index, 3)) (kk : x_W p l e R s m args below meth c A D wld k n Q r.2.2 (F0 m (pc + 3) ls rest)) : x_W p l e R s m args below meth c A D wld k n Q σ (F0 m pc ls st) := by
  intro H locs hP hD hS
  have hFc := x_fr X.2.2.2.2.2.2.1 hD hS
  refine va_callv (va_runS (As := As) (rest := rest) ⟨X.1, X.2.1, X.2.2.1, X.2.2.2.1, X.2.2.2.2.1⟩ (hM.1 h0 H.size) cw ⟨x_blindX, fun U hU hW => ⟨rfl, ⟨by rw [hU], by rw [hU]; exact hP, X.2.2.2.2.2.1.warm hW, hD.weaken (fun _ _ _ _ => trivial)⟩, XX.1.warm hW, by rw [hU]; exact ⟨vx_Zq.moved hW.alike ((XX.2.1.1.kept hS.2.1).narrow hFc), vx_Zq.moved hW.alike ((XX.2.1.2.kept hS.2.1).narrow hFc)⟩⟩⟩ rfl hn hl.1 hst (lv_room hrm) hdg hkn) hS (fun q _ h => hFc q h) hFc (fun u t H1 locs1 ht hvm hw hB hz1 hk1 hS1 => ?_)
  obtain ⟨hP1, hD1⟩ := hB
  rw [ht] at hP1
  exact kk H1 locs1 hP1 (hD1.weaken (fun _ _ _ h => hFc _ h)) hS1
theorem x_zxS (X : x_X p s m args meth c cc nL ret own Ts D tys A) (XX : x_XX l s c A) {y : MethodName} {bytes : ByteArray} {maxL index nn : Nat} {rt : Option FieldType} {ws : List Cond} {rm : Nat → Nat → Room} {As st : List Value} {r r' : XR} (h0 : r.1 ≠ 0) (hr : some (r.1, (0 : Int32), r.2.2) = some r') (hM : x_Mt l y ws (rm 1 6) D tys wld As σ r) (cw : (CallB R s args own index y bytes maxL rt ws (rm 1 6) 1 6 nn ∧ (Cond.static y).before args s = true)) (hn : As.length = nn) (hl : lv_has ls nL lv) (hst : st = As.reverse ++ rest) (hrm : (rest.map fun v => v.category).sum ≤ 8) (hkn : 1 ≤ R.cells ∧ 6 ≤ R.slots) (hdg : decode cc pc = .ok (.invokestatic index, 3)) : x_W p l e R s m args below meth c A D wld 0 0 (vx_MQ below (fun _ _ _ _ => False) (x_EX D wld A r') args s 1 6 A) σ (F0 m pc ls st) := by
  intro H locs hP hD hS
  have hFc := x_fr X.2.2.2.2.2.2.1 hD hS
  cases Option.some.inj hr
  have hrun := vx_runS (cells := 0) (slots := 0) (As := As) (rest := rest) (H := H) (locs := locs) (e := e) (below := below) (meth := meth) (g := F0 m pc ls st) ⟨X.1, X.2.1, X.2.2.1, X.2.2.2.1, X.2.2.2.2.1⟩ (hM H.size) cw ⟨x_blindX, fun U hU hW => ⟨rfl, ⟨by rw [hU], by rw [hU]; exact hP, X.2.2.2.2.2.1.warm hW, hD.weaken (fun _ _ _ _ => trivial)⟩, XX.1.warm hW, by rw [hU]; exact ⟨vx_Zq.moved hW.alike ((XX.2.1.1.kept hS.2.1).narrow hFc), vx_Zq.moved hW.alike ((XX.2.1.2.kept hS.2.1).narrow hFc)⟩⟩⟩ rfl hn hl.1 hst (lv_room hrm) hdg ⟨by omega, by omega⟩
  intro T hT Y
  rcases hrun T hT Y with ⟨v, st₀, t, T', L, h0', X', hL, e1, e2, hq, st⟩ | ⟨q, st₀, t, T', L, E, ce, h0', X', hL, e1, e2, ⟨u, hp, hb, hF⟩, hce, hcv, hcl, st⟩
  · exact hq.elim
  · obtain ⟨k1, k2, k3⟩ := vx_keep h0' e1 hS (fun q _ h => hFc q h) hFc hL hF
    obtain ⟨rfl, hb1, hb2⟩ := hb
    obtain ⟨t2, a1, b1⟩ := vx_out (XC := x_EX D wld A (r.1, 0, r.2.2)) (Qc := fun _ _ _ _ => False) (free := A) (pc := pc) (ls := ls) (rest := rest) (fun x hx => (XX.2.2.2 x hx).elim) X.2.2.2.2.2.2.2.2 (by rw [e1]; exact hce) hcv hcl (fun t9 ht9 _ => ⟨(), trivial, ⟨rfl, by rw [ht9, e1]; exact hb1, hb2.weaken (fun _ _ _ h => hFc _ h)⟩, Nat.le_trans hS.1 (by rw [ht9]; exact k1), fun q h1 h2 => by rw [ht9]; exact k3.2.1 q h1 h2⟩) k3.2.2 (Nat.le_refl _) (Nat.le_refl _) T' rfl X'
    exact ⟨t2, st.trans a1, b1⟩
theorem x_enterZi {l : Launch} {y : MethodName} {ws ws' : List Cond} {rm : Nat → Nat → Room} {D : va_G} {tys : List (ClassId × FieldType)} {wld : CS → va_W} {av : List Value} {σ : CS} {r : XR} {cc : ByteArray} {nL : Nat} {ty : FieldType} {own : String} (hst : l.stackTraces = false) (hy : plainName y.cls = true) (hyo : y.cls = own) (hw : ws = Cond.code y cc nL (some ty) :: ws') (hlen : (lg_sl av).length ≤ nL)
    (body : ∀ (p : Program) (e : Env) (s : State) (m : MethodId) (args : Array Value) (below : List Frame) (meth : Method) (c : Code) (A : Nat → Prop) (c9 s9 : Nat), (r.1 = 0 ∨ (1 ≤ c9 ∧ 6 ≤ s9)) → x_X p s m args meth c cc nL (some ty) own ws D tys A → x_XX l s c A → ∀ ls : Array Slot, lv_has ls nL (lv_args 0 av) → x_W p l e (rm c9 s9) s m args below meth c A D wld 0 0 (x_Rz below args s A D wld r) σ (F0 m 0 ls [])) : x_Mz l y ws rm D tys wld av σ r := by
  refine ⟨fun h0 sz => ?_, fun h0 sz => ?_⟩
  · refine Met.ofW (cc := cc) (maxL := nL) (ret := some ty) hy hw ?_
    intro p e s m args below meth c s₁ B hml hv
    have hex := x_noTab B hw
    obtain ⟨rfl, ⟨hsz, hP, hK, hD0⟩, hSS, hZ⟩ := hv
    subst hsz
    subst hyo
    have hD := hD0.self (sz := s.heap.size)
    have hl := lv_entry av (n := nL) hlen
    rw [lg_entry_eq]
    have hbody := body p e s m av.toArray below meth c (va_A (wld σ) s.heap.size) 0 0 (Or.inl h0) ⟨B.exec, B.bytes, hml, findClass_of_methodNamed B.named, atoms_spec (ws := ws) B.pre, hK, fun q h => Or.inr h, B.returns, B.notSynchronized⟩ ⟨hSS, hZ, hst, hex⟩ _ hl s.heap [] hP hD va_S.rf
    unfold x_Rz at hbody
    rw [if_pos h0] at hbody
    exact hbody
  · refine vx_ofW (cc := cc) (maxL := nL) (ret := some ty) hy hw ?_
    intro p e s m args below meth c s₁ B hml _ hv
    have hex := x_noTab B hw
    obtain ⟨rfl, ⟨hsz, hP, hK, hD0⟩, hSS, hZ⟩ := hv
    subst hsz
    subst hyo
    have hD := hD0.self (sz := s.heap.size)
    have hl := lv_entry av (n := nL) hlen
    rw [lg_entry_eq]
    have hbody := body p e s m av.toArray below meth c (va_A (wld σ) s.heap.size) 1 6 (Or.inr ⟨Nat.le_refl _, Nat.le_refl _⟩) ⟨B.exec, B.bytes, hml, findClass_of_methodNamed B.named, atoms_spec (ws := ws) B.pre, hK, fun q h => Or.inr h, B.returns, B.notSynchronized⟩ ⟨hSS, hZ, hst, hex⟩ _ hl s.heap [] hP hD va_S.rf
    unfold x_Rz at hbody
    rw [if_neg h0] at hbody
    exact hbody
theorem x_enterZv {l : Launch} {y : MethodName} {ws ws' : List Cond} {rm : Nat → Nat → Room} {D : va_G} {tys : List (ClassId × FieldType)} {wld : CS → va_W} {av : List Value} {σ : CS} {r : XR} {cc : ByteArray} {nL : Nat} {own : String} (hst : l.stackTraces = false) (hy : plainName y.cls = true) (hyo : y.cls = own) (hw : ws = Cond.code y cc nL (none) :: ws') (hlen : (lg_sl av).length ≤ nL)
    (body : ∀ (p : Program) (e : Env) (s : State) (m : MethodId) (args : Array Value) (below : List Frame) (meth : Method) (c : Code) (A : Nat → Prop) (c9 s9 : Nat), (r.1 = 0 ∨ (1 ≤ c9 ∧ 6 ≤ s9)) → x_X p s m args meth c cc nL (none) own ws D tys A → x_XX l s c A → ∀ ls : Array Slot, lv_has ls nL (lv_args 0 av) → x_W p l e (rm c9 s9) s m args below meth c A D wld 0 0 (x_Rzv below args s A D wld r) σ (F0 m 0 ls [])) : x_Mzv l y ws rm D tys wld av σ r := by
  refine ⟨fun h0 sz => ?_, fun h0 sz => ?_⟩
  · refine Met.ofW (cc := cc) (maxL := nL) (ret := none) hy hw ?_
    intro p e s m args below meth c s₁ B hml hv
    have hex := x_noTab B hw
    obtain ⟨rfl, ⟨hsz, hP, hK, hD0⟩, hSS, hZ⟩ := hv
    subst hsz
    subst hyo
    have hD := hD0.self (sz := s.heap.size)
    have hl := lv_entry av (n := nL) hlen
    rw [lg_entry_eq]
    have hbody := body p e s m av.toArray below meth c (va_A (wld σ) s.heap.size) 0 0 (Or.inl h0) ⟨B.exec, B.bytes, hml, findClass_of_methodNamed B.named, atoms_spec (ws := ws) B.pre, hK, fun q h => Or.inr h, B.returns, B.notSynchronized⟩ ⟨hSS, hZ, hst, hex⟩ _ hl s.heap [] hP hD va_S.rf
    unfold x_Rzv at hbody
    rw [if_pos h0] at hbody
    exact hbody
  · refine vx_ofW (cc := cc) (maxL := nL) (ret := none) hy hw ?_
    intro p e s m args below meth c s₁ B hml _ hv
    have hex := x_noTab B hw
    obtain ⟨rfl, ⟨hsz, hP, hK, hD0⟩, hSS, hZ⟩ := hv
    subst hsz
    subst hyo
    have hD := hD0.self (sz := s.heap.size)
    have hl := lv_entry av (n := nL) hlen
    rw [lg_entry_eq]
    have hbody := body p e s m av.toArray below meth c (va_A (wld σ) s.heap.size) 1 6 (Or.inr ⟨Nat.le_refl _, Nat.le_refl _⟩) ⟨B.exec, B.bytes, hml, findClass_of_methodNamed B.named, atoms_spec (ws := ws) B.pre, hK, fun q h => Or.inr h, B.returns, B.notSynchronized⟩ ⟨hSS, hZ, hst, hex⟩ _ hl s.heap [] hP hD va_S.rf
    unfold x_Rzv at hbody
    rw [if_neg h0] at hbody
    exact hbody
end XTH
