/-! wrappers: a call whose exceptions are caught; the answer goes into an array of one long -/
theorem f_ofWH {l : Launch} {y : MethodName} {ws ws' : List Cond} {rm : Room} {Pc : Array Value → State → Prop} {Qc : Array Value → State → Outcome → State → Prop} {mc ms : Nat} {free : Addr → Prop} {cc : ByteArray} {maxL : Nat} {ret : Option FieldType} {hh : List (Nat × Nat × Nat × Nat)}
    (hy : plainName y.cls = true) (hw : ws = Cond.codeWith y cc maxL ret hh :: ws')
    (body : ∀ p e s m args below meth c s₁, BodyLoose p l y (headSpec ws rm) cc maxL ret e s m args below meth c s₁ → c.maxLocals = maxL → Pc args s →
      W p l e (headSpec ws rm).room s m args below meth c s.heap [] 0 0 (MQ below Qc args s mc ms free) (entryFrame m args maxL)) : Met l y ws rm Pc Qc mc ms free := by
  refine MetFree.of_bodyS (code := cc) (maxLocals := maxL) (ret := ret) hy ?_ ?_
  · intro args s m h hn
    obtain ⟨m9, meth, c, hn9, h1, h2, h3, h4, -, h5, h6, -⟩ := Cond.codeWith_spec (atoms_spec (ws := ws) h _ (by rw [hw]; exact List.mem_cons_self))
    cases hn.symm.trans hn9
    exact ⟨meth, c, h1, h2, h3, h4, h5, h6⟩
  · intro p e s m args below meth c s₁ B hml hP _
    have hh0 : s₁.heap = s.heap := by rw [B.state]; rfl
    obtain ⟨t, a1, o, b1, b2, b3⟩ := body p e s m args below meth c s₁ B hml hP s₁ hh0 (Stand.of_body B)
    exact ⟨t, o, a1, b1, b2, b3⟩
abbrev WS : Type := CS × (Nat → Int64)
def wwld (cI cJ : ClassId) (a : Nat → Nat) (o : Nat) (z : WS) : va_W := cwld cI a z.1 ++ [(o, .inl (cJ, 1, .inr (.inl z.2)))]
theorem ww_o (cI cJ : ClassId) (a : Nat → Nat) (o : Nat) (z : WS) : (wwld cI cJ a o z)[51]? = some (o, .inl (cJ, 1, .inr (.inl z.2))) := rfl
theorem ww_set (cI cJ : ClassId) (a : Nat → Nat) (o : Nat) (z : WS) (v : Int64) : (wwld cI cJ a o z).set 51 (o, .inl (cJ, 1, .inr (.inl (vp_updL z.2 0 v)))) = wwld cI cJ a o (z.1, vp_updL z.2 0 v) := rfl
def x_N (U : State) : Prop := va_Nc (x_exc 2) (x_exc 1) U ∧ va_Nc (x_exc 3) (x_exc 1) U ∧ va_Nc (x_exc 3) (x_exc 2) U
theorem x_N.moved {s U : State} (hv : s.vm.Alike U.vm) (h : x_N s) : x_N U := ⟨va_Nc.moved hv h.1, va_Nc.moved hv h.2.1, va_Nc.moved hv h.2.2⟩
def f_BW (D : va_G) (tys : List (ClassId × FieldType)) {S : Type} (wld : S → va_W) (σ : S) (sz : Nat) (U : State) : Prop := x_B D tys wld σ sz U ∧ x_S U ∧ x_Z (va_A (wld σ) sz) U U.heap ∧ x_N U
theorem f_blind {D : va_G} {tys : List (ClassId × FieldType)} {S : Type} {wld : S → va_W} {av : List Value} {σ : S} {sz : Nat} : FrameBlind (va_Pc av (f_BW D tys wld σ sz)) := fun a U g mk q => by
  obtain ⟨q0, ⟨q1, q2, q3, q4⟩, q5, ⟨q6, q7⟩, q8⟩ := q
  exact ⟨q0, ⟨q1, q2, x_K.same (s := U) (U := U.calling g mk a) rfl q3, q4⟩, x_S.same (s := U) (U := U.calling g mk a) rfl q5, ⟨vx_Zq.moved (u := U) (U := U.calling g mk a) (Vm.Alike.refl U.vm) q6, vx_Zq.moved (u := U) (U := U.calling g mk a) (Vm.Alike.refl U.vm) q7⟩, x_N.moved (s := U) (U := U.calling g mk a) (Vm.Alike.refl U.vm) q8⟩
def f_Mw (l : Launch) (y : MethodName) (ws : List Cond) (rm : Room) (D : va_G) (tys : List (ClassId × FieldType)) {S : Type} (wld : S → va_W) (av : List Value) (σ : S) (r : Int32) (σ' : S) : Prop :=
  ∀ sz : Nat, Met l y ws rm (va_Pc av (f_BW D tys wld σ sz)) (va_Qi (fun (r1 : Int32) (_ : Unit) => r1 = r) (fun _ t => va_P D vwCl (wld σ') t.heap ∧ va_D (va_A (wld σ) sz) (wld σ')) (va_A (wld σ) sz)) 1 6 (va_A (wld σ) sz)
def f_R (below : List Frame) (args : Array Value) (s : State) (A : Nat → Prop) (D : va_G) {S : Type} (wld : S → va_W) (r : Int32) (σ' : S) : State → Prop := MQ below (va_Qi (fun (r1 : Int32) (_ : Unit) => r1 = r) (fun _ t => va_P D vwCl (wld σ') t.heap ∧ va_D A (wld σ')) A) args s 1 6 A
def f_XX (s : State) (c : Code) (A : Nat → Prop) (hh : List (Nat × Nat × Nat × Nat)) : Prop := x_S s ∧ x_Z A s s.heap ∧ x_N s ∧ c.exceptionTable.toList = tableOf hh
section FWR
variable {p : Program} {l : Launch} {e : Env} {R : Room} {s : State} {m : MethodId} {args : Array Value} {below : List Frame} {meth : Method} {c : Code} {k n : Nat} {Q : State → Prop} {cc : ByteArray} {nL : Nat} {ret : Option FieldType} {own : String} {Ts : List Cond} {D : va_G} {tys : List (ClassId × FieldType)} {A : Nat → Prop} {S : Type} {wld : S → va_W} {σ σ' : S} {pc : Nat} {ls : Array Slot} {rest : List Value} {lv lv' : List (Nat × Value)}
theorem x_aload (X : x_X p s m args meth c cc nL ret own Ts D tys A) {i : Nat} {x : Nat} (hdg : decode cc pc = .ok (.aload i, 2)) (hl : lv_has ls nL lv) (j : Nat) (hj : lv[j]? = some (i, .ref x)) (kk : x_W p l e R s m args below meth c A D wld k n Q σ (F0 m (pc + 2) ls (.ref x :: rest))) : x_W p l e R s m args below meth c A D wld k n Q σ (F0 m pc ls rest) := fun H locs hP hD hS => lv_aload X.1 X.2.1 hdg (lv_at hl j hj) (kk H locs hP hD hS)
theorem x_astore (X : x_X p s m args meth c cc nL ret own Ts D tys A) {i x : Nat} (hdg : decode cc pc = .ok (.astore i, 2)) (h : lv_has ls nL lv) (hn : i < nL) (hl : (i, Value.ref x) :: lv.filter (fun q => !(q.1 == i) && !(q.1 + 1 == i && q.2.category == 2)) = lv') (kk : ∀ ls' : Array Slot, lv_has ls' nL lv' → x_W p l e R s m args below meth c A D wld k n Q σ (F0 m (pc + 2) ls' rest)) : x_W p l e R s m args below meth c A D wld k n Q σ (F0 m pc ls (.ref x :: rest)) := fun H locs hP hD hS => lv_astore X.1 X.2.1 hdg h hn hl (fun ls1 h1 => kk ls1 h1 H locs hP hD hS)
theorem x_astore_n (X : x_X p s m args meth c cc nL ret own Ts D tys A) {f : Fin 4} {i x : Nat} (hdg : decode cc pc = .ok (.astore_n f, 1)) (hi : (f : Nat) = i) (h : lv_has ls nL lv) (hn : i < nL) (hl : (i, Value.ref x) :: lv.filter (fun q => !(q.1 == i) && !(q.1 + 1 == i && q.2.category == 2)) = lv') (kk : ∀ ls' : Array Slot, lv_has ls' nL lv' → x_W p l e R s m args below meth c A D wld k n Q σ (F0 m (pc + 1) ls' rest)) : x_W p l e R s m args below meth c A D wld k n Q σ (F0 m pc ls (.ref x :: rest)) := fun H locs hP hD hS => lv_astore_n X.1 X.2.1 hdg hi h hn hl (fun ls1 h1 => kk ls1 h1 H locs hP hD hS)
theorem x_i2l (X : x_X p s m args meth c cc nL ret own Ts D tys A) {x : Int32} (hdg : decode cc pc = .ok (.i2l, 1)) (kk : x_W p l e R s m args below meth c A D wld k n Q σ (F0 m (pc + 1) ls (.long x.toInt64 :: rest))) : x_W p l e R s m args below meth c A D wld k n Q σ (F0 m pc ls (.int x :: rest)) := fun H locs hP hD hS => lv_i2l X.1 X.2.1 hdg rfl (kk H locs hP hD hS)
theorem x_lconst (X : x_X p s m args meth c cc nL ret own Ts D tys A) {f : Fin 2} {v : Int64} (hdg : decode cc pc = .ok (.lconst f, 1)) (hv : Int64.ofNat (f : Nat) = v) (kk : x_W p l e R s m args below meth c A D wld k n Q σ (F0 m (pc + 1) ls (.long v :: rest))) : x_W p l e R s m args below meth c A D wld k n Q σ (F0 m pc ls rest) := fun H locs hP hD hS => lv_lconst X.1 X.2.1 hdg hv (kk H locs hP hD hS)
theorem x_lcmp (X : x_X p s m args meth c cc nL ret own Ts D tys A) {x y : Int64} (hdg : decode cc pc = .ok (.lcmp, 1)) (kk : x_W p l e R s m args below meth c A D wld k n Q σ (F0 m (pc + 1) ls (.int (lg_cmp x y) :: rest))) : x_W p l e R s m args below meth c A D wld k n Q σ (F0 m pc ls (.long y :: .long x :: rest)) := fun H locs hP hD hS => W.lcmp X.1 X.2.1 hdg (kk H locs hP hD hS)
theorem x_lald (X : x_X p s m args meth c cc nL ret own Ts D tys A) (q0 t0 : Nat) {cA : ClassId} {N a : Nat} {f : Nat → Int64} (ha : (wld σ)[q0]? = some (a, .inl (cA, N, .inr (.inl f)))) (ht : tys[t0]? = some (cA, .long)) {i : Int32} (hin : vp_in i N) (hdg : decode cc pc = .ok (.laload, 1)) (kk : x_W p l e R s m args below meth c A D wld k n Q σ (F0 m (pc + 1) ls (.long (f i.toNatClampNeg) :: rest))) : x_W p l e R s m args below meth c A D wld k n Q σ (F0 m pc ls (.int i :: .ref a :: rest)) := fun H locs hP hD hS => va_lald X.1 X.2.1 X.2.2.2.2.2.1.1 hP q0 t0 ha ht hin hdg (kk H locs hP hD hS)
theorem x_last (X : x_X p s m args meth c cc nL ret own Ts D tys A) (q0 t0 : Nat) {cA : ClassId} {N a : Nat} {f : Nat → Int64} (ha : (wld σ)[q0]? = some (a, .inl (cA, N, .inr (.inl f)))) (ht : tys[t0]? = some (cA, .long)) {i : Int32} {x : Int64} (hin : vp_in i N) (hw : (wld σ).set q0 (a, .inl (cA, N, .inr (.inl (vp_updL f i.toNatClampNeg x)))) = wld σ') (hdg : decode cc pc = .ok (.lastore, 1)) (kk : x_W p l e R s m args below meth c A D wld k n Q σ' (F0 m (pc + 1) ls rest)) : x_W p l e R s m args below meth c A D wld k n Q σ (F0 m pc ls (.long x :: .int i :: .ref a :: rest)) := by
  intro H locs hP hD hS
  refine va_last X.1 X.2.1 X.2.2.2.2.2.1.1 hP hD hS q0 t0 ha ht hin hdg (fun H1 locs1 hP1 hD1 hS1 => ?_)
  rw [hw] at hP1 hD1
  exact kk H1 locs1 hP1 hD1 hS1
theorem f_ret (X : x_X p s m args meth c cc nL ret own Ts D tys A) {v : Int32} {σ' : S} (hret : ret = some .int) (hs : σ = σ') (hdg : decode cc pc = .ok (.ireturn, 1)) : x_W p l e R s m args below meth c A D wld 1 6 (f_R below args s A D wld v σ') σ (F0 m pc ls [.int v]) := by
  subst hs
  intro H locs hP hD hS
  exact W.zret X.1 X.2.1 (X.2.2.2.2.2.2.2.1.trans hret) rfl (fun t ht hW => ⟨⟨v, (), rfl, rfl, by rw [ht]; exact hP, hD⟩, hS.F ht⟩) hS.2.2 hdg X.2.2.2.2.2.2.2.2
/-- a call of a throwing method on a part of the world: it returns -/
theorem f_call (X : x_X p s m args meth c cc nL ret own Ts D tys A) (XX : x_S s ∧ x_Z A s s.heap) {y : MethodName} {bytes : ByteArray} {maxL index nn : Nat} {rt : Option FieldType} {ws : List Cond} {rm : Nat → Nat → Room} {As st : List Value} {b : Nat} {C : String} {wc : CS → va_W} {w1 w2 : va_W} {τ : CS} (q0 ci : Nat) {fs : List Value} {q : vw_C} (he : (wc τ)[q0]? = some (b, .inr (ci, fs))) (hc : vwCl[ci]? = some q) (hC : q.1 = C) {r : XR} (h0 : r.1 = 0) (hM : x_Mz l y ws rm D tys wc (.ref b :: As) τ r) (cw : CallW R s args own C index y bytes maxL rt ws (rm 0 0) 0 0 nn) (hn : As.length = nn) (hl : lv_has ls nL lv) (hst : st = As.reverse ++ .ref b :: rest) (hrm : (rest.map fun v => v.category).sum ≤ 8) (hkn : k ≤ R.cells ∧ n ≤ R.slots) (hdg : decode cc pc = .ok (.invokevirtual index, 3)) (ha : wld σ = w1 ++ (wc τ ++ w2)) (hb : wld σ' = w1 ++ (wc r.2.2 ++ w2)) (kk : x_W p l e R s m args below meth c A D wld k n Q σ' (F0 m (pc + 3) ls (.int r.2.1 :: rest))) : x_W p l e R s m args below meth c A D wld k n Q σ (F0 m pc ls st) := by
  intro H locs hP hD hS
  subst hC
  rw [ha] at hP hD
  obtain ⟨hPc, hDc⟩ := y_sub hP hD
  have hFc : ∀ q, va_A (wc τ) H.size q → A q := fun q h => by
    rcases h with ⟨j, x, h⟩ | h
    · exact hDc.2 j _ h
    · exact X.2.2.2.2.2.2.1 q (Nat.le_trans hS.1 h)
  refine va_calli (va_runV (As := As) (rest := rest) ⟨X.1, X.2.1, X.2.2.1, X.2.2.2.1, X.2.2.2.2.1⟩ (hM.1 h0 H.size) cw ⟨x_blindX, va_recv X.2.2.2.2.2.1.1 hPc hc he, fun U hU hW => ⟨rfl, ⟨by rw [hU], by rw [hU]; exact hPc, X.2.2.2.2.2.1.warm hW, hDc.weaken (fun _ _ _ _ => trivial)⟩, XX.1.warm hW, by rw [hU]; exact ⟨vx_Zq.moved hW.alike ((XX.2.1.kept hS.2.1).narrow hFc), vx_Zq.moved hW.alike ((XX.2.2.kept hS.2.1).narrow hFc)⟩⟩⟩ rfl hn hl.1 hst (lv_room hrm) hdg hkn) hS (fun q _ h => hFc q h) hFc (fun r1 u t H1 locs1 ht hvm hw hB hz1 hk1 hS1 => ?_)
  obtain ⟨hP1, hD1⟩ := hB
  rw [ht] at hP1
  subst hw
  obtain ⟨hP2, hD2⟩ := y_frame hP hD hk1 hFc hP1 hD1
  rw [← hb] at hP2 hD2
  exact kk H1 locs1 hP2 hD2 hS1
/-- the same: it throws -/
theorem f_callX (X : x_X p s m args meth c cc nL ret own Ts D tys A) (XX : x_S s ∧ x_Z A s s.heap) {y : MethodName} {bytes : ByteArray} {maxL index nn : Nat} {rt : Option FieldType} {ws : List Cond} {rm : Nat → Nat → Room} {As st : List Value} {b : Nat} {C : String} {wc : CS → va_W} {w1 w2 : va_W} {τ : CS} (q0 ci : Nat) {fs : List Value} {q : vw_C} (he : (wc τ)[q0]? = some (b, .inr (ci, fs))) (hc : vwCl[ci]? = some q) (hC : q.1 = C) {r : XR} (h0 : r.1 ≠ 0) (hM : x_Mz l y ws rm D tys wc (.ref b :: As) τ r) (cw : CallW R s args own C index y bytes maxL rt ws (rm 1 6) 1 6 nn) (hn : As.length = nn) (hl : lv_has ls nL lv) (hst : st = As.reverse ++ .ref b :: rest) (hrm : (rest.map fun v => v.category).sum ≤ 8) (hkn : k + 1 ≤ R.cells ∧ n + 6 ≤ R.slots) (hdg : decode cc pc = .ok (.invokevirtual index, 3)) (ha : wld σ = w1 ++ (wc τ ++ w2)) (hb : wld σ' = w1 ++ (wc r.2.2 ++ w2))
    (kk : ∀ (H1 : Heap) (locs1 : List Loc) (q9 : Addr) (ce : Cell), va_P D vwCl (wld σ') H1 → va_D A (wld σ') → va_S A s.heap H1 locs1 → H1[q9]? = some ce → ce.vm = .none → s.vm.findClass (x_exc r.1) = some ce.cls → vx_W p l e R s m args below meth c H1 locs1 (k + 1) (n + 6) Q (F0 m pc ls rest) q9) : x_W p l e R s m args below meth c A D wld k n Q σ (F0 m pc ls st) := by
  intro H locs hP hD hS
  subst hC
  rw [ha] at hP hD
  obtain ⟨hPc, hDc⟩ := y_sub hP hD
  have hFc : ∀ q, va_A (wc τ) H.size q → A q := fun q h => by
    rcases h with ⟨j, x, h⟩ | h
    · exact hDc.2 j _ h
    · exact X.2.2.2.2.2.2.1 q (Nat.le_trans hS.1 h)
  have hrun := vx_runV (cells := k) (slots := n) (As := As) (rest := rest) (H := H) (locs := locs) (e := e) (below := below) (meth := meth) (g := F0 m pc ls st) ⟨X.1, X.2.1, X.2.2.1, X.2.2.2.1, X.2.2.2.2.1⟩ (hM.2 h0 H.size) cw ⟨x_blindX, va_recv X.2.2.2.2.2.1.1 hPc hc he, fun U hU hW => ⟨rfl, ⟨by rw [hU], by rw [hU]; exact hPc, X.2.2.2.2.2.1.warm hW, hDc.weaken (fun _ _ _ _ => trivial)⟩, XX.1.warm hW, by rw [hU]; exact ⟨vx_Zq.moved hW.alike ((XX.2.1.kept hS.2.1).narrow hFc), vx_Zq.moved hW.alike ((XX.2.2.kept hS.2.1).narrow hFc)⟩⟩⟩ rfl hn hl.1 hst (lv_room hrm) hdg hkn
  intro T hT Y
  rcases hrun T hT Y with ⟨v, st₀, t, T', L, h0', X', hL, e1, e2, hq, st⟩ | ⟨q, st₀, t, T', L, E, ce, h0', X', hL, e1, e2, ⟨u, hp, hb1, hF⟩, hce, hcv, hcl, st⟩
  · exact hq.elim
  · obtain ⟨k1, k2, k3⟩ := vx_keep h0' e1 hS (fun q _ h => hFc q h) hFc hL hF
    obtain ⟨rfl, hb2, hb3⟩ := hb1
    rw [← e1] at hb2 hce
    obtain ⟨hP2, hD2⟩ := y_frame hP hD k2 hFc hb2 hb3
    rw [← hb] at hP2 hD2
    obtain ⟨t2, a1, b1⟩ := kk T'.heap (locs ++ L) q ce hP2 hD2 k3 hce hcv hcl T' rfl X'
    exact ⟨t2, st.trans a1, b1⟩
/-- caught -/
theorem f_catch (X : x_X p s m args meth c cc nL ret own Ts D tys A) {hh : List (Nat × Nat × Nat × Nat)} (htab : c.exceptionTable.toList = tableOf hh) {e9 : Nat} (pre : List ExceptionTableEntry) (x : ExceptionTableEntry) (suf : List ExceptionTableEntry) (hsplit : tableOf hh = pre ++ x :: suf) (hpass : ∀ z ∈ pre, z.catchType ≠ 0 ∧ ∃ nm : String, Cond.classLink own z.catchType nm ∈ Ts ∧ va_Nc (x_exc e9) nm s) (hx : covers x pc = true) (h0 : x.catchType ≠ 0) (hlink : Cond.classLink own x.catchType (x_exc e9) ∈ Ts) (hcast : Cond.castable (x_exc e9) (x_exc e9) ∈ x_nest) {H : Heap} {locs : List Loc} {q : Addr} {ce : Cell} (hP : va_P D vwCl (wld σ) H) (hD : va_D A (wld σ)) (hS : va_S A s.heap H locs) (hce : H[q]? = some ce) (hcv : ce.vm = .none) (hcl : s.vm.findClass (x_exc e9) = some ce.cls) (kk : x_W p l e R s m args below meth c A D wld k n Q σ (F0 m x.handlerPc ls [.ref q])) : vx_W p l e R s m args below meth c H locs k n Q (F0 m pc ls rest) q :=
  vx_catch X.2.2.2.1 pre x suf (htab.trans hsplit) (fun z hz => Or.inr ⟨(hpass z hz).1, (hpass z hz).2.elim fun nm h => ⟨nm, X.2.2.2.2.1 _ h.1, h.2⟩⟩) hx h0 (X.2.2.2.2.1 _ hlink) (va_Nw.use rfl (X.2.2.2.2.2.1.2 _ hcast)) hce hcv hcl (kk H locs hP hD hS)
end FWR
theorem f_enter {l : Launch} {y : MethodName} {ws ws' : List Cond} {rm : Room} {D : va_G} {tys : List (ClassId × FieldType)} {S : Type} {wld : S → va_W} {av : List Value} {σ σ' : S} {r : Int32} {cc : ByteArray} {nL : Nat} {own : String} {hh : List (Nat × Nat × Nat × Nat)} (hy : plainName y.cls = true) (hyo : y.cls = own) (hw : ws = Cond.codeWith y cc nL (some .int) hh :: ws') (hlen : (lg_sl av).length ≤ nL)
    (body : ∀ (p : Program) (e : Env) (s : State) (m : MethodId) (args : Array Value) (below : List Frame) (meth : Method) (c : Code) (A : Nat → Prop), x_X p s m args meth c cc nL (some .int) own ws D tys A → f_XX s c A hh → ∀ ls : Array Slot, lv_has ls nL (lv_args 0 av) → x_W p l e rm s m args below meth c A D wld 0 0 (f_R below args s A D wld r σ') σ (F0 m 0 ls [])) : f_Mw l y ws rm D tys wld av σ r σ' := by
  intro sz
  refine f_ofWH (cc := cc) (maxL := nL) (ret := some .int) hy hw ?_
  intro p e s m args below meth c s₁ B hml hv
  obtain ⟨rfl, ⟨hsz, hP, hK, hD0⟩, hSS, hZ, hN⟩ := hv
  subst hsz
  subst hyo
  have hD := hD0.self (sz := s.heap.size)
  have hl := lv_entry av (n := nL) hlen
  have hts := atoms_spec (ws := ws) B.pre
  have htab : c.exceptionTable.toList = tableOf hh := vx_table (x := y) B (hts _ (by rw [hw]; exact List.mem_cons_self))
  rw [lg_entry_eq]
  exact body p e s m _ below meth c (va_A (wld σ) s.heap.size) ⟨B.exec, B.bytes, hml, findClass_of_methodNamed B.named, hts, hK, fun q h => Or.inr h, B.returns, B.notSynchronized⟩ ⟨hSS, hZ, hN, htab⟩ _ hl s.heap [] hP hD va_S.rf
def rm_L_begin : Room := { frames := 7, cells := 1, slots := 6, locals := 106 }
theorem xl_L_begin_13 : Cond.classLink RL 13 "java/lang/IllegalArgumentException" ∈ wsL_begin := by decide +kernel
set_option maxHeartbeats 4000000 in
set_option maxRecDepth 100000 in
theorem c_L_begin (l : Launch) (hst : l.stackTraces = false) (D : va_G) (cI cZ cJ : ClassId) (a : Nat → Nat) (o F : Nat) (s : CS) (g : Nat → Int64) (x1 x2 x3 x4 : Int32) {r : XR} (hf : r_X7_begin F x1 x2 x3 x4 s = some r) (rk : Int32) (z' : WS) (hres : (r.1 = 0 ∧ rk = 0 ∧ z' = (r.2.2, vp_updL g 0 r.2.1.toInt64)) ∨ (r.1 = 2 ∧ rk = 1 ∧ z' = (r.2.2, g))) : f_Mw l yL_begin wsL_begin rm_L_begin D (x_tys cI cZ cJ) (wwld cI cJ a o) [.ref (a 0), .int x1, .int x2, .int x3, .int x4, .ref o] (s, g) rk z' := by
  refine f_enter (cc := cL_begin) (nL := 7) (own := RL) (by decide) rfl rfl (Nat.le_of_ble_eq_true rfl) ?_
  intro p e S0 m args below meth c A X XX ls hl
  have hl : lv_has ls 7 [(0, .ref (a 0)), (1, .int x1), (2, .int x2), (3, .int x3), (4, .int x4), (5, .ref o)] := hl
  refine x_aload X dL_begin_0 hl 5 rfl ?_
  refine x_iconst X dL_begin_2 xk_iconst_0 ?_
  refine x_aload_n X dL_begin_3 rfl hl 0 rfl ?_
  refine x_iload_n X dL_begin_4 rfl hl 1 rfl ?_
  refine x_iload_n X dL_begin_5 rfl hl 2 rfl ?_
  refine x_iload_n X dL_begin_6 rfl hl 3 rfl ?_
  refine x_iload X dL_begin_7 hl 4 rfl ?_
  rcases hres with ⟨h0, rfl, rfl⟩ | ⟨h0, rfl, rfl⟩
  · refine f_call (wc := cwld cI a) (w1 := []) (w2 := [(o, .inl (cJ, 1, .inr (.inl g)))]) (σ' := (r.2.2, g)) X ⟨XX.1, XX.2.1⟩ 0 7 (cw_o0 cI a s) rfl rfl h0 (c_X7_begin l hst D cI cZ cJ a F hf) (cwV 4 X.2.2.2.2.1 gL_begin_X7_begin rfl rfl rfl (by decide +kernel) ⟨Nat.le_of_ble_eq_true rfl, Nat.le_of_ble_eq_true rfl⟩) rfl hl rfl (Nat.le_of_ble_eq_true rfl) ⟨Nat.zero_le _, Nat.zero_le _⟩ dL_begin_9 rfl rfl ?_
    refine x_i2l X dL_begin_12 ?_
    refine x_last X 51 2 (ww_o cI cJ a o (r.2.2, g)) rfl (x_in_of (by decide)) (ww_set cI cJ a o (r.2.2, g) _) dL_begin_13 ?_
    refine x_goto (tgt := 21) X dL_begin_14 rfl ?_
    refine x_iconst X dL_begin_21 xk_iconst_0 ?_
    refine x_widen (k1 := 1) (n1 := 6) (by omega) (by omega) ?_
    exact f_ret X rfl rfl dL_begin_22
  · have h1 : r.1 ≠ 0 := by rw [h0]; decide
    refine f_callX (wc := cwld cI a) (w1 := []) (w2 := [(o, .inl (cJ, 1, .inr (.inl g)))]) (σ' := (r.2.2, g)) X ⟨XX.1, XX.2.1⟩ 0 7 (cw_o0 cI a s) rfl rfl h1 (c_X7_begin l hst D cI cZ cJ a F hf) (cwV 4 X.2.2.2.2.1 gL_begin_X7_begin rfl rfl rfl (by decide +kernel) ⟨Nat.le_of_ble_eq_true rfl, Nat.le_of_ble_eq_true rfl⟩) rfl hl rfl (Nat.le_of_ble_eq_true rfl) ⟨Nat.le_of_ble_eq_true rfl, Nat.le_of_ble_eq_true rfl⟩ dL_begin_9 rfl rfl (fun H1 locs1 q9 ce hP1 hD1 hS1 hce hcv hcl => ?_)
    rw [h0] at hcl
    refine f_catch (σ := (r.2.2, g)) (e9 := 2) X XX.2.2.2 [] ⟨0, 14, 17, 13⟩ [] rfl (fun z hz => by cases hz) (by decide) (by decide) xl_L_begin_13 (by decide +kernel) hP1 hD1 hS1 hce hcv hcl ?_
    refine x_astore (lv' := [(6, .ref q9), (0, .ref (a 0)), (1, .int x1), (2, .int x2), (3, .int x3), (4, .int x4), (5, .ref o)]) X dL_begin_17 hl (by decide) rfl (fun ls hl => ?_)
    refine x_iconst X dL_begin_19 xk_iconst_1 ?_
    exact f_ret X rfl rfl dL_begin_20
def rm_L_send : Room := { frames := 8, cells := 1, slots := 6, locals := 129 }
theorem xl_L_send_18 : Cond.classLink RL 18 "java/lang/IndexOutOfBoundsException" ∈ wsL_send := by decide +kernel
theorem xl_L_send_13 : Cond.classLink RL 13 "java/lang/IllegalArgumentException" ∈ wsL_send := by decide +kernel
theorem xl_L_send_20 : Cond.classLink RL 20 "java/lang/IllegalStateException" ∈ wsL_send := by decide +kernel
set_option maxHeartbeats 4000000 in
set_option maxRecDepth 100000 in
theorem c_L_send (l : Launch) (hst : l.stackTraces = false) (D : va_G) (cI cZ cJ : ClassId) (a : Nat → Nat) (o F : Nat) (s : CS) (g : Nat → Int64) (x1 x2 x3 x4 : Int32) {r : XR} (hf : r_X7_send F x1 x2 x3 x4 s = some r) (rk : Int32) (z' : WS) (hres : (r.1 = 0 ∧ rk = 0 ∧ z' = (r.2.2, vp_updL g 0 r.2.1.toInt64)) ∨ (r.1 = 1 ∧ rk = 1 ∧ z' = (r.2.2, g)) ∨ (r.1 = 2 ∧ rk = 2 ∧ z' = (r.2.2, g)) ∨ (r.1 = 3 ∧ rk = 3 ∧ z' = (r.2.2, g))) : f_Mw l yL_send wsL_send rm_L_send D (x_tys cI cZ cJ) (wwld cI cJ a o) [.ref (a 0), .int x1, .int x2, .int x3, .int x4, .ref o] (s, g) rk z' := by
  refine f_enter (cc := cL_send) (nL := 7) (own := RL) (by decide) rfl rfl (Nat.le_of_ble_eq_true rfl) ?_
  intro p e S0 m args below meth c A X XX ls hl
  have hl : lv_has ls 7 [(0, .ref (a 0)), (1, .int x1), (2, .int x2), (3, .int x3), (4, .int x4), (5, .ref o)] := hl
  refine x_aload X dL_send_0 hl 5 rfl ?_
  refine x_iconst X dL_send_2 xk_iconst_0 ?_
  refine x_aload_n X dL_send_3 rfl hl 0 rfl ?_
  refine x_iload_n X dL_send_4 rfl hl 1 rfl ?_
  refine x_iload_n X dL_send_5 rfl hl 2 rfl ?_
  refine x_iload_n X dL_send_6 rfl hl 3 rfl ?_
  refine x_iload X dL_send_7 hl 4 rfl ?_
  rcases hres with ⟨h0, rfl, rfl⟩ | ⟨h0, rfl, rfl⟩ | ⟨h0, rfl, rfl⟩ | ⟨h0, rfl, rfl⟩
  · refine f_call (wc := cwld cI a) (w1 := []) (w2 := [(o, .inl (cJ, 1, .inr (.inl g)))]) (σ' := (r.2.2, g)) X ⟨XX.1, XX.2.1⟩ 0 7 (cw_o0 cI a s) rfl rfl h0 (c_X7_send l hst D cI cZ cJ a F hf) (cwV 4 X.2.2.2.2.1 gL_send_X7_send rfl rfl rfl (by decide +kernel) ⟨Nat.le_of_ble_eq_true rfl, Nat.le_of_ble_eq_true rfl⟩) rfl hl rfl (Nat.le_of_ble_eq_true rfl) ⟨Nat.zero_le _, Nat.zero_le _⟩ dL_send_9 rfl rfl ?_
    refine x_i2l X dL_send_12 ?_
    refine x_last X 51 2 (ww_o cI cJ a o (r.2.2, g)) rfl (x_in_of (by decide)) (ww_set cI cJ a o (r.2.2, g) _) dL_send_13 ?_
    refine x_goto (tgt := 29) X dL_send_14 rfl ?_
    refine x_iconst X dL_send_29 xk_iconst_0 ?_
    refine x_widen (k1 := 1) (n1 := 6) (by omega) (by omega) ?_
    exact f_ret X rfl rfl dL_send_30
  · have h1 : r.1 ≠ 0 := by rw [h0]; decide
    refine f_callX (wc := cwld cI a) (w1 := []) (w2 := [(o, .inl (cJ, 1, .inr (.inl g)))]) (σ' := (r.2.2, g)) X ⟨XX.1, XX.2.1⟩ 0 7 (cw_o0 cI a s) rfl rfl h1 (c_X7_send l hst D cI cZ cJ a F hf) (cwV 4 X.2.2.2.2.1 gL_send_X7_send rfl rfl rfl (by decide +kernel) ⟨Nat.le_of_ble_eq_true rfl, Nat.le_of_ble_eq_true rfl⟩) rfl hl rfl (Nat.le_of_ble_eq_true rfl) ⟨Nat.le_of_ble_eq_true rfl, Nat.le_of_ble_eq_true rfl⟩ dL_send_9 rfl rfl (fun H1 locs1 q9 ce hP1 hD1 hS1 hce hcv hcl => ?_)
    rw [h0] at hcl
    refine f_catch (σ := (r.2.2, g)) (e9 := 1) X XX.2.2.2 [] ⟨0, 14, 17, 18⟩ [⟨0, 14, 21, 13⟩, ⟨0, 14, 25, 20⟩] rfl (fun z hz => by cases hz) (by decide) (by decide) xl_L_send_18 (by decide +kernel) hP1 hD1 hS1 hce hcv hcl ?_
    refine x_astore (lv' := [(6, .ref q9), (0, .ref (a 0)), (1, .int x1), (2, .int x2), (3, .int x3), (4, .int x4), (5, .ref o)]) X dL_send_17 hl (by decide) rfl (fun ls hl => ?_)
    refine x_iconst X dL_send_19 xk_iconst_1 ?_
    exact f_ret X rfl rfl dL_send_20
  · have h1 : r.1 ≠ 0 := by rw [h0]; decide
    refine f_callX (wc := cwld cI a) (w1 := []) (w2 := [(o, .inl (cJ, 1, .inr (.inl g)))]) (σ' := (r.2.2, g)) X ⟨XX.1, XX.2.1⟩ 0 7 (cw_o0 cI a s) rfl rfl h1 (c_X7_send l hst D cI cZ cJ a F hf) (cwV 4 X.2.2.2.2.1 gL_send_X7_send rfl rfl rfl (by decide +kernel) ⟨Nat.le_of_ble_eq_true rfl, Nat.le_of_ble_eq_true rfl⟩) rfl hl rfl (Nat.le_of_ble_eq_true rfl) ⟨Nat.le_of_ble_eq_true rfl, Nat.le_of_ble_eq_true rfl⟩ dL_send_9 rfl rfl (fun H1 locs1 q9 ce hP1 hD1 hS1 hce hcv hcl => ?_)
    rw [h0] at hcl
    refine f_catch (σ := (r.2.2, g)) (e9 := 2) X XX.2.2.2 [⟨0, 14, 17, 18⟩] ⟨0, 14, 21, 13⟩ [⟨0, 14, 25, 20⟩] rfl (fun z hz => by rcases List.mem_singleton.mp hz with rfl; exact ⟨by decide, _, xl_L_send_18, XX.2.2.1.1⟩) (by decide) (by decide) xl_L_send_13 (by decide +kernel) hP1 hD1 hS1 hce hcv hcl ?_
    refine x_astore (lv' := [(6, .ref q9), (0, .ref (a 0)), (1, .int x1), (2, .int x2), (3, .int x3), (4, .int x4), (5, .ref o)]) X dL_send_21 hl (by decide) rfl (fun ls hl => ?_)
    refine x_iconst X dL_send_23 xk_iconst_2 ?_
    exact f_ret X rfl rfl dL_send_24
  · have h1 : r.1 ≠ 0 := by rw [h0]; decide
    refine f_callX (wc := cwld cI a) (w1 := []) (w2 := [(o, .inl (cJ, 1, .inr (.inl g)))]) (σ' := (r.2.2, g)) X ⟨XX.1, XX.2.1⟩ 0 7 (cw_o0 cI a s) rfl rfl h1 (c_X7_send l hst D cI cZ cJ a F hf) (cwV 4 X.2.2.2.2.1 gL_send_X7_send rfl rfl rfl (by decide +kernel) ⟨Nat.le_of_ble_eq_true rfl, Nat.le_of_ble_eq_true rfl⟩) rfl hl rfl (Nat.le_of_ble_eq_true rfl) ⟨Nat.le_of_ble_eq_true rfl, Nat.le_of_ble_eq_true rfl⟩ dL_send_9 rfl rfl (fun H1 locs1 q9 ce hP1 hD1 hS1 hce hcv hcl => ?_)
    rw [h0] at hcl
    refine f_catch (σ := (r.2.2, g)) (e9 := 3) X XX.2.2.2 [⟨0, 14, 17, 18⟩, ⟨0, 14, 21, 13⟩] ⟨0, 14, 25, 20⟩ [] rfl (fun z hz => by rcases List.mem_cons.mp hz with rfl | hz; exact ⟨by decide, _, xl_L_send_18, XX.2.2.1.2.1⟩; rcases List.mem_singleton.mp hz with rfl; exact ⟨by decide, _, xl_L_send_13, XX.2.2.1.2.2⟩) (by decide) (by decide) xl_L_send_20 (by decide +kernel) hP1 hD1 hS1 hce hcv hcl ?_
    refine x_astore (lv' := [(6, .ref q9), (0, .ref (a 0)), (1, .int x1), (2, .int x2), (3, .int x3), (4, .int x4), (5, .ref o)]) X dL_send_25 hl (by decide) rfl (fun ls hl => ?_)
    refine x_iconst X dL_send_27 xk_iconst_3 ?_
    exact f_ret X rfl rfl dL_send_28
def rm_L_run : Room := { frames := 7, cells := 1, slots := 6, locals := 140 }
theorem xl_L_run_13 : Cond.classLink RL 13 "java/lang/IllegalArgumentException" ∈ wsL_run := by decide +kernel
set_option maxHeartbeats 4000000 in
set_option maxRecDepth 100000 in
theorem c_L_run (l : Launch) (hst : l.stackTraces = false) (D : va_G) (cI cZ cJ : ClassId) (a : Nat → Nat) (o F : Nat) (s : CS) (g : Nat → Int64) (x1 : Int32) {r : XR} (hf : r_X7_run F x1 s = some r) (rk : Int32) (z' : WS) (hres : (r.1 = 0 ∧ rk = 0 ∧ z' = (r.2.2, vp_updL g 0 r.2.1.toInt64)) ∨ (r.1 = 2 ∧ rk = 1 ∧ z' = (r.2.2, g))) : f_Mw l yL_run wsL_run rm_L_run D (x_tys cI cZ cJ) (wwld cI cJ a o) [.ref (a 0), .int x1, .ref o] (s, g) rk z' := by
  refine f_enter (cc := cL_run) (nL := 4) (own := RL) (by decide) rfl rfl (Nat.le_of_ble_eq_true rfl) ?_
  intro p e S0 m args below meth c A X XX ls hl
  have hl : lv_has ls 4 [(0, .ref (a 0)), (1, .int x1), (2, .ref o)] := hl
  refine x_aload_n X dL_run_0 rfl hl 2 rfl ?_
  refine x_iconst X dL_run_1 xk_iconst_0 ?_
  refine x_aload_n X dL_run_2 rfl hl 0 rfl ?_
  refine x_iload_n X dL_run_3 rfl hl 1 rfl ?_
  rcases hres with ⟨h0, rfl, rfl⟩ | ⟨h0, rfl, rfl⟩
  · refine f_call (wc := cwld cI a) (w1 := []) (w2 := [(o, .inl (cJ, 1, .inr (.inl g)))]) (σ' := (r.2.2, g)) X ⟨XX.1, XX.2.1⟩ 0 7 (cw_o0 cI a s) rfl rfl h0 (c_X7_run l hst D cI cZ cJ a F hf) (cwV 1 X.2.2.2.2.1 gL_run_X7_run rfl rfl rfl (by decide +kernel) ⟨Nat.le_of_ble_eq_true rfl, Nat.le_of_ble_eq_true rfl⟩) rfl hl rfl (Nat.le_of_ble_eq_true rfl) ⟨Nat.zero_le _, Nat.zero_le _⟩ dL_run_4 rfl rfl ?_
    refine x_i2l X dL_run_7 ?_
    refine x_last X 51 2 (ww_o cI cJ a o (r.2.2, g)) rfl (x_in_of (by decide)) (ww_set cI cJ a o (r.2.2, g) _) dL_run_8 ?_
    refine x_goto (tgt := 15) X dL_run_9 rfl ?_
    refine x_iconst X dL_run_15 xk_iconst_0 ?_
    refine x_widen (k1 := 1) (n1 := 6) (by omega) (by omega) ?_
    exact f_ret X rfl rfl dL_run_16
  · have h1 : r.1 ≠ 0 := by rw [h0]; decide
    refine f_callX (wc := cwld cI a) (w1 := []) (w2 := [(o, .inl (cJ, 1, .inr (.inl g)))]) (σ' := (r.2.2, g)) X ⟨XX.1, XX.2.1⟩ 0 7 (cw_o0 cI a s) rfl rfl h1 (c_X7_run l hst D cI cZ cJ a F hf) (cwV 1 X.2.2.2.2.1 gL_run_X7_run rfl rfl rfl (by decide +kernel) ⟨Nat.le_of_ble_eq_true rfl, Nat.le_of_ble_eq_true rfl⟩) rfl hl rfl (Nat.le_of_ble_eq_true rfl) ⟨Nat.le_of_ble_eq_true rfl, Nat.le_of_ble_eq_true rfl⟩ dL_run_4 rfl rfl (fun H1 locs1 q9 ce hP1 hD1 hS1 hce hcv hcl => ?_)
    rw [h0] at hcl
    refine f_catch (σ := (r.2.2, g)) (e9 := 2) X XX.2.2.2 [] ⟨0, 9, 12, 13⟩ [] rfl (fun z hz => by cases hz) (by decide) (by decide) xl_L_run_13 (by decide +kernel) hP1 hD1 hS1 hce hcv hcl ?_
    refine x_astore_n (lv' := [(3, .ref q9), (0, .ref (a 0)), (1, .int x1), (2, .ref o)]) X dL_run_12 rfl hl (by decide) rfl (fun ls hl => ?_)
    refine x_iconst X dL_run_13 xk_iconst_1 ?_
    exact f_ret X rfl rfl dL_run_14
def rm_L_pause : Room := { frames := 8, cells := 1, slots := 6, locals := 126 }
theorem xl_L_pause_18 : Cond.classLink RL 18 "java/lang/IndexOutOfBoundsException" ∈ wsL_pause := by decide +kernel
set_option maxHeartbeats 4000000 in
set_option maxRecDepth 100000 in
theorem c_L_pause (l : Launch) (hst : l.stackTraces = false) (D : va_G) (cI cZ cJ : ClassId) (a : Nat → Nat) (o F : Nat) (s : CS) (g : Nat → Int64) (x1 x2 : Int32) {r : XR} (hf : r_X7_pause F x1 x2 s = some r) (rk : Int32) (z' : WS) (hres : (r.1 = 0 ∧ rk = 0 ∧ z' = (r.2.2, vp_updL g 0 (if r.2.1 = 0 then 0 else 1))) ∨ (r.1 = 1 ∧ rk = 1 ∧ z' = (r.2.2, g))) : f_Mw l yL_pause wsL_pause rm_L_pause D (x_tys cI cZ cJ) (wwld cI cJ a o) [.ref (a 0), .int x1, .int x2, .ref o] (s, g) rk z' := by
  refine f_enter (cc := cL_pause) (nL := 5) (own := RL) (by decide) rfl rfl (Nat.le_of_ble_eq_true rfl) ?_
  intro p e S0 m args below meth c A X XX ls hl
  have hl : lv_has ls 5 [(0, .ref (a 0)), (1, .int x1), (2, .int x2), (3, .ref o)] := hl
  refine x_aload_n X dL_pause_0 rfl hl 3 rfl ?_
  refine x_iconst X dL_pause_1 xk_iconst_0 ?_
  refine x_aload_n X dL_pause_2 rfl hl 0 rfl ?_
  refine x_iload_n X dL_pause_3 rfl hl 1 rfl ?_
  refine x_iload_n X dL_pause_4 rfl hl 2 rfl ?_
  rcases hres with ⟨h0, rfl, rfl⟩ | ⟨h0, rfl, rfl⟩
  · refine f_call (wc := cwld cI a) (w1 := []) (w2 := [(o, .inl (cJ, 1, .inr (.inl g)))]) (σ' := (r.2.2, g)) X ⟨XX.1, XX.2.1⟩ 0 7 (cw_o0 cI a s) rfl rfl h0 (c_X7_pause l hst D cI cZ cJ a F hf) (cwV 2 X.2.2.2.2.1 gL_pause_X7_pause rfl rfl rfl (by decide +kernel) ⟨Nat.le_of_ble_eq_true rfl, Nat.le_of_ble_eq_true rfl⟩) rfl hl rfl (Nat.le_of_ble_eq_true rfl) ⟨Nat.zero_le _, Nat.zero_le _⟩ dL_pause_5 rfl rfl ?_
    refine x_if_eq (tgt := 15) X dL_pause_8 rfl (fun q1 => ?_) (fun q1 => ?_)
    · rw [if_pos q1]
      refine x_lconst (v := 0) X dL_pause_15 (by decide) ?_
      refine x_last X 51 2 (ww_o cI cJ a o (r.2.2, g)) rfl (x_in_of (by decide)) (ww_set cI cJ a o (r.2.2, g) _) dL_pause_16 ?_
      refine x_goto (tgt := 24) X dL_pause_17 rfl ?_
      refine x_iconst X dL_pause_24 xk_iconst_0 ?_
      refine x_widen (k1 := 1) (n1 := 6) (by omega) (by omega) ?_
      exact f_ret X rfl rfl dL_pause_25
    · rw [if_neg q1]
      refine x_lconst (v := 1) X dL_pause_11 (by decide) ?_
      refine x_goto (tgt := 16) X dL_pause_12 rfl ?_
      refine x_last X 51 2 (ww_o cI cJ a o (r.2.2, g)) rfl (x_in_of (by decide)) (ww_set cI cJ a o (r.2.2, g) _) dL_pause_16 ?_
      refine x_goto (tgt := 24) X dL_pause_17 rfl ?_
      refine x_iconst X dL_pause_24 xk_iconst_0 ?_
      refine x_widen (k1 := 1) (n1 := 6) (by omega) (by omega) ?_
      exact f_ret X rfl rfl dL_pause_25
  · have h1 : r.1 ≠ 0 := by rw [h0]; decide
    refine f_callX (wc := cwld cI a) (w1 := []) (w2 := [(o, .inl (cJ, 1, .inr (.inl g)))]) (σ' := (r.2.2, g)) X ⟨XX.1, XX.2.1⟩ 0 7 (cw_o0 cI a s) rfl rfl h1 (c_X7_pause l hst D cI cZ cJ a F hf) (cwV 2 X.2.2.2.2.1 gL_pause_X7_pause rfl rfl rfl (by decide +kernel) ⟨Nat.le_of_ble_eq_true rfl, Nat.le_of_ble_eq_true rfl⟩) rfl hl rfl (Nat.le_of_ble_eq_true rfl) ⟨Nat.le_of_ble_eq_true rfl, Nat.le_of_ble_eq_true rfl⟩ dL_pause_5 rfl rfl (fun H1 locs1 q9 ce hP1 hD1 hS1 hce hcv hcl => ?_)
    rw [h0] at hcl
    refine f_catch (σ := (r.2.2, g)) (e9 := 1) X XX.2.2.2 [] ⟨0, 17, 20, 18⟩ [] rfl (fun z hz => by cases hz) (by decide) (by decide) xl_L_pause_18 (by decide +kernel) hP1 hD1 hS1 hce hcv hcl ?_
    refine x_astore (lv' := [(4, .ref q9), (0, .ref (a 0)), (1, .int x1), (2, .int x2), (3, .ref o)]) X dL_pause_20 hl (by decide) rfl (fun ls hl => ?_)
    refine x_iconst X dL_pause_22 xk_iconst_1 ?_
    exact f_ret X rfl rfl dL_pause_23
def rm_L_lose : Room := { frames := 9, cells := 1, slots := 6, locals := 149 }
theorem xl_L_lose_18 : Cond.classLink RL 18 "java/lang/IndexOutOfBoundsException" ∈ wsL_lose := by decide +kernel
theorem xl_L_lose_13 : Cond.classLink RL 13 "java/lang/IllegalArgumentException" ∈ wsL_lose := by decide +kernel
theorem xl_L_lose_20 : Cond.classLink RL 20 "java/lang/IllegalStateException" ∈ wsL_lose := by decide +kernel
set_option maxHeartbeats 4000000 in
set_option maxRecDepth 100000 in
theorem c_L_lose (l : Launch) (hst : l.stackTraces = false) (D : va_G) (cI cZ cJ : ClassId) (a : Nat → Nat) (o F : Nat) (s : CS) (g : Nat → Int64) (x1 x2 x3 : Int32) {r : XR} (hf : r_X7_lose F x1 x2 x3 s = some r) (rk : Int32) (z' : WS) (hres : (r.1 = 0 ∧ rk = 0 ∧ z' = (r.2.2, vp_updL g 0 r.2.1.toInt64)) ∨ (r.1 = 1 ∧ rk = 1 ∧ z' = (r.2.2, g)) ∨ (r.1 = 2 ∧ rk = 2 ∧ z' = (r.2.2, g)) ∨ (r.1 = 3 ∧ rk = 3 ∧ z' = (r.2.2, g))) : f_Mw l yL_lose wsL_lose rm_L_lose D (x_tys cI cZ cJ) (wwld cI cJ a o) [.ref (a 0), .int x1, .int x2, .int x3, .ref o] (s, g) rk z' := by
  refine f_enter (cc := cL_lose) (nL := 6) (own := RL) (by decide) rfl rfl (Nat.le_of_ble_eq_true rfl) ?_
  intro p e S0 m args below meth c A X XX ls hl
  have hl : lv_has ls 6 [(0, .ref (a 0)), (1, .int x1), (2, .int x2), (3, .int x3), (4, .ref o)] := hl
  refine x_aload X dL_lose_0 hl 4 rfl ?_
  refine x_iconst X dL_lose_2 xk_iconst_0 ?_
  refine x_aload_n X dL_lose_3 rfl hl 0 rfl ?_
  refine x_iload_n X dL_lose_4 rfl hl 1 rfl ?_
  refine x_iload_n X dL_lose_5 rfl hl 2 rfl ?_
  refine x_iload_n X dL_lose_6 rfl hl 3 rfl ?_
  rcases hres with ⟨h0, rfl, rfl⟩ | ⟨h0, rfl, rfl⟩ | ⟨h0, rfl, rfl⟩ | ⟨h0, rfl, rfl⟩
  · refine f_call (wc := cwld cI a) (w1 := []) (w2 := [(o, .inl (cJ, 1, .inr (.inl g)))]) (σ' := (r.2.2, g)) X ⟨XX.1, XX.2.1⟩ 0 7 (cw_o0 cI a s) rfl rfl h0 (c_X7_lose l hst D cI cZ cJ a F hf) (cwV 3 X.2.2.2.2.1 gL_lose_X7_lose rfl rfl rfl (by decide +kernel) ⟨Nat.le_of_ble_eq_true rfl, Nat.le_of_ble_eq_true rfl⟩) rfl hl rfl (Nat.le_of_ble_eq_true rfl) ⟨Nat.zero_le _, Nat.zero_le _⟩ dL_lose_7 rfl rfl ?_
    refine x_i2l X dL_lose_10 ?_
    refine x_last X 51 2 (ww_o cI cJ a o (r.2.2, g)) rfl (x_in_of (by decide)) (ww_set cI cJ a o (r.2.2, g) _) dL_lose_11 ?_
    refine x_goto (tgt := 27) X dL_lose_12 rfl ?_
    refine x_iconst X dL_lose_27 xk_iconst_0 ?_
    refine x_widen (k1 := 1) (n1 := 6) (by omega) (by omega) ?_
    exact f_ret X rfl rfl dL_lose_28
  · have h1 : r.1 ≠ 0 := by rw [h0]; decide
    refine f_callX (wc := cwld cI a) (w1 := []) (w2 := [(o, .inl (cJ, 1, .inr (.inl g)))]) (σ' := (r.2.2, g)) X ⟨XX.1, XX.2.1⟩ 0 7 (cw_o0 cI a s) rfl rfl h1 (c_X7_lose l hst D cI cZ cJ a F hf) (cwV 3 X.2.2.2.2.1 gL_lose_X7_lose rfl rfl rfl (by decide +kernel) ⟨Nat.le_of_ble_eq_true rfl, Nat.le_of_ble_eq_true rfl⟩) rfl hl rfl (Nat.le_of_ble_eq_true rfl) ⟨Nat.le_of_ble_eq_true rfl, Nat.le_of_ble_eq_true rfl⟩ dL_lose_7 rfl rfl (fun H1 locs1 q9 ce hP1 hD1 hS1 hce hcv hcl => ?_)
    rw [h0] at hcl
    refine f_catch (σ := (r.2.2, g)) (e9 := 1) X XX.2.2.2 [] ⟨0, 12, 15, 18⟩ [⟨0, 12, 19, 13⟩, ⟨0, 12, 23, 20⟩] rfl (fun z hz => by cases hz) (by decide) (by decide) xl_L_lose_18 (by decide +kernel) hP1 hD1 hS1 hce hcv hcl ?_
    refine x_astore (lv' := [(5, .ref q9), (0, .ref (a 0)), (1, .int x1), (2, .int x2), (3, .int x3), (4, .ref o)]) X dL_lose_15 hl (by decide) rfl (fun ls hl => ?_)
    refine x_iconst X dL_lose_17 xk_iconst_1 ?_
    exact f_ret X rfl rfl dL_lose_18
  · have h1 : r.1 ≠ 0 := by rw [h0]; decide
    refine f_callX (wc := cwld cI a) (w1 := []) (w2 := [(o, .inl (cJ, 1, .inr (.inl g)))]) (σ' := (r.2.2, g)) X ⟨XX.1, XX.2.1⟩ 0 7 (cw_o0 cI a s) rfl rfl h1 (c_X7_lose l hst D cI cZ cJ a F hf) (cwV 3 X.2.2.2.2.1 gL_lose_X7_lose rfl rfl rfl (by decide +kernel) ⟨Nat.le_of_ble_eq_true rfl, Nat.le_of_ble_eq_true rfl⟩) rfl hl rfl (Nat.le_of_ble_eq_true rfl) ⟨Nat.le_of_ble_eq_true rfl, Nat.le_of_ble_eq_true rfl⟩ dL_lose_7 rfl rfl (fun H1 locs1 q9 ce hP1 hD1 hS1 hce hcv hcl => ?_)
    rw [h0] at hcl
    refine f_catch (σ := (r.2.2, g)) (e9 := 2) X XX.2.2.2 [⟨0, 12, 15, 18⟩] ⟨0, 12, 19, 13⟩ [⟨0, 12, 23, 20⟩] rfl (fun z hz => by rcases List.mem_singleton.mp hz with rfl; exact ⟨by decide, _, xl_L_lose_18, XX.2.2.1.1⟩) (by decide) (by decide) xl_L_lose_13 (by decide +kernel) hP1 hD1 hS1 hce hcv hcl ?_
    refine x_astore (lv' := [(5, .ref q9), (0, .ref (a 0)), (1, .int x1), (2, .int x2), (3, .int x3), (4, .ref o)]) X dL_lose_19 hl (by decide) rfl (fun ls hl => ?_)
    refine x_iconst X dL_lose_21 xk_iconst_2 ?_
    exact f_ret X rfl rfl dL_lose_22
  · have h1 : r.1 ≠ 0 := by rw [h0]; decide
    refine f_callX (wc := cwld cI a) (w1 := []) (w2 := [(o, .inl (cJ, 1, .inr (.inl g)))]) (σ' := (r.2.2, g)) X ⟨XX.1, XX.2.1⟩ 0 7 (cw_o0 cI a s) rfl rfl h1 (c_X7_lose l hst D cI cZ cJ a F hf) (cwV 3 X.2.2.2.2.1 gL_lose_X7_lose rfl rfl rfl (by decide +kernel) ⟨Nat.le_of_ble_eq_true rfl, Nat.le_of_ble_eq_true rfl⟩) rfl hl rfl (Nat.le_of_ble_eq_true rfl) ⟨Nat.le_of_ble_eq_true rfl, Nat.le_of_ble_eq_true rfl⟩ dL_lose_7 rfl rfl (fun H1 locs1 q9 ce hP1 hD1 hS1 hce hcv hcl => ?_)
    rw [h0] at hcl
    refine f_catch (σ := (r.2.2, g)) (e9 := 3) X XX.2.2.2 [⟨0, 12, 15, 18⟩, ⟨0, 12, 19, 13⟩] ⟨0, 12, 23, 20⟩ [] rfl (fun z hz => by rcases List.mem_cons.mp hz with rfl | hz; exact ⟨by decide, _, xl_L_lose_18, XX.2.2.1.2.1⟩; rcases List.mem_singleton.mp hz with rfl; exact ⟨by decide, _, xl_L_lose_13, XX.2.2.1.2.2⟩) (by decide) (by decide) xl_L_lose_20 (by decide +kernel) hP1 hD1 hS1 hce hcv hcl ?_
    refine x_astore (lv' := [(5, .ref q9), (0, .ref (a 0)), (1, .int x1), (2, .int x2), (3, .int x3), (4, .ref o)]) X dL_lose_23 hl (by decide) rfl (fun ls hl => ?_)
    refine x_iconst X dL_lose_25 xk_iconst_3 ?_
    exact f_ret X rfl rfl dL_lose_26
def rm_L_credits : Room := { frames := 9, cells := 1, slots := 6, locals := 148 }
theorem xl_L_credits_18 : Cond.classLink RL 18 "java/lang/IndexOutOfBoundsException" ∈ wsL_credits := by decide +kernel
theorem xl_L_credits_13 : Cond.classLink RL 13 "java/lang/IllegalArgumentException" ∈ wsL_credits := by decide +kernel
set_option maxHeartbeats 4000000 in
set_option maxRecDepth 100000 in
theorem c_L_credits (l : Launch) (hst : l.stackTraces = false) (D : va_G) (cI cZ cJ : ClassId) (a : Nat → Nat) (o F : Nat) (s : CS) (g : Nat → Int64) (x1 x2 x3 : Int32) {r : XR} (hf : r_X7_credits F x1 x2 x3 s = some r) (rk : Int32) (z' : WS) (hres : (r.1 = 0 ∧ rk = 0 ∧ z' = (r.2.2, vp_updL g 0 r.2.1.toInt64)) ∨ (r.1 = 1 ∧ rk = 1 ∧ z' = (r.2.2, g)) ∨ (r.1 = 2 ∧ rk = 2 ∧ z' = (r.2.2, g))) : f_Mw l yL_credits wsL_credits rm_L_credits D (x_tys cI cZ cJ) (wwld cI cJ a o) [.ref (a 0), .int x1, .int x2, .int x3, .ref o] (s, g) rk z' := by
  refine f_enter (cc := cL_credits) (nL := 6) (own := RL) (by decide) rfl rfl (Nat.le_of_ble_eq_true rfl) ?_
  intro p e S0 m args below meth c A X XX ls hl
  have hl : lv_has ls 6 [(0, .ref (a 0)), (1, .int x1), (2, .int x2), (3, .int x3), (4, .ref o)] := hl
  refine x_aload X dL_credits_0 hl 4 rfl ?_
  refine x_iconst X dL_credits_2 xk_iconst_0 ?_
  refine x_aload_n X dL_credits_3 rfl hl 0 rfl ?_
  refine x_iload_n X dL_credits_4 rfl hl 1 rfl ?_
  refine x_iload_n X dL_credits_5 rfl hl 2 rfl ?_
  refine x_iload_n X dL_credits_6 rfl hl 3 rfl ?_
  rcases hres with ⟨h0, rfl, rfl⟩ | ⟨h0, rfl, rfl⟩ | ⟨h0, rfl, rfl⟩
  · refine f_call (wc := cwld cI a) (w1 := []) (w2 := [(o, .inl (cJ, 1, .inr (.inl g)))]) (σ' := (r.2.2, g)) X ⟨XX.1, XX.2.1⟩ 0 7 (cw_o0 cI a s) rfl rfl h0 (c_X7_credits l hst D cI cZ cJ a F hf) (cwV 3 X.2.2.2.2.1 gL_credits_X7_credits rfl rfl rfl (by decide +kernel) ⟨Nat.le_of_ble_eq_true rfl, Nat.le_of_ble_eq_true rfl⟩) rfl hl rfl (Nat.le_of_ble_eq_true rfl) ⟨Nat.zero_le _, Nat.zero_le _⟩ dL_credits_7 rfl rfl ?_
    refine x_i2l X dL_credits_10 ?_
    refine x_last X 51 2 (ww_o cI cJ a o (r.2.2, g)) rfl (x_in_of (by decide)) (ww_set cI cJ a o (r.2.2, g) _) dL_credits_11 ?_
    refine x_goto (tgt := 23) X dL_credits_12 rfl ?_
    refine x_iconst X dL_credits_23 xk_iconst_0 ?_
    refine x_widen (k1 := 1) (n1 := 6) (by omega) (by omega) ?_
    exact f_ret X rfl rfl dL_credits_24
  · have h1 : r.1 ≠ 0 := by rw [h0]; decide
    refine f_callX (wc := cwld cI a) (w1 := []) (w2 := [(o, .inl (cJ, 1, .inr (.inl g)))]) (σ' := (r.2.2, g)) X ⟨XX.1, XX.2.1⟩ 0 7 (cw_o0 cI a s) rfl rfl h1 (c_X7_credits l hst D cI cZ cJ a F hf) (cwV 3 X.2.2.2.2.1 gL_credits_X7_credits rfl rfl rfl (by decide +kernel) ⟨Nat.le_of_ble_eq_true rfl, Nat.le_of_ble_eq_true rfl⟩) rfl hl rfl (Nat.le_of_ble_eq_true rfl) ⟨Nat.le_of_ble_eq_true rfl, Nat.le_of_ble_eq_true rfl⟩ dL_credits_7 rfl rfl (fun H1 locs1 q9 ce hP1 hD1 hS1 hce hcv hcl => ?_)
    rw [h0] at hcl
    refine f_catch (σ := (r.2.2, g)) (e9 := 1) X XX.2.2.2 [] ⟨0, 12, 15, 18⟩ [⟨0, 12, 19, 13⟩] rfl (fun z hz => by cases hz) (by decide) (by decide) xl_L_credits_18 (by decide +kernel) hP1 hD1 hS1 hce hcv hcl ?_
    refine x_astore (lv' := [(5, .ref q9), (0, .ref (a 0)), (1, .int x1), (2, .int x2), (3, .int x3), (4, .ref o)]) X dL_credits_15 hl (by decide) rfl (fun ls hl => ?_)
    refine x_iconst X dL_credits_17 xk_iconst_1 ?_
    exact f_ret X rfl rfl dL_credits_18
  · have h1 : r.1 ≠ 0 := by rw [h0]; decide
    refine f_callX (wc := cwld cI a) (w1 := []) (w2 := [(o, .inl (cJ, 1, .inr (.inl g)))]) (σ' := (r.2.2, g)) X ⟨XX.1, XX.2.1⟩ 0 7 (cw_o0 cI a s) rfl rfl h1 (c_X7_credits l hst D cI cZ cJ a F hf) (cwV 3 X.2.2.2.2.1 gL_credits_X7_credits rfl rfl rfl (by decide +kernel) ⟨Nat.le_of_ble_eq_true rfl, Nat.le_of_ble_eq_true rfl⟩) rfl hl rfl (Nat.le_of_ble_eq_true rfl) ⟨Nat.le_of_ble_eq_true rfl, Nat.le_of_ble_eq_true rfl⟩ dL_credits_7 rfl rfl (fun H1 locs1 q9 ce hP1 hD1 hS1 hce hcv hcl => ?_)
    rw [h0] at hcl
    refine f_catch (σ := (r.2.2, g)) (e9 := 2) X XX.2.2.2 [⟨0, 12, 15, 18⟩] ⟨0, 12, 19, 13⟩ [] rfl (fun z hz => by rcases List.mem_singleton.mp hz with rfl; exact ⟨by decide, _, xl_L_credits_18, XX.2.2.1.1⟩) (by decide) (by decide) xl_L_credits_13 (by decide +kernel) hP1 hD1 hS1 hce hcv hcl ?_
    refine x_astore (lv' := [(5, .ref q9), (0, .ref (a 0)), (1, .int x1), (2, .int x2), (3, .int x3), (4, .ref o)]) X dL_credits_19 hl (by decide) rfl (fun ls hl => ?_)
    refine x_iconst X dL_credits_21 xk_iconst_2 ?_
    exact f_ret X rfl rfl dL_credits_22
def rm_L_inBuffer : Room := { frames := 8, cells := 1, slots := 6, locals := 126 }
theorem xl_L_inBuffer_18 : Cond.classLink RL 18 "java/lang/IndexOutOfBoundsException" ∈ wsL_inBuffer := by decide +kernel
theorem xl_L_inBuffer_13 : Cond.classLink RL 13 "java/lang/IllegalArgumentException" ∈ wsL_inBuffer := by decide +kernel
set_option maxHeartbeats 4000000 in
set_option maxRecDepth 100000 in
theorem c_L_inBuffer (l : Launch) (hst : l.stackTraces = false) (D : va_G) (cI cZ cJ : ClassId) (a : Nat → Nat) (o F : Nat) (s : CS) (g : Nat → Int64) (x1 x2 x3 : Int32) {r : XR} (hf : r_X7_inBuffer F x1 x2 x3 s = some r) (rk : Int32) (z' : WS) (hres : (r.1 = 0 ∧ rk = 0 ∧ z' = (r.2.2, vp_updL g 0 r.2.1.toInt64)) ∨ (r.1 = 1 ∧ rk = 1 ∧ z' = (r.2.2, g)) ∨ (r.1 = 2 ∧ rk = 2 ∧ z' = (r.2.2, g))) : f_Mw l yL_inBuffer wsL_inBuffer rm_L_inBuffer D (x_tys cI cZ cJ) (wwld cI cJ a o) [.ref (a 0), .int x1, .int x2, .int x3, .ref o] (s, g) rk z' := by
  refine f_enter (cc := cL_inBuffer) (nL := 6) (own := RL) (by decide) rfl rfl (Nat.le_of_ble_eq_true rfl) ?_
  intro p e S0 m args below meth c A X XX ls hl
  have hl : lv_has ls 6 [(0, .ref (a 0)), (1, .int x1), (2, .int x2), (3, .int x3), (4, .ref o)] := hl
  refine x_aload X dL_inBuffer_0 hl 4 rfl ?_
  refine x_iconst X dL_inBuffer_2 xk_iconst_0 ?_
  refine x_aload_n X dL_inBuffer_3 rfl hl 0 rfl ?_
  refine x_iload_n X dL_inBuffer_4 rfl hl 1 rfl ?_
  refine x_iload_n X dL_inBuffer_5 rfl hl 2 rfl ?_
  refine x_iload_n X dL_inBuffer_6 rfl hl 3 rfl ?_
  rcases hres with ⟨h0, rfl, rfl⟩ | ⟨h0, rfl, rfl⟩ | ⟨h0, rfl, rfl⟩
  · refine f_call (wc := cwld cI a) (w1 := []) (w2 := [(o, .inl (cJ, 1, .inr (.inl g)))]) (σ' := (r.2.2, g)) X ⟨XX.1, XX.2.1⟩ 0 7 (cw_o0 cI a s) rfl rfl h0 (c_X7_inBuffer l hst D cI cZ cJ a F hf) (cwV 3 X.2.2.2.2.1 gL_inBuffer_X7_inBuffer rfl rfl rfl (by decide +kernel) ⟨Nat.le_of_ble_eq_true rfl, Nat.le_of_ble_eq_true rfl⟩) rfl hl rfl (Nat.le_of_ble_eq_true rfl) ⟨Nat.zero_le _, Nat.zero_le _⟩ dL_inBuffer_7 rfl rfl ?_
    refine x_i2l X dL_inBuffer_10 ?_
    refine x_last X 51 2 (ww_o cI cJ a o (r.2.2, g)) rfl (x_in_of (by decide)) (ww_set cI cJ a o (r.2.2, g) _) dL_inBuffer_11 ?_
    refine x_goto (tgt := 23) X dL_inBuffer_12 rfl ?_
    refine x_iconst X dL_inBuffer_23 xk_iconst_0 ?_
    refine x_widen (k1 := 1) (n1 := 6) (by omega) (by omega) ?_
    exact f_ret X rfl rfl dL_inBuffer_24
  · have h1 : r.1 ≠ 0 := by rw [h0]; decide
    refine f_callX (wc := cwld cI a) (w1 := []) (w2 := [(o, .inl (cJ, 1, .inr (.inl g)))]) (σ' := (r.2.2, g)) X ⟨XX.1, XX.2.1⟩ 0 7 (cw_o0 cI a s) rfl rfl h1 (c_X7_inBuffer l hst D cI cZ cJ a F hf) (cwV 3 X.2.2.2.2.1 gL_inBuffer_X7_inBuffer rfl rfl rfl (by decide +kernel) ⟨Nat.le_of_ble_eq_true rfl, Nat.le_of_ble_eq_true rfl⟩) rfl hl rfl (Nat.le_of_ble_eq_true rfl) ⟨Nat.le_of_ble_eq_true rfl, Nat.le_of_ble_eq_true rfl⟩ dL_inBuffer_7 rfl rfl (fun H1 locs1 q9 ce hP1 hD1 hS1 hce hcv hcl => ?_)
    rw [h0] at hcl
    refine f_catch (σ := (r.2.2, g)) (e9 := 1) X XX.2.2.2 [] ⟨0, 12, 15, 18⟩ [⟨0, 12, 19, 13⟩] rfl (fun z hz => by cases hz) (by decide) (by decide) xl_L_inBuffer_18 (by decide +kernel) hP1 hD1 hS1 hce hcv hcl ?_
    refine x_astore (lv' := [(5, .ref q9), (0, .ref (a 0)), (1, .int x1), (2, .int x2), (3, .int x3), (4, .ref o)]) X dL_inBuffer_15 hl (by decide) rfl (fun ls hl => ?_)
    refine x_iconst X dL_inBuffer_17 xk_iconst_1 ?_
    exact f_ret X rfl rfl dL_inBuffer_18
  · have h1 : r.1 ≠ 0 := by rw [h0]; decide
    refine f_callX (wc := cwld cI a) (w1 := []) (w2 := [(o, .inl (cJ, 1, .inr (.inl g)))]) (σ' := (r.2.2, g)) X ⟨XX.1, XX.2.1⟩ 0 7 (cw_o0 cI a s) rfl rfl h1 (c_X7_inBuffer l hst D cI cZ cJ a F hf) (cwV 3 X.2.2.2.2.1 gL_inBuffer_X7_inBuffer rfl rfl rfl (by decide +kernel) ⟨Nat.le_of_ble_eq_true rfl, Nat.le_of_ble_eq_true rfl⟩) rfl hl rfl (Nat.le_of_ble_eq_true rfl) ⟨Nat.le_of_ble_eq_true rfl, Nat.le_of_ble_eq_true rfl⟩ dL_inBuffer_7 rfl rfl (fun H1 locs1 q9 ce hP1 hD1 hS1 hce hcv hcl => ?_)
    rw [h0] at hcl
    refine f_catch (σ := (r.2.2, g)) (e9 := 2) X XX.2.2.2 [⟨0, 12, 15, 18⟩] ⟨0, 12, 19, 13⟩ [] rfl (fun z hz => by rcases List.mem_singleton.mp hz with rfl; exact ⟨by decide, _, xl_L_inBuffer_18, XX.2.2.1.1⟩) (by decide) (by decide) xl_L_inBuffer_13 (by decide +kernel) hP1 hD1 hS1 hce hcv hcl ?_
    refine x_astore (lv' := [(5, .ref q9), (0, .ref (a 0)), (1, .int x1), (2, .int x2), (3, .int x3), (4, .ref o)]) X dL_inBuffer_19 hl (by decide) rfl (fun ls hl => ?_)
    refine x_iconst X dL_inBuffer_21 xk_iconst_2 ?_
    exact f_ret X rfl rfl dL_inBuffer_22
def rm_L_gap : Room := { frames := 8, cells := 1, slots := 6, locals := 124 }
theorem xl_L_gap_18 : Cond.classLink RL 18 "java/lang/IndexOutOfBoundsException" ∈ wsL_gap := by decide +kernel
set_option maxHeartbeats 4000000 in
set_option maxRecDepth 100000 in
theorem c_L_gap (l : Launch) (hst : l.stackTraces = false) (D : va_G) (cI cZ cJ : ClassId) (a : Nat → Nat) (o F : Nat) (s : CS) (g : Nat → Int64) (x1 : Int32) {r : XR} (hf : r_X7_gap F x1 s = some r) (rk : Int32) (z' : WS) (hres : (r.1 = 0 ∧ rk = 0 ∧ z' = (r.2.2, vp_updL g 0 r.2.1.toInt64)) ∨ (r.1 = 1 ∧ rk = 1 ∧ z' = (r.2.2, g))) : f_Mw l yL_gap wsL_gap rm_L_gap D (x_tys cI cZ cJ) (wwld cI cJ a o) [.ref (a 0), .int x1, .ref o] (s, g) rk z' := by
  refine f_enter (cc := cL_gap) (nL := 4) (own := RL) (by decide) rfl rfl (Nat.le_of_ble_eq_true rfl) ?_
  intro p e S0 m args below meth c A X XX ls hl
  have hl : lv_has ls 4 [(0, .ref (a 0)), (1, .int x1), (2, .ref o)] := hl
  refine x_aload_n X dL_gap_0 rfl hl 2 rfl ?_
  refine x_iconst X dL_gap_1 xk_iconst_0 ?_
  refine x_aload_n X dL_gap_2 rfl hl 0 rfl ?_
  refine x_iload_n X dL_gap_3 rfl hl 1 rfl ?_
  rcases hres with ⟨h0, rfl, rfl⟩ | ⟨h0, rfl, rfl⟩
  · refine f_call (wc := cwld cI a) (w1 := []) (w2 := [(o, .inl (cJ, 1, .inr (.inl g)))]) (σ' := (r.2.2, g)) X ⟨XX.1, XX.2.1⟩ 0 7 (cw_o0 cI a s) rfl rfl h0 (c_X7_gap l hst D cI cZ cJ a F hf) (cwV 1 X.2.2.2.2.1 gL_gap_X7_gap rfl rfl rfl (by decide +kernel) ⟨Nat.le_of_ble_eq_true rfl, Nat.le_of_ble_eq_true rfl⟩) rfl hl rfl (Nat.le_of_ble_eq_true rfl) ⟨Nat.zero_le _, Nat.zero_le _⟩ dL_gap_4 rfl rfl ?_
    refine x_i2l X dL_gap_7 ?_
    refine x_last X 51 2 (ww_o cI cJ a o (r.2.2, g)) rfl (x_in_of (by decide)) (ww_set cI cJ a o (r.2.2, g) _) dL_gap_8 ?_
    refine x_goto (tgt := 15) X dL_gap_9 rfl ?_
    refine x_iconst X dL_gap_15 xk_iconst_0 ?_
    refine x_widen (k1 := 1) (n1 := 6) (by omega) (by omega) ?_
    exact f_ret X rfl rfl dL_gap_16
  · have h1 : r.1 ≠ 0 := by rw [h0]; decide
    refine f_callX (wc := cwld cI a) (w1 := []) (w2 := [(o, .inl (cJ, 1, .inr (.inl g)))]) (σ' := (r.2.2, g)) X ⟨XX.1, XX.2.1⟩ 0 7 (cw_o0 cI a s) rfl rfl h1 (c_X7_gap l hst D cI cZ cJ a F hf) (cwV 1 X.2.2.2.2.1 gL_gap_X7_gap rfl rfl rfl (by decide +kernel) ⟨Nat.le_of_ble_eq_true rfl, Nat.le_of_ble_eq_true rfl⟩) rfl hl rfl (Nat.le_of_ble_eq_true rfl) ⟨Nat.le_of_ble_eq_true rfl, Nat.le_of_ble_eq_true rfl⟩ dL_gap_4 rfl rfl (fun H1 locs1 q9 ce hP1 hD1 hS1 hce hcv hcl => ?_)
    rw [h0] at hcl
    refine f_catch (σ := (r.2.2, g)) (e9 := 1) X XX.2.2.2 [] ⟨0, 9, 12, 18⟩ [] rfl (fun z hz => by cases hz) (by decide) (by decide) xl_L_gap_18 (by decide +kernel) hP1 hD1 hS1 hce hcv hcl ?_
    refine x_astore_n (lv' := [(3, .ref q9), (0, .ref (a 0)), (1, .int x1), (2, .ref o)]) X dL_gap_12 rfl hl (by decide) rfl (fun ls hl => ?_)
    refine x_iconst X dL_gap_13 xk_iconst_1 ?_
    exact f_ret X rfl rfl dL_gap_14
def rm_L_placeOf : Room := { frames := 8, cells := 1, slots := 6, locals := 124 }
theorem xl_L_placeOf_18 : Cond.classLink RL 18 "java/lang/IndexOutOfBoundsException" ∈ wsL_placeOf := by decide +kernel
set_option maxHeartbeats 4000000 in
set_option maxRecDepth 100000 in
theorem c_L_placeOf (l : Launch) (hst : l.stackTraces = false) (D : va_G) (cI cZ cJ : ClassId) (a : Nat → Nat) (o F : Nat) (s : CS) (g : Nat → Int64) (x1 : Int32) {r : XR} (hf : r_X7_placeOf F x1 s = some r) (rk : Int32) (z' : WS) (hres : (r.1 = 0 ∧ rk = 0 ∧ z' = (r.2.2, vp_updL g 0 r.2.1.toInt64)) ∨ (r.1 = 1 ∧ rk = 1 ∧ z' = (r.2.2, g))) : f_Mw l yL_placeOf wsL_placeOf rm_L_placeOf D (x_tys cI cZ cJ) (wwld cI cJ a o) [.ref (a 0), .int x1, .ref o] (s, g) rk z' := by
  refine f_enter (cc := cL_placeOf) (nL := 4) (own := RL) (by decide) rfl rfl (Nat.le_of_ble_eq_true rfl) ?_
  intro p e S0 m args below meth c A X XX ls hl
  have hl : lv_has ls 4 [(0, .ref (a 0)), (1, .int x1), (2, .ref o)] := hl
  refine x_aload_n X dL_placeOf_0 rfl hl 2 rfl ?_
  refine x_iconst X dL_placeOf_1 xk_iconst_0 ?_
  refine x_aload_n X dL_placeOf_2 rfl hl 0 rfl ?_
  refine x_iload_n X dL_placeOf_3 rfl hl 1 rfl ?_
  rcases hres with ⟨h0, rfl, rfl⟩ | ⟨h0, rfl, rfl⟩
  · refine f_call (wc := cwld cI a) (w1 := []) (w2 := [(o, .inl (cJ, 1, .inr (.inl g)))]) (σ' := (r.2.2, g)) X ⟨XX.1, XX.2.1⟩ 0 7 (cw_o0 cI a s) rfl rfl h0 (c_X7_placeOf l hst D cI cZ cJ a F hf) (cwV 1 X.2.2.2.2.1 gL_placeOf_X7_placeOf rfl rfl rfl (by decide +kernel) ⟨Nat.le_of_ble_eq_true rfl, Nat.le_of_ble_eq_true rfl⟩) rfl hl rfl (Nat.le_of_ble_eq_true rfl) ⟨Nat.zero_le _, Nat.zero_le _⟩ dL_placeOf_4 rfl rfl ?_
    refine x_i2l X dL_placeOf_7 ?_
    refine x_last X 51 2 (ww_o cI cJ a o (r.2.2, g)) rfl (x_in_of (by decide)) (ww_set cI cJ a o (r.2.2, g) _) dL_placeOf_8 ?_
    refine x_goto (tgt := 15) X dL_placeOf_9 rfl ?_
    refine x_iconst X dL_placeOf_15 xk_iconst_0 ?_
    refine x_widen (k1 := 1) (n1 := 6) (by omega) (by omega) ?_
    exact f_ret X rfl rfl dL_placeOf_16
  · have h1 : r.1 ≠ 0 := by rw [h0]; decide
    refine f_callX (wc := cwld cI a) (w1 := []) (w2 := [(o, .inl (cJ, 1, .inr (.inl g)))]) (σ' := (r.2.2, g)) X ⟨XX.1, XX.2.1⟩ 0 7 (cw_o0 cI a s) rfl rfl h1 (c_X7_placeOf l hst D cI cZ cJ a F hf) (cwV 1 X.2.2.2.2.1 gL_placeOf_X7_placeOf rfl rfl rfl (by decide +kernel) ⟨Nat.le_of_ble_eq_true rfl, Nat.le_of_ble_eq_true rfl⟩) rfl hl rfl (Nat.le_of_ble_eq_true rfl) ⟨Nat.le_of_ble_eq_true rfl, Nat.le_of_ble_eq_true rfl⟩ dL_placeOf_4 rfl rfl (fun H1 locs1 q9 ce hP1 hD1 hS1 hce hcv hcl => ?_)
    rw [h0] at hcl
    refine f_catch (σ := (r.2.2, g)) (e9 := 1) X XX.2.2.2 [] ⟨0, 9, 12, 18⟩ [] rfl (fun z hz => by cases hz) (by decide) (by decide) xl_L_placeOf_18 (by decide +kernel) hP1 hD1 hS1 hce hcv hcl ?_
    refine x_astore_n (lv' := [(3, .ref q9), (0, .ref (a 0)), (1, .int x1), (2, .ref o)]) X dL_placeOf_12 rfl hl (by decide) rfl (fun ls hl => ?_)
    refine x_iconst X dL_placeOf_13 xk_iconst_1 ?_
    exact f_ret X rfl rfl dL_placeOf_14
def rm_L_hops : Room := { frames := 8, cells := 1, slots := 6, locals := 124 }
theorem xl_L_hops_18 : Cond.classLink RL 18 "java/lang/IndexOutOfBoundsException" ∈ wsL_hops := by decide +kernel
set_option maxHeartbeats 4000000 in
set_option maxRecDepth 100000 in
theorem c_L_hops (l : Launch) (hst : l.stackTraces = false) (D : va_G) (cI cZ cJ : ClassId) (a : Nat → Nat) (o F : Nat) (s : CS) (g : Nat → Int64) (x1 : Int32) {r : XR} (hf : r_X7_hops F x1 s = some r) (rk : Int32) (z' : WS) (hres : (r.1 = 0 ∧ rk = 0 ∧ z' = (r.2.2, vp_updL g 0 r.2.1.toInt64)) ∨ (r.1 = 1 ∧ rk = 1 ∧ z' = (r.2.2, g))) : f_Mw l yL_hops wsL_hops rm_L_hops D (x_tys cI cZ cJ) (wwld cI cJ a o) [.ref (a 0), .int x1, .ref o] (s, g) rk z' := by
  refine f_enter (cc := cL_hops) (nL := 4) (own := RL) (by decide) rfl rfl (Nat.le_of_ble_eq_true rfl) ?_
  intro p e S0 m args below meth c A X XX ls hl
  have hl : lv_has ls 4 [(0, .ref (a 0)), (1, .int x1), (2, .ref o)] := hl
  refine x_aload_n X dL_hops_0 rfl hl 2 rfl ?_
  refine x_iconst X dL_hops_1 xk_iconst_0 ?_
  refine x_aload_n X dL_hops_2 rfl hl 0 rfl ?_
  refine x_iload_n X dL_hops_3 rfl hl 1 rfl ?_
  rcases hres with ⟨h0, rfl, rfl⟩ | ⟨h0, rfl, rfl⟩
  · refine f_call (wc := cwld cI a) (w1 := []) (w2 := [(o, .inl (cJ, 1, .inr (.inl g)))]) (σ' := (r.2.2, g)) X ⟨XX.1, XX.2.1⟩ 0 7 (cw_o0 cI a s) rfl rfl h0 (c_X7_hops l hst D cI cZ cJ a F hf) (cwV 1 X.2.2.2.2.1 gL_hops_X7_hops rfl rfl rfl (by decide +kernel) ⟨Nat.le_of_ble_eq_true rfl, Nat.le_of_ble_eq_true rfl⟩) rfl hl rfl (Nat.le_of_ble_eq_true rfl) ⟨Nat.zero_le _, Nat.zero_le _⟩ dL_hops_4 rfl rfl ?_
    refine x_i2l X dL_hops_7 ?_
    refine x_last X 51 2 (ww_o cI cJ a o (r.2.2, g)) rfl (x_in_of (by decide)) (ww_set cI cJ a o (r.2.2, g) _) dL_hops_8 ?_
    refine x_goto (tgt := 15) X dL_hops_9 rfl ?_
    refine x_iconst X dL_hops_15 xk_iconst_0 ?_
    refine x_widen (k1 := 1) (n1 := 6) (by omega) (by omega) ?_
    exact f_ret X rfl rfl dL_hops_16
  · have h1 : r.1 ≠ 0 := by rw [h0]; decide
    refine f_callX (wc := cwld cI a) (w1 := []) (w2 := [(o, .inl (cJ, 1, .inr (.inl g)))]) (σ' := (r.2.2, g)) X ⟨XX.1, XX.2.1⟩ 0 7 (cw_o0 cI a s) rfl rfl h1 (c_X7_hops l hst D cI cZ cJ a F hf) (cwV 1 X.2.2.2.2.1 gL_hops_X7_hops rfl rfl rfl (by decide +kernel) ⟨Nat.le_of_ble_eq_true rfl, Nat.le_of_ble_eq_true rfl⟩) rfl hl rfl (Nat.le_of_ble_eq_true rfl) ⟨Nat.le_of_ble_eq_true rfl, Nat.le_of_ble_eq_true rfl⟩ dL_hops_4 rfl rfl (fun H1 locs1 q9 ce hP1 hD1 hS1 hce hcv hcl => ?_)
    rw [h0] at hcl
    refine f_catch (σ := (r.2.2, g)) (e9 := 1) X XX.2.2.2 [] ⟨0, 9, 12, 18⟩ [] rfl (fun z hz => by cases hz) (by decide) (by decide) xl_L_hops_18 (by decide +kernel) hP1 hD1 hS1 hce hcv hcl ?_
    refine x_astore_n (lv' := [(3, .ref q9), (0, .ref (a 0)), (1, .int x1), (2, .ref o)]) X dL_hops_12 rfl hl (by decide) rfl (fun ls hl => ?_)
    refine x_iconst X dL_hops_13 xk_iconst_1 ?_
    exact f_ret X rfl rfl dL_hops_14
def rm_L_isMarked : Room := { frames := 8, cells := 1, slots := 6, locals := 124 }
theorem xl_L_isMarked_18 : Cond.classLink RL 18 "java/lang/IndexOutOfBoundsException" ∈ wsL_isMarked := by decide +kernel
set_option maxHeartbeats 4000000 in
set_option maxRecDepth 100000 in
theorem c_L_isMarked (l : Launch) (hst : l.stackTraces = false) (D : va_G) (cI cZ cJ : ClassId) (a : Nat → Nat) (o F : Nat) (s : CS) (g : Nat → Int64) (x1 : Int32) {r : XR} (hf : r_X7_isMarked F x1 s = some r) (rk : Int32) (z' : WS) (hres : (r.1 = 0 ∧ rk = 0 ∧ z' = (r.2.2, vp_updL g 0 (if r.2.1 = 0 then 0 else 1))) ∨ (r.1 = 1 ∧ rk = 1 ∧ z' = (r.2.2, g))) : f_Mw l yL_isMarked wsL_isMarked rm_L_isMarked D (x_tys cI cZ cJ) (wwld cI cJ a o) [.ref (a 0), .int x1, .ref o] (s, g) rk z' := by
  refine f_enter (cc := cL_isMarked) (nL := 4) (own := RL) (by decide) rfl rfl (Nat.le_of_ble_eq_true rfl) ?_
  intro p e S0 m args below meth c A X XX ls hl
  have hl : lv_has ls 4 [(0, .ref (a 0)), (1, .int x1), (2, .ref o)] := hl
  refine x_aload_n X dL_isMarked_0 rfl hl 2 rfl ?_
  refine x_iconst X dL_isMarked_1 xk_iconst_0 ?_
  refine x_aload_n X dL_isMarked_2 rfl hl 0 rfl ?_
  refine x_iload_n X dL_isMarked_3 rfl hl 1 rfl ?_
  rcases hres with ⟨h0, rfl, rfl⟩ | ⟨h0, rfl, rfl⟩
  · refine f_call (wc := cwld cI a) (w1 := []) (w2 := [(o, .inl (cJ, 1, .inr (.inl g)))]) (σ' := (r.2.2, g)) X ⟨XX.1, XX.2.1⟩ 0 7 (cw_o0 cI a s) rfl rfl h0 (c_X7_isMarked l hst D cI cZ cJ a F hf) (cwV 1 X.2.2.2.2.1 gL_isMarked_X7_isMarked rfl rfl rfl (by decide +kernel) ⟨Nat.le_of_ble_eq_true rfl, Nat.le_of_ble_eq_true rfl⟩) rfl hl rfl (Nat.le_of_ble_eq_true rfl) ⟨Nat.zero_le _, Nat.zero_le _⟩ dL_isMarked_4 rfl rfl ?_
    refine x_if_eq (tgt := 14) X dL_isMarked_7 rfl (fun q1 => ?_) (fun q1 => ?_)
    · rw [if_pos q1]
      refine x_lconst (v := 0) X dL_isMarked_14 (by decide) ?_
      refine x_last X 51 2 (ww_o cI cJ a o (r.2.2, g)) rfl (x_in_of (by decide)) (ww_set cI cJ a o (r.2.2, g) _) dL_isMarked_15 ?_
      refine x_goto (tgt := 22) X dL_isMarked_16 rfl ?_
      refine x_iconst X dL_isMarked_22 xk_iconst_0 ?_
      refine x_widen (k1 := 1) (n1 := 6) (by omega) (by omega) ?_
      exact f_ret X rfl rfl dL_isMarked_23
    · rw [if_neg q1]
      refine x_lconst (v := 1) X dL_isMarked_10 (by decide) ?_
      refine x_goto (tgt := 15) X dL_isMarked_11 rfl ?_
      refine x_last X 51 2 (ww_o cI cJ a o (r.2.2, g)) rfl (x_in_of (by decide)) (ww_set cI cJ a o (r.2.2, g) _) dL_isMarked_15 ?_
      refine x_goto (tgt := 22) X dL_isMarked_16 rfl ?_
      refine x_iconst X dL_isMarked_22 xk_iconst_0 ?_
      refine x_widen (k1 := 1) (n1 := 6) (by omega) (by omega) ?_
      exact f_ret X rfl rfl dL_isMarked_23
  · have h1 : r.1 ≠ 0 := by rw [h0]; decide
    refine f_callX (wc := cwld cI a) (w1 := []) (w2 := [(o, .inl (cJ, 1, .inr (.inl g)))]) (σ' := (r.2.2, g)) X ⟨XX.1, XX.2.1⟩ 0 7 (cw_o0 cI a s) rfl rfl h1 (c_X7_isMarked l hst D cI cZ cJ a F hf) (cwV 1 X.2.2.2.2.1 gL_isMarked_X7_isMarked rfl rfl rfl (by decide +kernel) ⟨Nat.le_of_ble_eq_true rfl, Nat.le_of_ble_eq_true rfl⟩) rfl hl rfl (Nat.le_of_ble_eq_true rfl) ⟨Nat.le_of_ble_eq_true rfl, Nat.le_of_ble_eq_true rfl⟩ dL_isMarked_4 rfl rfl (fun H1 locs1 q9 ce hP1 hD1 hS1 hce hcv hcl => ?_)
    rw [h0] at hcl
    refine f_catch (σ := (r.2.2, g)) (e9 := 1) X XX.2.2.2 [] ⟨0, 16, 19, 18⟩ [] rfl (fun z hz => by cases hz) (by decide) (by decide) xl_L_isMarked_18 (by decide +kernel) hP1 hD1 hS1 hce hcv hcl ?_
    refine x_astore_n (lv' := [(3, .ref q9), (0, .ref (a 0)), (1, .int x1), (2, .ref o)]) X dL_isMarked_19 rfl hl (by decide) rfl (fun ls hl => ?_)
    refine x_iconst X dL_isMarked_20 xk_iconst_1 ?_
    exact f_ret X rfl rfl dL_isMarked_21
def rm_L_wants : Room := { frames := 8, cells := 1, slots := 6, locals := 124 }
theorem xl_L_wants_18 : Cond.classLink RL 18 "java/lang/IndexOutOfBoundsException" ∈ wsL_wants := by decide +kernel
set_option maxHeartbeats 4000000 in
set_option maxRecDepth 100000 in
theorem c_L_wants (l : Launch) (hst : l.stackTraces = false) (D : va_G) (cI cZ cJ : ClassId) (a : Nat → Nat) (o F : Nat) (s : CS) (g : Nat → Int64) (x1 : Int32) {r : XR} (hf : r_X7_wants F x1 s = some r) (rk : Int32) (z' : WS) (hres : (r.1 = 0 ∧ rk = 0 ∧ z' = (r.2.2, vp_updL g 0 r.2.1.toInt64)) ∨ (r.1 = 1 ∧ rk = 1 ∧ z' = (r.2.2, g))) : f_Mw l yL_wants wsL_wants rm_L_wants D (x_tys cI cZ cJ) (wwld cI cJ a o) [.ref (a 0), .int x1, .ref o] (s, g) rk z' := by
  refine f_enter (cc := cL_wants) (nL := 4) (own := RL) (by decide) rfl rfl (Nat.le_of_ble_eq_true rfl) ?_
  intro p e S0 m args below meth c A X XX ls hl
  have hl : lv_has ls 4 [(0, .ref (a 0)), (1, .int x1), (2, .ref o)] := hl
  refine x_aload_n X dL_wants_0 rfl hl 2 rfl ?_
  refine x_iconst X dL_wants_1 xk_iconst_0 ?_
  refine x_aload_n X dL_wants_2 rfl hl 0 rfl ?_
  refine x_iload_n X dL_wants_3 rfl hl 1 rfl ?_
  rcases hres with ⟨h0, rfl, rfl⟩ | ⟨h0, rfl, rfl⟩
  · refine f_call (wc := cwld cI a) (w1 := []) (w2 := [(o, .inl (cJ, 1, .inr (.inl g)))]) (σ' := (r.2.2, g)) X ⟨XX.1, XX.2.1⟩ 0 7 (cw_o0 cI a s) rfl rfl h0 (c_X7_wants l hst D cI cZ cJ a F hf) (cwV 1 X.2.2.2.2.1 gL_wants_X7_wants rfl rfl rfl (by decide +kernel) ⟨Nat.le_of_ble_eq_true rfl, Nat.le_of_ble_eq_true rfl⟩) rfl hl rfl (Nat.le_of_ble_eq_true rfl) ⟨Nat.zero_le _, Nat.zero_le _⟩ dL_wants_4 rfl rfl ?_
    refine x_i2l X dL_wants_7 ?_
    refine x_last X 51 2 (ww_o cI cJ a o (r.2.2, g)) rfl (x_in_of (by decide)) (ww_set cI cJ a o (r.2.2, g) _) dL_wants_8 ?_
    refine x_goto (tgt := 15) X dL_wants_9 rfl ?_
    refine x_iconst X dL_wants_15 xk_iconst_0 ?_
    refine x_widen (k1 := 1) (n1 := 6) (by omega) (by omega) ?_
    exact f_ret X rfl rfl dL_wants_16
  · have h1 : r.1 ≠ 0 := by rw [h0]; decide
    refine f_callX (wc := cwld cI a) (w1 := []) (w2 := [(o, .inl (cJ, 1, .inr (.inl g)))]) (σ' := (r.2.2, g)) X ⟨XX.1, XX.2.1⟩ 0 7 (cw_o0 cI a s) rfl rfl h1 (c_X7_wants l hst D cI cZ cJ a F hf) (cwV 1 X.2.2.2.2.1 gL_wants_X7_wants rfl rfl rfl (by decide +kernel) ⟨Nat.le_of_ble_eq_true rfl, Nat.le_of_ble_eq_true rfl⟩) rfl hl rfl (Nat.le_of_ble_eq_true rfl) ⟨Nat.le_of_ble_eq_true rfl, Nat.le_of_ble_eq_true rfl⟩ dL_wants_4 rfl rfl (fun H1 locs1 q9 ce hP1 hD1 hS1 hce hcv hcl => ?_)
    rw [h0] at hcl
    refine f_catch (σ := (r.2.2, g)) (e9 := 1) X XX.2.2.2 [] ⟨0, 9, 12, 18⟩ [] rfl (fun z hz => by cases hz) (by decide) (by decide) xl_L_wants_18 (by decide +kernel) hP1 hD1 hS1 hce hcv hcl ?_
    refine x_astore_n (lv' := [(3, .ref q9), (0, .ref (a 0)), (1, .int x1), (2, .ref o)]) X dL_wants_12 rfl hl (by decide) rfl (fun ls hl => ?_)
    refine x_iconst X dL_wants_13 xk_iconst_1 ?_
    exact f_ret X rfl rfl dL_wants_14
