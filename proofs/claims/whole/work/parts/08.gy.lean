/-! constructors: the cells are a list that grows -/
section YCO
variable {p : Program} {l : Launch} {e : Env} {R : Room} {s : State} {m : MethodId} {args : Array Value} {below : List Frame} {meth : Method} {c : Code} {k n : Nat} {Q : State → Prop} {cc : ByteArray} {nL : Nat} {ret : Option FieldType} {own : String} {Ts : List Cond} {D : va_G} {tys : List (ClassId × FieldType)} {A : Nat → Prop} {S : Type} {wld : S → va_W} {σ : S} {pc : Nat} {ls : Array Slot} {rest : List Value} {lv lv' : List (Nat × Value)} {wa wb : va_W}
theorem x_widen {k1 n1 : Nat} {g : JFrame} (h1 : k ≤ k1) (h2 : n ≤ n1) (kk : x_W p l e R s m args below meth c A D wld k1 n1 Q σ g) : x_W p l e R s m args below meth c A D wld k n Q σ g := fun H locs hP hD hS => W.widen h1 h2 (kk H locs hP hD hS)
theorem y_turn {g : JFrame} (is : List Nat) (hn : va_nd is = true) (h1 : is.filterMap (fun i => wa[i]?) = wld σ) (h2 : is.map (fun i => wa[i]?) = (wld σ).map some) (kk : x_W p l e R s m args below meth c A D wld k n Q σ g) : x_W p l e R s m args below meth c A D (fun _ : Unit => wa) k n Q () g := fun H locs hP hD hS => kk H locs (hP.sub is h1) (hD.sub is hn h2) hS
theorem y_objInit (X : x_X p s m args meth c cc nL ret own Ts D tys A) {idx a : Nat} (hl : lv_has ls nL lv) (h1 : Cond.methodLink own idx objectInit ∈ Ts) (h2 : Cond.instanceMethod objectInit ∈ Ts) (h3 : Cond.code objectInit ⟨#[0xb1]⟩ 1 none ∈ Ts) (hd : decode cc pc = .ok (.invokespecial idx, 3)) (hf : 1 ≤ R.frames) (hlo : (rest.map fun v => v.category).sum + 12 ≤ R.locals) (kk : x_W p l e R s m args below meth c A D wld k n Q σ (F0 m (pc + 3) ls rest)) : x_W p l e R s m args below meth c A D wld k n Q σ (F0 m pc ls (.ref a :: rest)) := fun H locs hP hD hS =>
  W.objInit X.1 X.2.1 X.2.2.2.1 (X.2.2.2.2.1 _ h1) (X.2.2.2.2.1 _ h2) (X.2.2.2.2.1 _ h3) rfl (hl.1.trans X.2.2.1.symm) rfl hd hf (by show 2 * 0 + _ + 12 ≤ _; omega) (W.eq (g2 := F0 m (pc + 3) ls rest) rfl (kk H locs hP hD hS))
theorem y_new (X : x_X p s m args meth c cc nL ret own Ts D tys A) {C : String} {T : u_T} {N ci index : Nat} {fs : List Value} {wb : Nat → va_W} (hin : ∀ w ∈ u_ws C T N, w ∈ Ts) (ty : Nat → FieldType) (hty : ∀ k, k < N → parseFieldDescriptor (T k).2.2.1 = some (ty k)) (hcl : Cond.classLink own index C ∈ Ts) (hinst : Cond.instantiable C N ∈ Ts) (hini : Cond.initialized C ∈ Ts) (hc : vwCl[ci]? = some (C, T, N)) (hfs : ∀ j, j < N → defaultValue (ty j) = vp_V fs j) (hcells : k + 1 ≤ R.cells) (hslots : n + N ≤ R.slots) (hdg : decode cc pc = .ok (.new index, 3)) (hw : ∀ q : Nat, wa ++ [(q, .inr (ci, fs))] = wb q)
    (kk : ∀ q : Nat, x_W p l e R s m args below meth c A D (fun _ : Unit => wb q) (k + 1) (n + N) Q () (F0 m (pc + 3) ls (.ref q :: rest))) : x_W p l e R s m args below meth c A D (fun _ : Unit => wa) k n Q () (F0 m pc ls rest) := fun H locs hP hD hS =>
  va_new X.1 X.2.1 X.2.2.2.2.1 hin ty hty X.2.2.2.1 (X.2.2.2.2.1 _ hcl) (X.2.2.2.2.1 _ hinst) (X.2.2.2.2.1 _ hini) X.2.2.2.2.2.1.1 hP hD hS X.2.2.2.2.2.2.1 hc hfs hcells hslots hdg (fun q H1 hP1 hD1 hS1 => kk q H1 locs (by rw [hw q] at hP1; exact hP1) (by rw [hw q] at hD1; exact hD1) hS1)
theorem y_newa (X : x_X p s m args meth c cc nL ret own Ts D tys A) {atype : ArrayType} (harr : Cond.arrayClass (newarray.typeOf atype) ∈ Ts) {ty : FieldType} (hty : newarray.typeOf atype = ty) (t0 : Nat) {cI : ClassId} (ht : tys[t0]? = some (cI, ty)) (hRA : va_RA s cI ty = (s.vm.findClass ("[" ++ ty.toString) = some cI)) {i : Int32} {N : Nat} {a0 : Nat × ((Nat → Int32) ⊕ (Nat → Int64) ⊕ (Nat → UInt32) ⊕ (Nat → UInt64) ⊕ (Nat → Option Nat))} (ha : ∀ cA : ClassId, vp_cell cA a0 = arrV cA N (fun _ => defaultValue ty)) (hn : ¬ i < 0) (hN : i.toNatClampNeg = N) (hbytes : N * componentBytes ty ≤ 536870912) (hcells : k + 1 ≤ R.cells) (hslots : n + N ≤ R.slots) (hdg : decode cc pc = .ok (.newarray atype, 2)) {wb : Nat → va_W} (hw : ∀ q : Nat, wa ++ [(q, .inl (cI, a0))] = wb q)
    (kk : ∀ q : Nat, x_W p l e R s m args below meth c A D (fun _ : Unit => wb q) (k + 1) (n + N) Q () (F0 m (pc + 2) ls (.ref q :: rest))) : x_W p l e R s m args below meth c A D (fun _ : Unit => wa) k n Q () (F0 m pc ls (.int i :: rest)) := by
  intro H locs hP hD hS
  refine va_newa X.1 X.2.1 (X.2.2.2.2.1 _ harr) hty X.2.2.2.2.2.1.1 hP hD hS X.2.2.2.2.2.2.1 ha hn hN hbytes hcells hslots hdg (fun q cA H1 hK1 hP1 hD1 hS1 => ?_)
  have h1 : va_RA s cI ty := (X.2.2.2.2.2.1.1.2 t0 _ ht).2
  have h2 : va_RA s cA ty := (hK1.2 tys.length (cA, ty) (by simp)).2
  rw [hRA] at h1
  have h3 : s.vm.findClass ("[" ++ ty.toString) = some cA := by
    cases ty <;> first | exact h2 | (simp [newarray.typeOf] at hty; done) | (cases atype <;> cases hty)
  cases Option.some.inj (h1.symm.trans h3)
  exact kk q H1 locs (by rw [← hw q]; exact hP1) (by rw [← hw q]; exact hD1) hS1
theorem y_putF (X : x_X p s m args meth c cc nL ret own Ts D tys A) (hin2 : meth.name = "<init>") {C : String} {T : u_T} {N ci index q0 a : Nat} {fs : List Value} (hin : ∀ w ∈ u_ws C T N, w ∈ Ts) (he : wa[q0]? = some (a, .inr (ci, fs))) (hc : vwCl[ci]? = some (C, T, N)) (j : Nat) (hk : j < N) (ty0 : Nat → FieldType) (hty : ∀ k, k < N → parseFieldDescriptor (T k).2.2.1 = some (ty0 k)) (hnm : ∀ a, a < N → ∀ b, b < N → a ≠ b → (T a).2.1 ≠ (T b).2.1) (hlink : Cond.fieldLink own index (T j).1 (T j).2.1 (T j).2.2.1 ∈ Ts) (hfin : (T j).2.2.2 = true) (hdecl : (T j).1 = own) {ty : FieldType} (hd : parseFieldDescriptor (T j).2.2.1 = some ty) {v : Value} (hnr : narrow ty v = v) (hft : fits ty v = true) (hl : j < fs.length) (hdg : decode cc pc = .ok (.putfield index, 3)) (hw : wa.set q0 (a, .inr (ci, fs.set j v)) = wb)
    (kk : x_W p l e R s m args below meth c A D (fun _ : Unit => wb) k n Q () (F0 m (pc + 3) ls rest)) : x_W p l e R s m args below meth c A D (fun _ : Unit => wa) k n Q () (F0 m pc ls (v :: .ref a :: rest)) := fun H locs hP hD hS =>
  va_putF X.1 X.2.1 X.2.2.2.2.1 hin ty0 hty hnm X.2.2.2.1 X.2.2.2.2.2.1.1 hP hD hS q0 he hc j hk (X.2.2.2.2.1 _ hlink) (fun _ h9 => h9) hfin hin2 hdecl hd hnr hft hl hdg (fun H1 locs1 hP1 hD1 hS1 => kk H1 locs1 (by rw [hw] at hP1; exact hP1) (by rw [hw] at hD1; exact hD1) hS1)
theorem y_puti (X : x_X p s m args meth c cc nL ret own Ts D tys A) {C : String} {T : u_T} {N ci index q0 a : Nat} {fs : List Value} (hin : ∀ w ∈ u_ws C T N, w ∈ Ts) (he : wa[q0]? = some (a, .inr (ci, fs))) (hc : vwCl[ci]? = some (C, T, N)) (j : Nat) (hk : j < N) (ty0 : Nat → FieldType) (hty : ∀ k, k < N → parseFieldDescriptor (T k).2.2.1 = some (ty0 k)) (hnm : ∀ a, a < N → ∀ b, b < N → a ≠ b → (T a).2.1 ≠ (T b).2.1) (hlink : Cond.fieldLink own index (T j).1 (T j).2.1 (T j).2.2.1 ∈ Ts) (hfin : (T j).2.2.2 = false) (hd : parseFieldDescriptor (T j).2.2.1 = some .int) {v : Int32} (hl : j < fs.length) (hdg : decode cc pc = .ok (.putfield index, 3)) (hw : wa.set q0 (a, .inr (ci, fs.set j (.int v))) = wb)
    (kk : x_W p l e R s m args below meth c A D (fun _ : Unit => wb) k n Q () (F0 m (pc + 3) ls rest)) : x_W p l e R s m args below meth c A D (fun _ : Unit => wa) k n Q () (F0 m pc ls (.int v :: .ref a :: rest)) := fun H locs hP hD hS =>
  va_put X.1 X.2.1 X.2.2.2.2.1 hin ty0 hty hnm X.2.2.2.1 X.2.2.2.2.2.1.1 hP hD hS q0 he hc j hk (X.2.2.2.2.1 _ hlink) (fun _ h9 => h9) hfin hd rfl rfl hl hdg (fun H1 locs1 hP1 hD1 hS1 => kk H1 locs1 (by rw [hw] at hP1; exact hP1) (by rw [hw] at hD1; exact hD1) hS1)
/-- a constructor's contract: out of the cells wa come the cells wb u, for some addresses u -/
def y_Mc (l : Launch) (y : MethodName) (ws : List Cond) (rm : Room) (D : va_G) (tys : List (ClassId × FieldType)) (wa : va_W) (av : List Value) (wb : (Nat → Nat) → va_W) (mc ms : Nat) : Prop :=
  ∀ sz : Nat, Met l y ws rm (va_Pc av (x_B D tys (fun _ : Unit => wa) () sz)) (va_Qv (fun _ : Nat → Nat => True) (fun u t => va_P D vwCl (wb u) t.heap ∧ va_D (va_A wa sz) (wb u)) (va_A wa sz)) mc ms (va_A wa sz)
def y_Rc (below : List Frame) (args : Array Value) (s : State) (A : Nat → Prop) (D : va_G) (wb : (Nat → Nat) → va_W) (mc ms : Nat) : State → Prop := MQ below (va_Qv (fun _ : Nat → Nat => True) (fun u t => va_P D vwCl (wb u) t.heap ∧ va_D A (wb u)) A) args s mc ms A
theorem y_vret (X : x_X p s m args meth c cc nL ret own Ts D tys A) {wb : (Nat → Nat) → va_W} (hret : ret = none) (u : Nat → Nat) (hw : wld σ = wb u) (hdg : decode cc pc = .ok (.return_, 1)) : x_W p l e R s m args below meth c A D wld k n (y_Rc below args s A D wb k n) σ (F0 m pc ls []) := by
  intro H locs hP hD hS
  rw [hw] at hP hD
  exact W.vret X.1 X.2.1 (X.2.2.2.2.2.2.2.1.trans hret) (fun t ht hW => ⟨⟨u, rfl, trivial, by rw [ht]; exact hP, hD⟩, hS.F ht⟩) hS.2.2 hdg X.2.2.2.2.2.2.2.2
/-- the frame: cells that a callee doesn't know stay -/
theorem y_frame {D : va_G} {w1 wc w2 wd : va_W} {A0 : Nat → Prop} {H H1 : Heap} (hP : va_P D vwCl (w1 ++ (wc ++ w2)) H) (hD : va_D A0 (w1 ++ (wc ++ w2))) (hk : ∀ q : Nat, q < H.size → ¬ va_A wc H.size q → H1[q]? = H[q]?) (hF : ∀ q, va_A wc H.size q → A0 q) (hP1 : va_P D vwCl wd H1) (hD1 : va_D (va_A wc H.size) wd) : va_P D vwCl (w1 ++ (wd ++ w2)) H1 ∧ va_D A0 (w1 ++ (wd ++ w2)) := by
  have g1 : ∀ (k : Nat) (q : Nat × va_E), w1[k]? = some q → (w1 ++ (wc ++ w2))[k]? = some q := fun k q h => by
    rw [List.getElem?_append_left (List.getElem?_eq_some_iff.mp h).1]; exact h
  have gc : ∀ (k : Nat) (q : Nat × va_E), wc[k]? = some q → (w1 ++ (wc ++ w2))[w1.length + k]? = some q := fun k q h => by
    rw [List.getElem?_append_right (by omega), show w1.length + k - w1.length = k by omega, List.getElem?_append_left (List.getElem?_eq_some_iff.mp h).1]; exact h
  have g2 : ∀ (k : Nat) (q : Nat × va_E), w2[k]? = some q → (w1 ++ (wc ++ w2))[w1.length + (wc.length + k)]? = some q := fun k q h => by
    rw [List.getElem?_append_right (by omega), show w1.length + (wc.length + k) - w1.length = wc.length + k by omega, List.getElem?_append_right (by omega), show wc.length + k - wc.length = k by omega]; exact h
  have n1 : ∀ (k : Nat) (q : Nat × va_E), w1[k]? = some q → q.1 < H.size ∧ ¬ va_A wc H.size q.1 := fun k q h => by
    have hlt := vx_lt hP (g1 k q h)
    refine ⟨hlt, fun ha => ?_⟩
    rcases ha with ⟨k2, e2, h2⟩ | h2
    · have := hD.1 k (w1.length + k2) q (q.1, e2) (g1 k q h) (gc k2 _ h2) rfl
      have := (List.getElem?_eq_some_iff.mp h).1
      omega
    · omega
  have n2 : ∀ (k : Nat) (q : Nat × va_E), w2[k]? = some q → q.1 < H.size ∧ ¬ va_A wc H.size q.1 := fun k q h => by
    have hlt := vx_lt hP (g2 k q h)
    refine ⟨hlt, fun ha => ?_⟩
    rcases ha with ⟨k2, e2, h2⟩ | h2
    · have := hD.1 (w1.length + (wc.length + k)) (w1.length + k2) q (q.1, e2) (g2 k q h) (gc k2 _ h2) rfl
      have := (List.getElem?_eq_some_iff.mp h2).1
      omega
    · omega
  have P1 : va_P D vwCl w1 H := fun k q h => hP _ q (g1 k q h)
  have P2 : va_P D vwCl w2 H := fun k q h => hP _ q (g2 k q h)
  have D1 : va_D A0 w1 := ⟨fun i j p q hi hj e => hD.1 i j p q (g1 i p hi) (g1 j q hj) e, fun k q h => hD.2 _ q (g1 k q h)⟩
  have D2 : va_D A0 w2 := ⟨fun i j p q hi hj e => by have := hD.1 _ _ p q (g2 i p hi) (g2 j q hj) e; omega, fun k q h => hD.2 _ q (g2 k q h)⟩
  have Dd : va_D A0 wd := hD1.weaken fun _ _ _ h => hF _ h
  refine ⟨(P1.kept fun k q h => hk _ (n1 k q h).1 (n1 k q h).2).app (hP1.app (P2.kept fun k q h => hk _ (n2 k q h).1 (n2 k q h).2)), D1.app (Dd.app D2 ?_) ?_⟩
  · intro i j p q hi hj e
    exact (n2 j q hj).2 (e ▸ hD1.2 i p hi)
  · intro i j p q hi hj e
    rcases Nat.lt_or_ge j wd.length with hlt | hge
    · rw [List.getElem?_append_left hlt] at hj
      exact (n1 i p hi).2 (e.symm ▸ hD1.2 j q hj)
    · rw [List.getElem?_append_right hge] at hj
      have := hD.1 i _ p q (g1 i p hi) (g2 _ q hj) e
      have := (List.getElem?_eq_some_iff.mp hi).1
      omega
theorem y_sub {D : va_G} {w1 wc w2 : va_W} {A0 : Nat → Prop} {H : Heap} (hP : va_P D vwCl (w1 ++ (wc ++ w2)) H) (hD : va_D A0 (w1 ++ (wc ++ w2))) : va_P D vwCl wc H ∧ va_D A0 wc := by
  have gc : ∀ (k : Nat) (q : Nat × va_E), wc[k]? = some q → (w1 ++ (wc ++ w2))[w1.length + k]? = some q := fun k q h => by
    rw [List.getElem?_append_right (by omega), show w1.length + k - w1.length = k by omega, List.getElem?_append_left (List.getElem?_eq_some_iff.mp h).1]; exact h
  exact ⟨fun k q h => hP _ q (gc k q h), fun i j p q hi hj e => by have := hD.1 _ _ p q (gc i p hi) (gc j q hj) e; omega, fun k q h => hD.2 _ q (gc k q h)⟩
theorem y_cI (X : x_X p s m args meth c cc nL ret own Ts D tys A) {y : MethodName} {bytes : ByteArray} {maxL index nn mc ms : Nat} {ws : List Cond} {rm : Room} {As st : List Value} {b : Nat} {w1 wc w2 : va_W} {wd : (Nat → Nat) → va_W} {wb : (Nat → Nat) → va_W} (hM : y_Mc l y ws rm D tys wc (.ref b :: As) wd mc ms) (cw : (CallB R s args own index y bytes maxL none ws rm mc ms nn ∧ y.name = "<init>" ∧ (Cond.instanceMethod y).before args s = true)) (hn : As.length = nn) (hl : lv_has ls nL lv) (hst : st = As.reverse ++ .ref b :: rest) (hrm : (rest.map fun v => v.category).sum ≤ 8) (hkn : k + mc ≤ R.cells ∧ n + ms ≤ R.slots) (hdg : decode cc pc = .ok (.invokespecial index, 3)) (ha : wa = w1 ++ (wc ++ w2)) (hb : ∀ u, wb u = w1 ++ (wd u ++ w2)) (kk : ∀ u : Nat → Nat, x_W p l e R s m args below meth c A D (fun _ : Unit => wb u) (k + mc) (n + ms) Q () (F0 m (pc + 3) ls rest)) : x_W p l e R s m args below meth c A D (fun _ : Unit => wa) k n Q () (F0 m pc ls st) := by
  intro H locs hP hD hS
  subst ha
  obtain ⟨hPc, hDc⟩ := y_sub hP hD
  have hFc : ∀ q, va_A wc H.size q → A q := fun q h => by
    rcases h with ⟨j, x, h⟩ | h
    · exact hDc.2 j _ h
    · exact X.2.2.2.2.2.2.1 q (Nat.le_trans hS.1 h)
  refine va_callv (va_runI (As := As) (rest := rest) ⟨X.1, X.2.1, X.2.2.1, X.2.2.2.1, X.2.2.2.2.1⟩ (hM H.size) cw ⟨x_blind, fun U hU hW => ⟨rfl, by rw [hU], by rw [hU]; exact hPc, X.2.2.2.2.2.1.warm hW, hDc.weaken (fun _ _ _ _ => trivial)⟩⟩ rfl hn hl.1 hst (lv_room hrm) hdg hkn) hS (fun q _ h => hFc q h) hFc (fun u t H1 locs1 ht hvm hw hB hz1 hk1 hS1 => ?_)
  obtain ⟨hP1, hD1⟩ := hB
  rw [ht] at hP1
  obtain ⟨hP2, hD2⟩ := y_frame hP hD hk1 hFc hP1 hD1
  rw [← hb u] at hP2 hD2
  exact kk u H1 locs1 hP2 hD2 hS1
theorem y_cIN (X : x_X p s m args meth c cc nL ret own Ts D tys A) {y : MethodName} {bytes : ByteArray} {maxL index nn mc ms : Nat} {ws : List Cond} {rm : Room} {As st : List Value} {b : Nat} {w1 wc w2 : va_W} {wd : (Nat → Nat) → va_W} {wb : (Nat → Nat) → va_W} (hM : y_Mc l y ws rm D tys wc (.ref b :: As) wd mc ms) (cw : (va_CN R s args own index y "Creditfabric" bytes maxL none ws rm mc ms nn ∧ y.name = "<init>" ∧ (Cond.instanceMethod y).before args s = true)) (hn : As.length = nn) (hl : lv_has ls nL lv) (hst : st = As.reverse ++ .ref b :: rest) (hrm : (rest.map fun v => v.category).sum ≤ 8) (hkn : k + mc ≤ R.cells ∧ n + ms ≤ R.slots) (hdg : decode cc pc = .ok (.invokespecial index, 3)) (ha : wa = w1 ++ (wc ++ w2)) (hb : ∀ u, wb u = w1 ++ (wd u ++ w2)) (kk : ∀ u : Nat → Nat, x_W p l e R s m args below meth c A D (fun _ : Unit => wb u) (k + mc) (n + ms) Q () (F0 m (pc + 3) ls rest)) : x_W p l e R s m args below meth c A D (fun _ : Unit => wa) k n Q () (F0 m pc ls st) := by
  intro H locs hP hD hS
  subst ha
  obtain ⟨hPc, hDc⟩ := y_sub hP hD
  have hFc : ∀ q, va_A wc H.size q → A q := fun q h => by
    rcases h with ⟨j, x, h⟩ | h
    · exact hDc.2 j _ h
    · exact X.2.2.2.2.2.2.1 q (Nat.le_trans hS.1 h)
  refine va_callv (va_runIN (As := As) (rest := rest) ⟨X.1, X.2.1, X.2.2.1, X.2.2.2.1, X.2.2.2.2.1⟩ (hM H.size) cw ⟨x_blind, fun U hU hW => ⟨rfl, by rw [hU], by rw [hU]; exact hPc, X.2.2.2.2.2.1.warm hW, hDc.weaken (fun _ _ _ _ => trivial)⟩⟩ rfl hn hl.1 hst (lv_room hrm) hdg hkn) hS (fun q _ h => hFc q h) hFc (fun u t H1 locs1 ht hvm hw hB hz1 hk1 hS1 => ?_)
  obtain ⟨hP1, hD1⟩ := hB
  rw [ht] at hP1
  obtain ⟨hP2, hD2⟩ := y_frame hP hD hk1 hFc hP1 hD1
  rw [← hb u] at hP2 hD2
  exact kk u H1 locs1 hP2 hD2 hS1
end YCO
theorem y_enter {l : Launch} {y : MethodName} {ws ws' : List Cond} {rm : Room} {D : va_G} {tys : List (ClassId × FieldType)} {wa : va_W} {wb : (Nat → Nat) → va_W} {mc ms : Nat} {av : List Value} {cc : ByteArray} {nL : Nat} {own : String} (hy : plainName y.cls = true) (hyo : y.cls = own) (hyn : y.name = "<init>") (hw : ws = Cond.code y cc nL none :: ws') (hlen : (lg_sl av).length ≤ nL)
    (body : ∀ (p : Program) (e : Env) (s : State) (m : MethodId) (args : Array Value) (below : List Frame) (meth : Method) (c : Code) (A : Nat → Prop), x_X p s m args meth c cc nL none own ws D tys A → meth.name = "<init>" → ∀ ls : Array Slot, lv_has ls nL (lv_args 0 av) → x_W p l e rm s m args below meth c A D (fun _ : Unit => wa) 0 0 (y_Rc below args s A D wb mc ms) () (F0 m 0 ls [])) : y_Mc l y ws rm D tys wa av wb mc ms := by
  intro sz
  refine Met.ofW (cc := cc) (maxL := nL) (ret := none) hy hw ?_
  intro p e s m args below meth c s₁ B hml hv
  obtain ⟨rfl, hsz, hP, hK, hD0⟩ := hv
  subst hsz
  subst hyo
  have hD := hD0.self (sz := s.heap.size)
  have hl := lv_entry av (n := nL) hlen
  rw [lg_entry_eq]
  exact body p e s m _ below meth c (va_A wa s.heap.size) ⟨B.exec, B.bytes, hml, findClass_of_methodNamed B.named, atoms_spec (ws := ws) B.pre, hK, fun q h => Or.inr h, B.returns, B.notSynchronized⟩ ((name_of_methodNamed B.named B.method).1.trans hyn) _ hl s.heap [] hP hD va_S.rf
