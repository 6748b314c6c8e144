/-! ===== BEGIN words of one list among another's, by their places ===== -/
theorem goodIn_r {big : List Cond} (ws : List Cond) (ps : List Nat) (hp : ws = ps.filterMap (fun i => big[i]?)) (h : ws.all goodWord = true) : GoodIn big ws := by
  intro w hw
  have h1 := List.all_eq_true.mp h w hw
  rw [hp] at hw
  obtain ⟨i, -, hi⟩ := List.mem_filterMap.mp hw
  have hm : w ∈ big := by first | exact List.mem_of_getElem? hi | exact List.getElem?_mem hi
  exact ⟨hm, good_of_word h1⟩
theorem goodIn_app {big a b : List Cond} (ha : GoodIn big a) (hb : GoodIn big b) : GoodIn big (a ++ b) := fun w h => (List.mem_append.mp h).elim (ha w) (hb w)
theorem goodIn_ca {big a b : List Cond} {c : Cond} (ha : GoodIn big (c :: a)) (hb : GoodIn big b) : GoodIn big (c :: (a ++ b)) := fun w h => (List.mem_cons.mp h).elim (fun e => ha w (List.mem_cons.mpr (Or.inl e))) (fun h => (List.mem_append.mp h).elim (fun h => ha w (List.mem_cons.mpr (Or.inr h))) (hb w))
theorem goodIn_sub {big ws : List Cond} (hm : ∀ w ∈ ws, w ∈ big) (h : ws.all goodWord = true) : GoodIn big ws := fun w hw => ⟨hm w hw, good_of_word (List.all_eq_true.mp h w hw)⟩
/-! ===== END ===== -/

/-! ===== BEGIN exceptions that leave a method, and their catching by the caller (launches without stack traces) ===== -/
section VXA
/-! The laws vx_back, vx_callV, vx_callS, vx_callSW, vx_throw0, vx_throwS follow proofs of the library, with one case more: JvmDerived/Free/Laws.lean (Back.of_free), Shelf42/LK1.lean (callV, callS), Shelf/KitTraced.lean (throwNew0V, throwNewS). -/
/-- where a method has thrown q: the class by its name, the cell, what was written, the world -/
def vx_T (XC : String → State → State → Prop) (st : State) (q : Addr) (t : State) (mc ms : Nat) (free : Addr → Prop) : Prop :=
  ∃ (E : String) (ce : Cell) (L : List Loc), XC E st t ∧ t.heap[q]? = some ce ∧ ce.vm = .none ∧ st.vm.findClass E = some ce.cls ∧ st.WarmedH t.vm ∧ st.sameButNew ({ t with vm := st.vm } : State) L mc ms ∧ ∀ z ∈ L, free z.base
def vx_Q (Qc : Array Value → State → Outcome → State → Prop) (XC : String → State → State → Prop) (mc ms : Nat) (free : Addr → Prop) : Array Value → State → Outcome → State → Prop := fun a st o t =>
  (Qc a st o t ∧ ∃ L, FrameEnd st o t L mc ms ∧ ∀ q ∈ L, free q.base) ∨ ∃ q, o = .threw q ∧ vx_T XC st q t mc ms free
/-- a callee that returns or throws -/
def vx_Met (l : Launch) (y : MethodName) (ws : List Cond) (rm : Room) (Pc : Array Value → State → Prop) (Qc : Array Value → State → Outcome → State → Prop) (XC : String → State → State → Prop) (mc ms : Nat) (free : Addr → Prop) : Prop :=
  MetFree l y (headSpec ws rm) Pc (fun _ _ _ _ _ => True) (vx_Q Qc XC mc ms free)
def vx_Post (XC : String → State → State → Prop) (mc ms : Nat) (free : Addr → Prop) : Pt → Array Value → Addr → Pt → Prop := fun A a q B =>
  ∃ (g : JFrame) (mk : MethodId) (t : State) (L : List Loc) (E : String) (ce : Cell), B.U.heap = t.heap ∧ B.U.vm = t.vm ∧ XC E (A.U.calling g mk a) t ∧ t.heap[q]? = some ce ∧ ce.vm = .none ∧ A.U.vm.findClass E = some ce.cls ∧ B.locs = A.locs ++ L ∧ (∀ z ∈ L, free z.base) ∧ B.cells = A.cells + mc ∧ B.slots = A.slots + ms
def vx_Back (l : Launch) (R : Room) (p : Program) (e : Env) (below : List Frame) (s : State) (sargs : Array Value) (y : MethodName) (len W9 : Nat)
    (Pre : Pt → Array Value → Prop) (Post : Pt → Array Value → Option Value → Pt → Prop) (PostX : Pt → Array Value → Addr → Pt → Prop) : Prop :=
  ∀ (m : MethodId) (meth : Method) (c : Code) (A : Pt) (g : JFrame) (ig : Instr) (mk : MethodId) (a : Array Value),
    Stand p l e R s m sargs below meth c A.U A.locs A.cells A.slots → g.method = m → g.locals.size = c.maxLocals → decode c.code g.pc = .ok (ig, len) →
    2 * g.monitorRoom + (g.stack.map fun v => v.category).sum ≤ W9 → A.U.methodNamed? y = some mk → Pre A a →
    (∃ (v : Option Value) (B : Pt), Stand p l e R s m sargs below meth c B.U B.locs B.cells B.slots ∧ Post A a v B ∧
      Steps p.tables e below (doInvoke e (A.U.setTop g) [] mk a).1 (B.U.setTop { g with pc := g.pc + len, stack := v.toList ++ g.stack })) ∨
    (∃ (q : Addr) (B : Pt), Stand p l e R s m sargs below meth c B.U B.locs B.cells B.slots ∧ PostX A a q B ∧
      Steps p.tables e below (doInvoke e (A.U.setTop g) [] mk a).1 ((B.U.setTop g).pushFrame (.throwing q)))
section Payer
variable {l : Launch} {R : Room} {p : Program} {e : Env} {below : List Frame} {s : State} {sargs : Array Value} {y : MethodName} {len W9 : Nat}
theorem vx_back {ws : List Cond} {rm : Room} {Pc : Array Value → State → Prop} {Qc : Array Value → State → Outcome → State → Prop} {XC : String → State → State → Prop} {mc ms : Nat} {free : Addr → Prop} {bytes : ByteArray} {maxL : Nat} {ret : Option FieldType}
    (hM : vx_Met l y ws rm Pc Qc XC mc ms free) (hblind : FrameBlind Pc) (hrc : rm.cells = mc) (hrs : rm.slots = ms)
    (hframes : rm.frames + 1 ≤ R.frames) (hlocals : W9 + (maxL + 11) + rm.locals ≤ R.locals)
    (hws : ∀ w ∈ ws, ∀ a' U, s.WarmedH U.vm → w.before a' U = true) (hcode : Cond.code y bytes maxL ret ∈ ws) (hinit : ∀ a' U, s.WarmedH U.vm → (Cond.initialized y.cls).before a' U = true) :
    vx_Back l R p e below s sargs y len W9 (PreOf R mc ms Pc) (PostOf Qc mc ms free) (vx_Post XC mc ms free) := by
  intro m meth c A g ig mk a X hg hsize hdg hW hn hp
  have h1 : (headSpec ws rm).pre.before a A.U = true := atoms_intro fun w hw => hws w hw _ _ X.warmed
  have h2 : (Cond.code y bytes maxL ret).before a A.U = true := hws _ hcode _ _ X.warmed
  have h3 : (Cond.initialized y.cls).before a A.U = true := hinit _ _ X.warmed
  have h4 : A.cells + (headSpec ws rm).room.cells ≤ R.cells := by rw [show (headSpec ws rm).room.cells = mc from hrc]; exact hp.1
  have h5 : A.slots + (headSpec ws rm).room.slots ≤ R.slots := by rw [show (headSpec ws rm).room.slots = ms from hrs]; exact hp.2.1
  have hPc : Pc a (A.U.calling g mk a) := hblind _ _ _ _ hp.2.2
  obtain ⟨U, Ls, c0, s0⟩ := A
  dsimp only [Pt.U, Pt.locs, Pt.cells, Pt.slots] at h1 h2 h3 h4 h5 X hn hPc ⊢
  obtain ⟨methY, cY, hmY, hcY, -, hlY, -, -, -, -⟩ := Cond.code_spec hn h2
  obtain ⟨kY, hkY, -⟩ := className_of_methodNamed hn
  have hinitY : kY.init = .initialized := Cond.initialized_spec (findClass_of_methodNamed hn) hkY h3
  have h : At U g.method c below := by rw [hg]; exact X.here
  have hlocals9 : W9 + (maxL + 11) + (headSpec ws rm).room.locals ≤ R.locals := hlocals
  have happ : (headSpec ws rm).appliesLoose y e.platform (U.calling g mk a) = true :=
    Spec.appliesLoose_calling (g := g) h hdg hn hkY hinitY
      (X.room_calling (g := g) (R' := (headSpec ws rm).room) hsize hmY hcY hframes (by rw [hlY]; omega) h4 h5) h1
  obtain ⟨mid, hmid⟩ := h.above
  have hfr : (U.setTop g).frames = (.java g :: mid) ++ below := by rw [State.frames_setTop' g h.top, hmid]; rfl
  obtain ⟨o, s₂, hsteps, -, hend, hq⟩ := Steps.callFree hM p X.admits X.cas X.clock (acts := []) hfr happ hPc trivial
  have hq' : vx_Q Qc XC mc ms free a (U.calling g mk a) o s₂ := hq
  rw [State.frames_setTop' g h.top] at hend
  obtain ⟨g₀, hg0⟩ := Option.isSome_iff_exists.mp h.top
  obtain ⟨r, hr⟩ := State.topJava?_eq_some.mp hg0
  have hr' : (({ U with heap := s₂.heap, slotsUsed := s₂.slotsUsed } : State).setVm s₂.vm).frames = .java g₀ :: r := hr
  rcases hq' with ⟨hqc, L, hfe, hL⟩ | ⟨q, rfl, E, ce, L, hx, hce, hcv, hcl, hW₂, hsm, hL⟩
  · obtain ⟨⟨v, rfl⟩, hW₂, e2, q2, q3, q4, q5, q6⟩ := id hfe
    have e3 : s₂ = ({ (U.calling g mk a).setFrames s₂.frames with heap := s₂.heap, slotsUsed := s₂.slotsUsed } : State).setVm s₂.vm := by
      have : s₂ = ({ s₂ with vm := (U.calling g mk a).vm } : State).setVm s₂.vm := rfl
      rw [e2] at this
      exact this
    obtain ⟨c₂, i₂, len₂, hc₂, hd₂, hf₂⟩ := hend
    have hW' : U.WarmedH s₂.vm := hW₂
    have hcc : c₂ = c := by
      have h1 : s₂.code? g.method = U.code? g.method := by
        rw [State.code?_eq, State.code?_eq, hW'.alike.method?]
      exact Option.some.inj (hc₂.symm.trans (h1.trans h.code))
    subst hcc
    have hlen : len₂ = len := by rw [hdg] at hd₂; cases hd₂; rfl
    subst hlen
    have hs₂ : s₂ = (({ U with heap := s₂.heap, slotsUsed := s₂.slotsUsed } : State).setVm s₂.vm).setTop { g with pc := g.pc + len₂, stack := v.toList ++ g.stack } := by
      refine e3.trans ?_
      rw [hf₂, State.calling_eq h.top, State.setFrames_setFrames, State.setTop_of_frames _ hr', hr]
      rfl
    have hsame : U.sameButNew ({ U with heap := s₂.heap, slotsUsed := s₂.slotsUsed } : State) L mc ms := by
      refine ⟨?_, q2, q3, q4, q5, q6⟩
      obtain ⟨t, ht, -⟩ := State.frames_cons hr
      show ({ U with heap := s₂.heap, slotsUsed := s₂.slotsUsed } : State) = { U.setFrames U.frames with heap := s₂.heap, slotsUsed := s₂.slotsUsed }
      rw [State.setFrames_self ht]
    subst hg
    refine Or.inl ⟨v, ⟨(({ U with heap := s₂.heap, slotsUsed := s₂.slotsUsed } : State).setVm s₂.vm), Ls ++ L, c0 + mc, s0 + ms⟩,
      ⟨X.admits, X.cas, X.clock, X.frames, X.room, X.hears, X.method, X.code, (X.here.setHeapUsed s₂.heap s₂.slotsUsed).setVm hW'.alike, X.tail, State.WarmedH.trans X.warmed hW', X.limits, X.bytes, X.same.trans (hsame.setVm s.vm)⟩,
      ⟨g, mk, s₂, L, rfl, rfl, hqc, rfl, hL, rfl, rfl⟩, ?_⟩
    show Steps p.tables e below _ ((({ U with heap := s₂.heap, slotsUsed := s₂.slotsUsed } : State).setVm s₂.vm).setTop { g with pc := g.pc + len₂, stack := v.toList ++ g.stack })
    rw [← hs₂]
    exact hsteps
  · obtain ⟨e2, q2, q3, q4, q5, q6⟩ := id hsm
    have e3 : s₂ = ({ (U.calling g mk a).setFrames s₂.frames with heap := s₂.heap, slotsUsed := s₂.slotsUsed } : State).setVm s₂.vm := by
      have : s₂ = ({ s₂ with vm := (U.calling g mk a).vm } : State).setVm s₂.vm := rfl
      rw [e2] at this
      exact this
    have hf₂ : s₂.frames = .throwing q :: .java g :: U.frames.tail := hend
    have hW' : U.WarmedH s₂.vm := hW₂
    have hs₂ : s₂ = ((({ U with heap := s₂.heap, slotsUsed := s₂.slotsUsed } : State).setVm s₂.vm).setTop g).pushFrame (.throwing q) := by
      refine e3.trans ?_
      rw [hf₂, State.calling_eq h.top, State.setFrames_setFrames, State.pushFrame, State.frames_setTop _ hr', State.setTop_of_frames _ hr', State.setFrames_setFrames, hr]
      rfl
    have hsame : U.sameButNew ({ U with heap := s₂.heap, slotsUsed := s₂.slotsUsed } : State) L mc ms := by
      refine ⟨?_, q2, q3, q4, q5, q6⟩
      obtain ⟨t, ht, -⟩ := State.frames_cons hr
      show ({ U with heap := s₂.heap, slotsUsed := s₂.slotsUsed } : State) = { U.setFrames U.frames with heap := s₂.heap, slotsUsed := s₂.slotsUsed }
      rw [State.setFrames_self ht]
    subst hg
    refine Or.inr ⟨q, ⟨(({ U with heap := s₂.heap, slotsUsed := s₂.slotsUsed } : State).setVm s₂.vm), Ls ++ L, c0 + mc, s0 + ms⟩,
      ⟨X.admits, X.cas, X.clock, X.frames, X.room, X.hears, X.method, X.code, (X.here.setHeapUsed s₂.heap s₂.slotsUsed).setVm hW'.alike, X.tail, State.WarmedH.trans X.warmed hW', X.limits, X.bytes, X.same.trans (hsame.setVm s.vm)⟩,
      ⟨g, mk, s₂, L, E, ce, rfl, rfl, hx, hce, hcv, hcl, rfl, hL, rfl, rfl⟩, ?_⟩
    show Steps p.tables e below _ (((({ U with heap := s₂.heap, slotsUsed := s₂.slotsUsed } : State).setVm s₂.vm).setTop g).pushFrame (.throwing q))
    rw [← hs₂]
    exact hsteps
end Payer
section Calls
variable {p : Program} {l : Launch} {e : Env} {R : Room} {s : State} {m : MethodId} {args : Array Value} {below : List Frame} {meth : Method} {c : Code} {T : State} {locs : List Loc} {cells slots : Nat}
theorem vx_callV (X : Stand p l e R s m args below meth c T locs cells slots) (hexec : p.tables.exec = Jvm.exec) {own C : String} {index : Nat} {y : MethodName} {bytes : ByteArray} {maxL : Nat} {ret : Option FieldType}
    (hown : s.vm.findClass own = some m.cls) (hlink : (Cond.methodLink own index y).before args s = true) (hinst : (Cond.instanceMethod y).before args s = true) (hsel : (Cond.selects C y y).before args s = true)
    (hcode : (Cond.code y bytes maxL ret).before args s = true) (hy : y.cls ≠ "java/lang/invoke/MethodHandle" ∧ y.cls ≠ "java/lang/invoke/VarHandle")
    {W9 : Nat} {Pre : Pt → Array Value → Prop} {Post : Pt → Array Value → Option Value → Pt → Prop} {PostX : Pt → Array Value → Addr → Pt → Prop} (hK : vx_Back l R p e below s args y 3 W9 Pre Post PostX)
    {b : Addr} {cellB : Cell} (hcell : T.heap[b]? = some cellB) (hobj : cellB.vm.isStatics = false) (hcls : s.vm.findClass C = some cellB.cls)
    {g : JFrame} (hg : g.method = m) (hsize : g.locals.size = c.maxLocals) {argsL rest : List Value} (hlen : ∀ sig, parseMethodDescriptor y.desc = some sig → argsL.length = sig.parameters.length)
    (hstack : g.stack = argsL.reverse ++ .ref b :: rest) (hW : 2 * g.monitorRoom + (rest.map fun v => v.category).sum ≤ W9) (hdg : decode c.code g.pc = .ok (.invokevirtual index, 3))
    (hpre : ∀ vm₁, s.WarmedH vm₁ → Pre ⟨T.setVm vm₁, locs, cells, slots⟩ (Value.ref b :: argsL).toArray) :
    (∃ (v : Option Value) (vm₁ : Vm) (B : Pt), s.WarmedH vm₁ ∧ Stand p l e R s m args below meth c B.U B.locs B.cells B.slots ∧ Post ⟨T.setVm vm₁, locs, cells, slots⟩ (Value.ref b :: argsL).toArray v B ∧
      ∀ target, Steps p.tables e below (B.U.setTop { g with pc := g.pc + 3, stack := v.toList ++ rest }) target → Steps p.tables e below (T.setTop g) target) ∨
    (∃ (q : Addr) (vm₁ : Vm) (B : Pt), s.WarmedH vm₁ ∧ Stand p l e R s m args below meth c B.U B.locs B.cells B.slots ∧ PostX ⟨T.setVm vm₁, locs, cells, slots⟩ (Value.ref b :: argsL).toArray q B ∧
      Steps p.tables e below (T.setTop g) ((B.U.setTop { g with stack := rest }).pushFrame (.throwing q))) := by
  obtain ⟨mk, methM, hnamed, hmethM, hstM, habM⟩ := Cond.instanceMethod_spec hinst
  obtain ⟨methM', cM, hmethM', -, -, -, -, -, -, hsigM⟩ := Cond.code_spec hnamed hcode
  cases hmethM.symm.trans hmethM'
  obtain ⟨c2, r2, m2, q1, q2, q3, q4, kP, hkP, hkPi⟩ := Cond.selects_spec hsel
  cases hcls.symm.trans q1
  cases (State.methodFound?_of_named hnamed hy).symm.trans q2
  cases hnamed.symm.trans q3
  have hselP : selectMethod e.platform s.vm cellB.cls mk = .method mk := by rw [Launch.admits_selectMethod X.admits]; exact q4
  obtain ⟨vm₁, X₁, hstep₁⟩ := X.invokevirtual hexec hown hlink hnamed hmethM hstM hkP hkPi hy (a := b) (cell := cellB) hcell
    (fun z h => by rw [h] at hobj; cases hobj) hselP hmethM habM hkP hkPi (g := g) hg (argsL := argsL) (rest := rest) (hlen _ hsigM) hstack hdg
  rcases hK m meth c ⟨T.setVm vm₁, locs, cells, slots⟩ { g with stack := rest } (.invokevirtual index) mk (Value.ref b :: argsL).toArray X₁ hg hsize hdg hW (X₁.named hnamed) (hpre vm₁ X₁.warmed) with ⟨v, B, X', hpost, hsteps⟩ | ⟨q, B, X', hpost, hsteps⟩
  · exact Or.inl ⟨v, vm₁, B, X₁.warmed, X', hpost, fun target h => hstep₁ _ fun acts => by rw [doInvoke_state]; exact hsteps.trans h⟩
  · exact Or.inr ⟨q, vm₁, B, X₁.warmed, X', hpost, hstep₁ _ fun acts => by rw [doInvoke_state]; exact hsteps⟩
theorem vx_callS (X : Stand p l e R s m args below meth c T locs cells slots) (hexec : p.tables.exec = Jvm.exec) {own : String} {index : Nat} {y : MethodName} {bytes : ByteArray} {maxL : Nat} {ret : Option FieldType}
    (hown : s.vm.findClass own = some m.cls) (hlink : (Cond.methodLink own index y).before args s = true) (hstat : (Cond.static y).before args s = true) (hinit : (Cond.initialized y.cls).before args s = true)
    (hcode : (Cond.code y bytes maxL ret).before args s = true) (hy : y.cls ≠ "java/lang/invoke/MethodHandle" ∧ y.cls ≠ "java/lang/invoke/VarHandle")
    {W9 : Nat} {Pre : Pt → Array Value → Prop} {Post : Pt → Array Value → Option Value → Pt → Prop} {PostX : Pt → Array Value → Addr → Pt → Prop} (hK : vx_Back l R p e below s args y 3 W9 Pre Post PostX)
    {g : JFrame} (hg : g.method = m) (hsize : g.locals.size = c.maxLocals) {argsL rest : List Value} (hlen : ∀ sig, parseMethodDescriptor y.desc = some sig → argsL.length = sig.parameters.length)
    (hstack : g.stack = argsL.reverse ++ rest) (hW : 2 * g.monitorRoom + (rest.map fun v => v.category).sum ≤ W9) (hdg : decode c.code g.pc = .ok (.invokestatic index, 3))
    (hpre : ∀ vm₁, s.WarmedH vm₁ → Pre ⟨T.setVm vm₁, locs, cells, slots⟩ argsL.toArray) :
    (∃ (v : Option Value) (vm₁ : Vm) (B : Pt), s.WarmedH vm₁ ∧ Stand p l e R s m args below meth c B.U B.locs B.cells B.slots ∧ Post ⟨T.setVm vm₁, locs, cells, slots⟩ argsL.toArray v B ∧
      ∀ target, Steps p.tables e below (B.U.setTop { g with pc := g.pc + 3, stack := v.toList ++ rest }) target → Steps p.tables e below (T.setTop g) target) ∨
    (∃ (q : Addr) (vm₁ : Vm) (B : Pt), s.WarmedH vm₁ ∧ Stand p l e R s m args below meth c B.U B.locs B.cells B.slots ∧ PostX ⟨T.setVm vm₁, locs, cells, slots⟩ argsL.toArray q B ∧
      Steps p.tables e below (T.setTop g) ((B.U.setTop { g with stack := rest }).pushFrame (.throwing q))) := by
  obtain ⟨mk, hnamed⟩ := Cond.code_named hcode
  obtain ⟨methM, cM, hmethM, -, -, -, -, -, -, hsigM⟩ := Cond.code_spec hnamed hcode
  have hstatic : methM.isStatic = true := Cond.static_spec hnamed hmethM hstat
  obtain ⟨kP, hkP, -⟩ := className_of_methodNamed hnamed
  have hinitP : kP.init = .initialized := Cond.initialized_spec (findClass_of_methodNamed hnamed) hkP hinit
  obtain ⟨vm₁, X₁, hstep₁⟩ := X.invokestatic hexec hown hlink hnamed hmethM hstatic hkP hinitP hy (g := g) hg (argsL := argsL) (rest := rest) (hlen _ hsigM) hstack hdg
  rcases hK m meth c ⟨T.setVm vm₁, locs, cells, slots⟩ { g with stack := rest } (.invokestatic index) mk argsL.toArray X₁ hg hsize hdg hW (X₁.named hnamed) (hpre vm₁ X₁.warmed) with ⟨v, B, X', hpost, hsteps⟩ | ⟨q, B, X', hpost, hsteps⟩
  · exact Or.inl ⟨v, vm₁, B, X₁.warmed, X', hpost, fun target h => hstep₁ _ fun acts => by rw [doInvoke_state]; exact hsteps.trans h⟩
  · exact Or.inr ⟨q, vm₁, B, X₁.warmed, X', hpost, hstep₁ _ fun acts => by rw [doInvoke_state]; exact hsteps⟩
end Calls
theorem vx_cls {s : State} {T : State} {vm₁ : Vm} {E : String} {k : ClassId} (hW : s.WarmedH vm₁) (h : (T.setVm vm₁).vm.findClass E = some k) : s.vm.findClass E = some k := by
  have h1 : vm₁.findClass E = some k := h
  rw [hW.alike.findClass] at h1
  exact h1
/-- the method's frame g, with q thrown over it -/
def vx_W (p : Program) (l : Launch) (e : Env) (R : Room) (s : State) (m : MethodId) (args : Array Value) (below : List Frame) (meth : Method) (c : Code) (H : Heap) (locs : List Loc) (cells slots : Nat) (Q : State → Prop) (g : JFrame) (q : Addr) : Prop :=
  ∀ T : State, T.heap = H → Stand p l e R s m args below meth c T locs cells slots → ∃ t, Steps p.tables e below ((T.setTop g).pushFrame (.throwing q)) t ∧ Q t
def vx_Run (p : Program) (l : Launch) (e : Env) (R : Room) (s : State) (m : MethodId) (args : Array Value) (below : List Frame) (meth : Method) (c : Code) (H : Heap) (locs : List Loc) (cells slots mc ms : Nat) (g : JFrame) (rest : List Value) (Qa : State → Outcome → State → Prop) (XC : String → State → State → Prop) (free : Addr → Prop) : Prop :=
  ∀ T : State, T.heap = H → Stand p l e R s m args below meth c T locs cells slots →
    (∃ (v : Option Value) (st₀ t T' : State) (L : List Loc), st₀.heap = H ∧ Stand p l e R s m args below meth c T' (locs ++ L) (cells + mc) (slots + ms) ∧ (∀ q ∈ L, free q.base) ∧ T'.heap = t.heap ∧ T'.vm = t.vm ∧ Qa st₀ (.returned v) t ∧
      Goes p e below T g T' { g with pc := g.pc + 3, stack := v.toList ++ rest }) ∨
    (∃ (q : Addr) (st₀ t T' : State) (L : List Loc) (E : String) (ce : Cell), st₀.heap = H ∧ Stand p l e R s m args below meth c T' (locs ++ L) (cells + mc) (slots + ms) ∧ (∀ z ∈ L, free z.base) ∧ T'.heap = t.heap ∧ T'.vm = t.vm ∧ XC E st₀ t ∧ t.heap[q]? = some ce ∧ ce.vm = .none ∧ s.vm.findClass E = some ce.cls ∧
      Steps p.tables e below (T.setTop g) ((T'.setTop { g with stack := rest }).pushFrame (.throwing q)))
def vx_X {S : Type} (px : S → Prop) (B : String → S → State → Prop) (A : Nat → Prop) : String → State → State → Prop := fun E st t => ∃ u : S, px u ∧ B E u t ∧ va_F A st t
section Runs
variable {p : Program} {l : Launch} {e : Env} {R : Room} {s : State} {m : MethodId} {args : Array Value} {below : List Frame} {meth : Method} {c : Code} {H : Heap} {locs : List Loc} {cells slots : Nat}
variable {y : MethodName} {bytes cc : ByteArray} {maxL nL mc ms n index : Nat} {ret : Option FieldType} {ws : List Cond} {rm : Room} {Pc : Array Value → State → Prop} {Qc : Array Value → State → Outcome → State → Prop} {XC : String → State → State → Prop} {free : Addr → Prop} {Ts : List Cond} {own C : String} {b : Addr} {As rest : List Value} {g : JFrame}
theorem vx_callBack (cb : CallB R s args own index y bytes maxL ret ws rm mc ms n) (hM : vx_Met l y ws rm Pc Qc XC mc ms free) (hbl : FrameBlind Pc) : vx_Back l R p e below s args y 3 8 (PreOf R mc ms Pc) (PostOf Qc mc ms free) (vx_Post XC mc ms free) := by
  obtain ⟨hrc, hrs, hfr, hlo, hws, hcw, -, hini, -⟩ := cb
  exact vx_back (bytes := bytes) (maxL := maxL) (ret := ret) hM hbl hrc hrs hfr hlo hws hcw (fun a' U hW => word_at hW (Or.inl (by first | rfl | simp [Cond.onTables, Cond.keeps, Cond.steady])) hini)
theorem vx_runV (S : CallFix p m c cc nL s args Ts own) (hM : vx_Met l y ws rm Pc Qc XC mc ms free) (cw : CallW R s args own C index y bytes maxL ret ws rm mc ms n) (hp : PreV s H C b Pc As)
    (hg : g.method = m) (hn : As.length = n) (hsize : g.locals.size = nL) (hstack : g.stack = As.reverse ++ .ref b :: rest) (hW : 2 * g.monitorRoom + (rest.map fun v => v.category).sum ≤ 8) (hdg : decode cc g.pc = .ok (.invokevirtual index, 3)) (hf : cells + mc ≤ R.cells ∧ slots + ms ≤ R.slots) :
    vx_Run p l e R s m args below meth c H locs cells slots mc ms g rest (Qc (Value.ref b :: As).toArray) XC free := by
  have hK : vx_Back l R p e below s args y 3 8 (PreOf R mc ms Pc) (PostOf Qc mc ms free) (vx_Post XC mc ms free) := vx_callBack cw.1 hM hp.1
  obtain ⟨⟨-, -, -, -, -, -, hcode, -, hy, hlen, hl⟩, hin, hse⟩ := cw
  obtain ⟨hx, hb, hml, ho, -⟩ := S
  obtain ⟨-, ⟨cellB, hcB, hoB, hclB⟩, hPc⟩ := hp
  intro T hT X
  rcases vx_callV X hx (C := C) (bytes := bytes) (maxL := maxL) (ret := ret) ho hl hin hse hcode hy hK (by rw [hT]; exact hcB) hoB hclB hg (hsize.trans hml.symm) (argsL := As) (rest := rest) (fun sig h => hn.trans (hlen sig h)) hstack hW (by rw [hb]; exact hdg)
    (fun vm₁ hW₁ => ⟨hf.1, hf.2, hPc (T.setVm vm₁) hT hW₁⟩) with ⟨v, vm₁, ⟨U', l2, c2, s2⟩, hW₁, X', ⟨g', mk, t, L, e1, e2, hq, h1, hL, h2, h3⟩, st⟩ | ⟨q, vm₁, ⟨U', l2, c2, s2⟩, hW₁, X', ⟨g', mk, t, L, E, ce, e1, e2, hq, hce, hcv, hcl, h1, hL, h2, h3⟩, st⟩
  · dsimp only [Pt.U, Pt.locs, Pt.cells, Pt.slots] at X' e1 e2 h1 h2 h3 st
    subst h1; subst h2; subst h3
    exact Or.inl ⟨v, (T.setVm vm₁).calling g' mk (Value.ref b :: As).toArray, t, U', L, hT, X', hL, e1, e2, hq, st⟩
  · dsimp only [Pt.U, Pt.locs, Pt.cells, Pt.slots] at X' e1 e2 h1 h2 h3 st hcl
    subst h1; subst h2; subst h3
    exact Or.inr ⟨q, (T.setVm vm₁).calling g' mk (Value.ref b :: As).toArray, t, U', L, E, ce, hT, X', hL, e1, e2, hq, hce, hcv, vx_cls hW₁ hcl, st⟩
theorem vx_runS (S : CallFix p m c cc nL s args Ts own) (hM : vx_Met l y ws rm Pc Qc XC mc ms free) (cw : CallB R s args own index y bytes maxL ret ws rm mc ms n ∧ (Cond.static y).before args s = true) (hp : PreS s H Pc As)
    (hg : g.method = m) (hn : As.length = n) (hsize : g.locals.size = nL) (hstack : g.stack = As.reverse ++ rest) (hW : 2 * g.monitorRoom + (rest.map fun v => v.category).sum ≤ 8) (hdg : decode cc g.pc = .ok (.invokestatic index, 3)) (hf : cells + mc ≤ R.cells ∧ slots + ms ≤ R.slots) :
    vx_Run p l e R s m args below meth c H locs cells slots mc ms g rest (Qc As.toArray) XC free := by
  have hK : vx_Back l R p e below s args y 3 8 (PreOf R mc ms Pc) (PostOf Qc mc ms free) (vx_Post XC mc ms free) := vx_callBack cw.1 hM hp.1
  obtain ⟨⟨-, -, -, -, -, -, hcode, hini, hy, hlen, hl⟩, hstt⟩ := cw
  obtain ⟨hx, hb, hml, ho, -⟩ := S
  intro T hT X
  rcases vx_callS X hx (bytes := bytes) (maxL := maxL) (ret := ret) ho hl hstt hini hcode hy hK hg (hsize.trans hml.symm) (argsL := As) (rest := rest) (fun sig h => hn.trans (hlen sig h)) hstack hW (by rw [hb]; exact hdg)
    (fun vm₁ hW₁ => ⟨hf.1, hf.2, hp.2 (T.setVm vm₁) hT hW₁⟩) with ⟨v, vm₁, ⟨U', l2, c2, s2⟩, hW₁, X', ⟨g', mk, t, L, e1, e2, hq, h1, hL, h2, h3⟩, st⟩ | ⟨q, vm₁, ⟨U', l2, c2, s2⟩, hW₁, X', ⟨g', mk, t, L, E, ce, e1, e2, hq, hce, hcv, hcl, h1, hL, h2, h3⟩, st⟩
  · dsimp only [Pt.U, Pt.locs, Pt.cells, Pt.slots] at X' e1 e2 h1 h2 h3 st
    subst h1; subst h2; subst h3
    exact Or.inl ⟨v, (T.setVm vm₁).calling g' mk As.toArray, t, U', L, hT, X', hL, e1, e2, hq, st⟩
  · dsimp only [Pt.U, Pt.locs, Pt.cells, Pt.slots] at X' e1 e2 h1 h2 h3 st hcl
    subst h1; subst h2; subst h3
    exact Or.inr ⟨q, (T.setVm vm₁).calling g' mk As.toArray, t, U', L, E, ce, hT, X', hL, e1, e2, hq, hce, hcv, vx_cls hW₁ hcl, st⟩
end Runs
section Rows
variable {p : Program} {l : Launch} {e : Env} {R : Room} {s : State} {m : MethodId} {args : Array Value} {below : List Frame} {meth : Method} {c : Code} {H : Heap} {locs : List Loc} {cells slots : Nat} {Q : State → Prop}
variable {mc ms : Nat} {free : Addr → Prop} {A0 A1 : Nat → Prop} {H0 : Heap} {a : Array Value} {pc : Nat} {ls : Array Slot} {st0 rest : List Value}
theorem vx_keep {st₀ t T' : State} {L : List Loc} (h0 : st₀.heap = H) (e1 : T'.heap = t.heap) (hS : va_S A0 H0 H locs) (hA : ∀ q, q < H.size → A1 q → A0 q) (hf : ∀ q, free q → A0 q) (hL : ∀ q ∈ L, free q.base) (hF : va_F A1 st₀ t) :
    H.size ≤ T'.heap.size ∧ (∀ q : Nat, q < H.size → ¬ A1 q → T'.heap[q]? = H[q]?) ∧ va_S A0 H0 T'.heap (locs ++ L) := by
  obtain ⟨hz, hk⟩ := hF
  rw [h0] at hz hk
  exact ⟨by rw [e1]; exact hz, fun q h1 h2 => by rw [e1]; exact hk q h1 h2,
    ⟨Nat.le_trans hS.1 (by rw [e1]; exact hz), fun q h1 h2 => by rw [e1, hk q (Nat.lt_of_lt_of_le h1 hS.1) (fun z => h2 (hA q (Nat.lt_of_lt_of_le h1 hS.1) z))]; exact hS.2.1 q h1 h2, fun q hq => by
      rcases List.mem_append.mp hq with h | h
      · exact hS.2.2 q h
      · exact hf _ (hL q h)⟩⟩
theorem vx_calli {S SX : Type} {post : Int32 → S → Prop} {px : SX → Prop} {B : S → State → Prop} {BX : String → SX → State → Prop} {AX : Nat → Prop} (hr : vx_Run p l e R s m args below meth c H locs cells slots mc ms (F0 m pc ls st0) rest (va_Qi post B A1 a) (vx_X px BX AX) free) (hS : va_S A0 H0 H locs) (hA : ∀ q, q < H.size → A1 q → A0 q) (hf : ∀ q, free q → A0 q) (hAX : ∀ q, q < H.size → AX q → A0 q)
    (kx : ∀ (E : String) (ce : Cell) (q9 : Addr) (u : SX) (t : State) (H1 : Heap) (locs1 : List Loc), t.heap = H1 → s.vm.Alike t.vm → px u → BX E u t → H.size ≤ H1.size → (∀ q : Nat, q < H.size → ¬ AX q → H1[q]? = H[q]?) → va_S A0 H0 H1 locs1 → H1[q9]? = some ce → ce.vm = .none → s.vm.findClass E = some ce.cls → vx_W p l e R s m args below meth c H1 locs1 (cells + mc) (slots + ms) Q (F0 m pc ls rest) q9)
    (kk : ∀ (r : Int32) (u : S) (t : State) (H1 : Heap) (locs1 : List Loc), t.heap = H1 → s.vm.Alike t.vm → post r u → B u t → H.size ≤ H1.size → (∀ q : Nat, q < H.size → ¬ A1 q → H1[q]? = H[q]?) → va_S A0 H0 H1 locs1 → W p l e R s m args below meth c H1 locs1 (cells + mc) (slots + ms) Q (F0 m (pc + 3) ls (.int r :: rest))) : W p l e R s m args below meth c H locs cells slots Q (F0 m pc ls st0) := by
  intro T hT X
  rcases hr T hT X with ⟨v, st₀, t, T', L, h0, X', hL, e1, e2, ⟨⟨r, u, hv, hp, hb⟩, hF⟩, st⟩ | ⟨q, st₀, t, T', L, E, ce, h0, X', hL, e1, e2, ⟨u, hp, hb, hF⟩, hce, hcv, hcl, st⟩
  · cases hv
    obtain ⟨k1, k2, k3⟩ := vx_keep h0 e1 hS hA hf hL hF
    obtain ⟨t2, a1, b1⟩ := kk r u t T'.heap (locs ++ L) e1.symm (by rw [← e2]; exact X'.warmed.alike) hp hb k1 k2 k3 T' rfl X'
    exact ⟨t2, st t2 a1, b1⟩
  · obtain ⟨k1, k2, k3⟩ := vx_keep h0 e1 hS hAX hf hL hF
    obtain ⟨t2, a1, b1⟩ := kx E ce q u t T'.heap (locs ++ L) e1.symm (by rw [← e2]; exact X'.warmed.alike) hp hb k1 k2 k3 (by rw [e1]; exact hce) hcv hcl T' rfl X'
    exact ⟨t2, st.trans a1, b1⟩
theorem vx_calll {S SX : Type} {post : Int64 → S → Prop} {px : SX → Prop} {B : S → State → Prop} {BX : String → SX → State → Prop} {AX : Nat → Prop} (hr : vx_Run p l e R s m args below meth c H locs cells slots mc ms (F0 m pc ls st0) rest (va_Ql post B A1 a) (vx_X px BX AX) free) (hS : va_S A0 H0 H locs) (hA : ∀ q, q < H.size → A1 q → A0 q) (hf : ∀ q, free q → A0 q) (hAX : ∀ q, q < H.size → AX q → A0 q)
    (kx : ∀ (E : String) (ce : Cell) (q9 : Addr) (u : SX) (t : State) (H1 : Heap) (locs1 : List Loc), t.heap = H1 → s.vm.Alike t.vm → px u → BX E u t → H.size ≤ H1.size → (∀ q : Nat, q < H.size → ¬ AX q → H1[q]? = H[q]?) → va_S A0 H0 H1 locs1 → H1[q9]? = some ce → ce.vm = .none → s.vm.findClass E = some ce.cls → vx_W p l e R s m args below meth c H1 locs1 (cells + mc) (slots + ms) Q (F0 m pc ls rest) q9)
    (kk : ∀ (r : Int64) (u : S) (t : State) (H1 : Heap) (locs1 : List Loc), t.heap = H1 → s.vm.Alike t.vm → post r u → B u t → H.size ≤ H1.size → (∀ q : Nat, q < H.size → ¬ A1 q → H1[q]? = H[q]?) → va_S A0 H0 H1 locs1 → W p l e R s m args below meth c H1 locs1 (cells + mc) (slots + ms) Q (F0 m (pc + 3) ls (.long r :: rest))) : W p l e R s m args below meth c H locs cells slots Q (F0 m pc ls st0) := by
  intro T hT X
  rcases hr T hT X with ⟨v, st₀, t, T', L, h0, X', hL, e1, e2, ⟨⟨r, u, hv, hp, hb⟩, hF⟩, st⟩ | ⟨q, st₀, t, T', L, E, ce, h0, X', hL, e1, e2, ⟨u, hp, hb, hF⟩, hce, hcv, hcl, st⟩
  · cases hv
    obtain ⟨k1, k2, k3⟩ := vx_keep h0 e1 hS hA hf hL hF
    obtain ⟨t2, a1, b1⟩ := kk r u t T'.heap (locs ++ L) e1.symm (by rw [← e2]; exact X'.warmed.alike) hp hb k1 k2 k3 T' rfl X'
    exact ⟨t2, st t2 a1, b1⟩
  · obtain ⟨k1, k2, k3⟩ := vx_keep h0 e1 hS hAX hf hL hF
    obtain ⟨t2, a1, b1⟩ := kx E ce q u t T'.heap (locs ++ L) e1.symm (by rw [← e2]; exact X'.warmed.alike) hp hb k1 k2 k3 (by rw [e1]; exact hce) hcv hcl T' rfl X'
    exact ⟨t2, st.trans a1, b1⟩
theorem vx_callf {S SX : Type} {post : UInt32 → S → Prop} {px : SX → Prop} {B : S → State → Prop} {BX : String → SX → State → Prop} {AX : Nat → Prop} (hr : vx_Run p l e R s m args below meth c H locs cells slots mc ms (F0 m pc ls st0) rest (va_Qf post B A1 a) (vx_X px BX AX) free) (hS : va_S A0 H0 H locs) (hA : ∀ q, q < H.size → A1 q → A0 q) (hf : ∀ q, free q → A0 q) (hAX : ∀ q, q < H.size → AX q → A0 q)
    (kx : ∀ (E : String) (ce : Cell) (q9 : Addr) (u : SX) (t : State) (H1 : Heap) (locs1 : List Loc), t.heap = H1 → s.vm.Alike t.vm → px u → BX E u t → H.size ≤ H1.size → (∀ q : Nat, q < H.size → ¬ AX q → H1[q]? = H[q]?) → va_S A0 H0 H1 locs1 → H1[q9]? = some ce → ce.vm = .none → s.vm.findClass E = some ce.cls → vx_W p l e R s m args below meth c H1 locs1 (cells + mc) (slots + ms) Q (F0 m pc ls rest) q9)
    (kk : ∀ (r : UInt32) (u : S) (t : State) (H1 : Heap) (locs1 : List Loc), t.heap = H1 → s.vm.Alike t.vm → post r u → B u t → H.size ≤ H1.size → (∀ q : Nat, q < H.size → ¬ A1 q → H1[q]? = H[q]?) → va_S A0 H0 H1 locs1 → W p l e R s m args below meth c H1 locs1 (cells + mc) (slots + ms) Q (F0 m (pc + 3) ls (.float r :: rest))) : W p l e R s m args below meth c H locs cells slots Q (F0 m pc ls st0) := by
  intro T hT X
  rcases hr T hT X with ⟨v, st₀, t, T', L, h0, X', hL, e1, e2, ⟨⟨r, u, hv, hp, hb⟩, hF⟩, st⟩ | ⟨q, st₀, t, T', L, E, ce, h0, X', hL, e1, e2, ⟨u, hp, hb, hF⟩, hce, hcv, hcl, st⟩
  · cases hv
    obtain ⟨k1, k2, k3⟩ := vx_keep h0 e1 hS hA hf hL hF
    obtain ⟨t2, a1, b1⟩ := kk r u t T'.heap (locs ++ L) e1.symm (by rw [← e2]; exact X'.warmed.alike) hp hb k1 k2 k3 T' rfl X'
    exact ⟨t2, st t2 a1, b1⟩
  · obtain ⟨k1, k2, k3⟩ := vx_keep h0 e1 hS hAX hf hL hF
    obtain ⟨t2, a1, b1⟩ := kx E ce q u t T'.heap (locs ++ L) e1.symm (by rw [← e2]; exact X'.warmed.alike) hp hb k1 k2 k3 (by rw [e1]; exact hce) hcv hcl T' rfl X'
    exact ⟨t2, st.trans a1, b1⟩
theorem vx_calld {S SX : Type} {post : UInt64 → S → Prop} {px : SX → Prop} {B : S → State → Prop} {BX : String → SX → State → Prop} {AX : Nat → Prop} (hr : vx_Run p l e R s m args below meth c H locs cells slots mc ms (F0 m pc ls st0) rest (va_Qd post B A1 a) (vx_X px BX AX) free) (hS : va_S A0 H0 H locs) (hA : ∀ q, q < H.size → A1 q → A0 q) (hf : ∀ q, free q → A0 q) (hAX : ∀ q, q < H.size → AX q → A0 q)
    (kx : ∀ (E : String) (ce : Cell) (q9 : Addr) (u : SX) (t : State) (H1 : Heap) (locs1 : List Loc), t.heap = H1 → s.vm.Alike t.vm → px u → BX E u t → H.size ≤ H1.size → (∀ q : Nat, q < H.size → ¬ AX q → H1[q]? = H[q]?) → va_S A0 H0 H1 locs1 → H1[q9]? = some ce → ce.vm = .none → s.vm.findClass E = some ce.cls → vx_W p l e R s m args below meth c H1 locs1 (cells + mc) (slots + ms) Q (F0 m pc ls rest) q9)
    (kk : ∀ (r : UInt64) (u : S) (t : State) (H1 : Heap) (locs1 : List Loc), t.heap = H1 → s.vm.Alike t.vm → post r u → B u t → H.size ≤ H1.size → (∀ q : Nat, q < H.size → ¬ A1 q → H1[q]? = H[q]?) → va_S A0 H0 H1 locs1 → W p l e R s m args below meth c H1 locs1 (cells + mc) (slots + ms) Q (F0 m (pc + 3) ls (.double r :: rest))) : W p l e R s m args below meth c H locs cells slots Q (F0 m pc ls st0) := by
  intro T hT X
  rcases hr T hT X with ⟨v, st₀, t, T', L, h0, X', hL, e1, e2, ⟨⟨r, u, hv, hp, hb⟩, hF⟩, st⟩ | ⟨q, st₀, t, T', L, E, ce, h0, X', hL, e1, e2, ⟨u, hp, hb, hF⟩, hce, hcv, hcl, st⟩
  · cases hv
    obtain ⟨k1, k2, k3⟩ := vx_keep h0 e1 hS hA hf hL hF
    obtain ⟨t2, a1, b1⟩ := kk r u t T'.heap (locs ++ L) e1.symm (by rw [← e2]; exact X'.warmed.alike) hp hb k1 k2 k3 T' rfl X'
    exact ⟨t2, st t2 a1, b1⟩
  · obtain ⟨k1, k2, k3⟩ := vx_keep h0 e1 hS hAX hf hL hF
    obtain ⟨t2, a1, b1⟩ := kx E ce q u t T'.heap (locs ++ L) e1.symm (by rw [← e2]; exact X'.warmed.alike) hp hb k1 k2 k3 (by rw [e1]; exact hce) hcv hcl T' rfl X'
    exact ⟨t2, st.trans a1, b1⟩
theorem vx_callv {S SX : Type} {post : S → Prop} {px : SX → Prop} {B : S → State → Prop} {BX : String → SX → State → Prop} {AX : Nat → Prop} (hr : vx_Run p l e R s m args below meth c H locs cells slots mc ms (F0 m pc ls st0) rest (va_Qv post B A1 a) (vx_X px BX AX) free) (hS : va_S A0 H0 H locs) (hA : ∀ q, q < H.size → A1 q → A0 q) (hf : ∀ q, free q → A0 q) (hAX : ∀ q, q < H.size → AX q → A0 q)
    (kx : ∀ (E : String) (ce : Cell) (q9 : Addr) (u : SX) (t : State) (H1 : Heap) (locs1 : List Loc), t.heap = H1 → s.vm.Alike t.vm → px u → BX E u t → H.size ≤ H1.size → (∀ q : Nat, q < H.size → ¬ AX q → H1[q]? = H[q]?) → va_S A0 H0 H1 locs1 → H1[q9]? = some ce → ce.vm = .none → s.vm.findClass E = some ce.cls → vx_W p l e R s m args below meth c H1 locs1 (cells + mc) (slots + ms) Q (F0 m pc ls rest) q9)
    (kk : ∀ (u : S) (t : State) (H1 : Heap) (locs1 : List Loc), t.heap = H1 → s.vm.Alike t.vm → post u → B u t → H.size ≤ H1.size → (∀ q : Nat, q < H.size → ¬ A1 q → H1[q]? = H[q]?) → va_S A0 H0 H1 locs1 → W p l e R s m args below meth c H1 locs1 (cells + mc) (slots + ms) Q (F0 m (pc + 3) ls (rest))) : W p l e R s m args below meth c H locs cells slots Q (F0 m pc ls st0) := by
  intro T hT X
  rcases hr T hT X with ⟨v, st₀, t, T', L, h0, X', hL, e1, e2, ⟨⟨u, hv, hp, hb⟩, hF⟩, st⟩ | ⟨q, st₀, t, T', L, E, ce, h0, X', hL, e1, e2, ⟨u, hp, hb, hF⟩, hce, hcv, hcl, st⟩
  · cases hv
    obtain ⟨k1, k2, k3⟩ := vx_keep h0 e1 hS hA hf hL hF
    obtain ⟨t2, a1, b1⟩ := kk u t T'.heap (locs ++ L) e1.symm (by rw [← e2]; exact X'.warmed.alike) hp hb k1 k2 k3 T' rfl X'
    exact ⟨t2, st t2 a1, b1⟩
  · obtain ⟨k1, k2, k3⟩ := vx_keep h0 e1 hS hAX hf hL hF
    obtain ⟨t2, a1, b1⟩ := kx E ce q u t T'.heap (locs ++ L) e1.symm (by rw [← e2]; exact X'.warmed.alike) hp hb k1 k2 k3 (by rw [e1]; exact hce) hcv hcl T' rfl X'
    exact ⟨t2, st.trans a1, b1⟩
/-- caught by the row x of this method's table; the rows ahead don't take it -/
theorem vx_catch {own name : String} {E : String} {ce : Cell} {q : Addr} (hown : s.vm.findClass own = some m.cls) (pre : List ExceptionTableEntry) (x : ExceptionTableEntry) (suf : List ExceptionTableEntry) (hsplit : c.exceptionTable.toList = pre ++ x :: suf)
    (hpass : ∀ z ∈ pre, covers z pc = false ∨ (z.catchType ≠ 0 ∧ ∃ nm : String, (Cond.classLink own z.catchType nm).before args s = true ∧ va_Nc E nm s)) (hx : covers x pc = true) (h0 : x.catchType ≠ 0)
    (hlink : (Cond.classLink own x.catchType name).before args s = true) (hcast : (Cond.castable E name).before args s = true) (hcell : H[q]? = some ce) (hv : ce.vm = .none) (hcl : s.vm.findClass E = some ce.cls)
    (kk : W p l e R s m args below meth c H locs cells slots Q (F0 m x.handlerPc ls [.ref q])) : vx_W p l e R s m args below meth c H locs cells slots Q (F0 m pc ls rest) q := by
  intro T hT X
  have hpl : e.platform.magicAccessors = ({} : Platform).magicAccessors := by rw [X.admits.platform]
  obtain ⟨c3, c4, hc3, hc4, hasg⟩ := Cond.castable_spec hcast
  cases Option.some.inj (hc3.symm.trans hcl)
  obtain ⟨c5, hc5, hcl5⟩ := Cond.classLink_spec hown hlink e.platform hpl
  cases Option.some.inj (hc4.symm.trans hc5)
  obtain ⟨vm', X', st⟩ := X.thenCaughtThrough q (g := F0 m pc ls rest) rfl (Steps.refl _) (by rw [hT]; exact hcell) (by rw [hv]; rfl) (by obtain ⟨k9, h9, -⟩ := Vm.findClass_spec hcl; exact ⟨k9, h9⟩) pre x suf hsplit
    (fun z hz => by
      rcases hpass z hz with h | ⟨hz0, nm, hl1, hn1⟩
      · exact Or.inl h
      · obtain ⟨c6, hc6, hcl6⟩ := Cond.classLink_spec hown hl1 e.platform hpl
        obtain ⟨a8, b8, h1, h2, h3⟩ := hn1
        cases Option.some.inj (h1.symm.trans hcl)
        cases Option.some.inj (h2.symm.trans hc6)
        exact Or.inr ⟨hz0, _, hcl6, h3⟩) hx (Or.inr ⟨h0, c4, hcl5, hasg⟩)
  obtain ⟨t, a1, b1⟩ := kk (T.setVm vm') hT X'
  exact ⟨t, st.trans a1, b1⟩
end Rows
section Ends
variable {p : Program} {l : Launch} {e : Env} {R : Room} {s : State} {m : MethodId} {args : Array Value} {below : List Frame} {meth : Method} {c : Code} {H : Heap} {locs : List Loc} {cells slots : Nat} {Q : State → Prop}
variable {mc ms : Nat} {free : Addr → Prop} {A0 A1 : Nat → Prop} {H0 : Heap} {a : Array Value} {ls : Array Slot} {st0 rest : List Value}
variable {Qc : Array Value → State → Outcome → State → Prop} {XC : String → State → State → Prop}
/-- what a body that may throw owes at its end -/
def vx_MQ (below : List Frame) (Qc : Array Value → State → Outcome → State → Prop) (XC : String → State → State → Prop) (a : Array Value) (s : State) (mc ms : Nat) (free : Addr → Prop) : State → Prop := fun t =>
  ∃ o, t.status = .running ∧ Ended t below o ∧ vx_Q Qc XC mc ms free a s o t
theorem vx_ret {g : JFrame} {mc ms : Nat} (k : W p l e R s m args below meth c H locs cells slots (MQ below Qc args s mc ms free) g) : W p l e R s m args below meth c H locs cells slots (vx_MQ below Qc XC args s mc ms free) g := by
  intro T hT X
  obtain ⟨t, a1, o, b1, b2, b3, b4⟩ := k T hT X
  exact ⟨t, a1, o, b1, b2, Or.inl ⟨b3, b4⟩⟩
/-- not caught here: it goes on to the caller -/
theorem vx_widen {g : JFrame} {q : Addr} {k n : Nat} (h1 : cells ≤ k) (h2 : slots ≤ n) (kk : vx_W p l e R s m args below meth c H locs k n Q g q) : vx_W p l e R s m args below meth c H locs cells slots Q g q := fun T hT X => kk T hT (stand_widen X h1 h2)
theorem vx_out {pc : Nat} {E : String} {ce : Cell} {q : Addr} {mc ms : Nat} (hout : ∀ x ∈ c.exceptionTable.toList, covers x pc = false) (hlocks : meth.locks = false) (hcell : H[q]? = some ce) (hv : ce.vm = .none) (hcl : s.vm.findClass E = some ce.cls)
    (hx : ∀ t : State, t.heap = H → s.vm.Alike t.vm → XC E s t) (hf : ∀ z ∈ locs, free z.base) (hc : cells ≤ mc) (hs : slots ≤ ms) :
    vx_W p l e R s m args below meth c H locs cells slots (vx_MQ below Qc XC args s mc ms free) (F0 m pc ls rest) q := by
  intro T hT X
  obtain ⟨st1, hrun, hend, hW, hsm⟩ := X.leaveThrown q (g := F0 m pc ls rest) rfl rfl rfl hout hlocks
  have hcell9 : (T.setFrames (.throwing q :: below)).heap[q]? = some ce := by
    show T.heap[q]? = some ce
    rw [hT]; exact hcell
  exact ⟨_, st1, .threw q, hrun, hend, Or.inr ⟨q, rfl, E, ce, locs, hx _ hT hW.alike, hcell9, hv, hcl, hW, hsm.mono hc hs, hf⟩⟩
theorem vx_frame {U : State} {k n : Nat} (h : s.sameButNew ({ U with vm := s.vm } : State) locs k n) : s.heap.size ≤ U.heap.size ∧ ∀ q : Nat, q < s.heap.size → (∀ z ∈ locs, z.base ≠ q) → U.heap[q]? = s.heap[q]? := by
  obtain ⟨-, h2, -, -, -, h6⟩ := h
  refine ⟨h2, fun q hq hz => ?_⟩
  obtain ⟨c9, e1, e2, e3, e4⟩ := h6 q _ (Array.getElem?_eq_getElem hq)
  have hs : c9.slots = (s.heap[q]).slots := Array.ext_getElem? fun i => e4 i fun hm => hz _ hm rfl
  have h9 : c9 = s.heap[q] := by
    rw [hs] at e2
    exact e2
  have e5 : U.heap[q]? = some c9 := e1
  rw [e5, h9, Array.getElem?_eq_getElem hq]
/-- the words of a throw but the four that speak of the heap -/
def vx_no (w : Cond) : Bool := decide (w ≠ .isRef (.static Bundle.tN "UNASSIGNED_STACK" Bundle.steD)) && decide (w ≠ .isRef (.static Bundle.tN "SUPPRESSED_SENTINEL" Bundle.listD)) && decide (w ≠ .laysStatic Bundle.tN "UNASSIGNED_STACK" Bundle.steD) && decide (w ≠ .laysStatic Bundle.tN "SUPPRESSED_SENTINEL" Bundle.listD)
def vx_at0 (own : String) (ic : Nat) (X : String) (names : List String) : List Cond := (Bundle.ownAtoms0 own ic X names).filter vx_no
def vx_atS (own : String) (ic : Nat) (X : String) (names : List String) : List Cond := (Bundle.ownAtoms own ic X names).filter vx_no
/-- a word that the tables alone decide, or a good one -/
def vx_ot (w : Cond) : Bool := w.onTables || goodWord w
theorem vx_ot_at {args a' : Array Value} {s U : State} {w : Cond} (hW : s.WarmedH U.vm) (hvm : s.vm = U.vm) (hg : vx_ot w = true) (h : w.before args s = true) : w.before a' U = true := by
  simp only [vx_ot, Bool.or_eq_true] at hg
  rcases hg with hg | hg
  · exact va_tabs hg hvm h
  · exact word_at hW (good_of_word hg) h
/-- a list's words: the good ones out of the method's own list, the others by premises of their own -/
theorem vx_hat {args : Array Value} {s : State} {L B : List Cond} (h1 : ∀ w ∈ L.filter goodWord, w.before args s = true) (h2 : ∀ w ∈ L.filter (fun w => !goodWord w), w ∈ B) (h3 : ∀ w ∈ B, w.before args s = true) : ∀ w ∈ L, w.before args s = true := by
  intro w hw
  by_cases g : goodWord w = true
  · exact h1 w (List.mem_filter.mpr ⟨hw, g⟩)
  · refine h3 w (h2 w (List.mem_filter.mpr ⟨hw, ?_⟩))
    show (!goodWord w) = true
    cases hgw : goodWord w
    · rfl
    · exact absurd hgw g
theorem vx_c {args : Array Value} {s : State} {w : Cond} {B : List Cond} (h : w.before args s = true) (t : ∀ w ∈ B, w.before args s = true) : ∀ w' ∈ w :: B, w'.before args s = true := fun w' h' => (List.mem_cons.mp h').elim (fun e => by rw [e]; exact h) (t w')
theorem vx_n {args : Array Value} {s : State} : ∀ w ∈ ([] : List Cond), w.before args s = true := fun _ h => nomatch h
theorem vx_own {args : Array Value} {s : State} {L : List Cond} (h1 : ∀ w ∈ L.filter vx_no, w.before args s = true)
    (hU : (Cond.isRef (.static Bundle.tN "UNASSIGNED_STACK" Bundle.steD)).before args s = true) (hN : (Cond.isRef (.static Bundle.tN "SUPPRESSED_SENTINEL" Bundle.listD)).before args s = true)
    (lU : (Cond.laysStatic Bundle.tN "UNASSIGNED_STACK" Bundle.steD).before args s = true) (lN : (Cond.laysStatic Bundle.tN "SUPPRESSED_SENTINEL" Bundle.listD).before args s = true) : ∀ w ∈ L, w.before args s = true := by
  intro w hw
  by_cases e1 : w = .isRef (.static Bundle.tN "UNASSIGNED_STACK" Bundle.steD)
  · rw [e1]; exact hU
  · by_cases e2 : w = .isRef (.static Bundle.tN "SUPPRESSED_SENTINEL" Bundle.listD)
    · rw [e2]; exact hN
    · by_cases e3 : w = .laysStatic Bundle.tN "UNASSIGNED_STACK" Bundle.steD
      · rw [e3]; exact lU
      · by_cases e4 : w = .laysStatic Bundle.tN "SUPPRESSED_SENTINEL" Bundle.listD
        · rw [e4]; exact lN
        · exact h1 w (List.mem_filter.mpr ⟨hw, by unfold vx_no; rw [decide_eq_true e1, decide_eq_true e2, decide_eq_true e3, decide_eq_true e4]; rfl⟩)
/-- where a static field lies, its class's statics cell in H -/
def vx_L (C n d : String) (A : Nat → Prop) (U : State) (H : Heap) : Prop := ∃ (c : ClassId) (k : Class) (i : Nat) (f : Field) (a : Nat) (cell : Cell), U.vm.findClass C = some c ∧ U.fieldFound? C n d = some (c, k, i, f) ∧ f.isStatic = true ∧ k.statics = some a ∧ H[a]? = some cell ∧ cell.vm.isStatics = true ∧ cell.cls = c ∧ f.slot < cell.slots.size ∧ k.staticTypes[f.slot]? = some f.type ∧ ¬ A a
theorem vx_L.moved {C n d : String} {A : Nat → Prop} {u U : State} {H : Heap} (hvm : u.vm.Alike U.vm) (h : vx_L C n d A u H) : vx_L C n d A U H := by
  obtain ⟨c, k, i, f, a, cell, h1, h2, h3, h4, h5, h6, h7, h8, h9, h10⟩ := h
  obtain ⟨k', hi', he⟩ := State.fieldFound?_setVm hvm h2
  exact ⟨c, k', i, f, a, cell, by rw [hvm.findClass]; exact h1, hi', h3, by rw [he]; exact h4, h5, h6, h7, h8, by rw [he]; exact h9, h10⟩
theorem vx_L.kept {C n d : String} {A : Nat → Prop} {U : State} {H H1 : Heap} (h : vx_L C n d A U H) (hq : ∀ a : Nat, a < H.size → ¬ A a → H1[a]? = H[a]?) : vx_L C n d A U H1 := by
  obtain ⟨c, k, i, f, a, cell, h1, h2, h3, h4, h5, h6, h7, h8, h9, h10⟩ := h
  exact ⟨c, k, i, f, a, cell, h1, h2, h3, h4, by rw [hq a (Array.getElem?_eq_some_iff.mp h5).1 h10]; exact h5, h6, h7, h8, h9, h10⟩
theorem vx_L.narrow {C n d : String} {A B : Nat → Prop} {U : State} {H : Heap} (h : vx_L C n d A U H) (hAB : ∀ q, B q → A q) : vx_L C n d B U H := by
  obtain ⟨c, k, i, f, a, cell, h1, h2, h3, h4, h5, h6, h7, h8, h9, h10⟩ := h
  exact ⟨c, k, i, f, a, cell, h1, h2, h3, h4, h5, h6, h7, h8, h9, fun z => h10 (hAB _ z)⟩
theorem vx_L.word {C n d : String} {A : Nat → Prop} {s : State} {args : Array Value} (h : vx_L C n d A s s.heap) : (Cond.laysStatic C n d).before args s = true := by
  obtain ⟨c, k, i, f, a, cell, h1, h2, h3, h4, h5, h6, h7, h8, h9, -⟩ := h
  show (Cond.laysStatic C n d).holds args s none s [] = true
  exact Cond.laysStatic_of h1 h2 h3 h4 h5 h6 h7 h8 h9
/-- .. and what it holds: null or some reference -/
def vx_Zq (C n d : String) (A : Nat → Prop) (U : State) (H : Heap) : Prop := va_Zq C n d A U H ∧ vx_L C n d A U H
theorem vx_Zq.moved {C n d : String} {A : Nat → Prop} {u U : State} {H : Heap} (hvm : u.vm.Alike U.vm) (h : vx_Zq C n d A u H) : vx_Zq C n d A U H := ⟨va_Zq.moved hvm h.1, vx_L.moved hvm h.2⟩
theorem vx_Zq.kept {C n d : String} {A : Nat → Prop} {U : State} {H H1 : Heap} (h : vx_Zq C n d A U H) (hq : ∀ a : Nat, a < H.size → ¬ A a → H1[a]? = H[a]?) : vx_Zq C n d A U H1 := ⟨va_Zq.kept h.1 hq, vx_L.kept h.2 hq⟩
theorem vx_Zq.narrow {C n d : String} {A B : Nat → Prop} {U : State} {H : Heap} (h : vx_Zq C n d A U H) (hAB : ∀ q, B q → A q) : vx_Zq C n d B U H := ⟨va_Zq.narrow h.1 hAB, vx_L.narrow h.2 hAB⟩
theorem vx_Zqof {args : Array Value} {s : State} {C n d : String} {A : Nat → Prop} (hl : (Cond.laysStatic C n d).before args s = true) (hini : (Cond.initialized C).before args s = true) (h : (Cond.isRef (.static C n d)).before args s = true) (hA : ∀ a : Nat, a < s.heap.size → ¬ A a) : vx_Zq C n d A s s.heap := by
  refine ⟨va_Zqof hl hini h hA, ?_⟩
  obtain ⟨c, k, i, f, a, cell, h1, h2, h3, h4, h5, h6, h7, h8, h9⟩ := Cond.laysStatic_spec hl
  exact ⟨c, k, i, f, a, cell, h1, h2, h3, h4, h5, h6, h7, h8, h9, hA a (Array.getElem?_eq_some_iff.mp h5).1⟩
theorem vx_isRef {C n d : String} {v : Value} {A : Nat → Prop} {s : State} {args : Array Value} (h : va_Z C n d v A s s.heap) (hv : v.isRef = true) : (Cond.isRef (.static C n d)).before args s = true := by
  obtain ⟨cf, kf, fi, f, a, cell, h1, h2, h3, h4, h5, h6, h7, -⟩ := h
  have he : (Term.static C n d).eval args s none [] s = some v := by
    simp [Term.eval, State.fieldNamed?, h1, h2, h4, h5, h6, h7]
  simp only [Cond.before, Cond.holds, Cond.value, he]
  cases v <;> simp_all [Value.isRef]
theorem vx_isRefq {C n d : String} {A : Nat → Prop} {s : State} {args : Array Value} (h : va_Zq C n d A s s.heap) : (Cond.isRef (.static C n d)).before args s = true := by
  rcases h with h | ⟨t, h⟩
  · exact vx_isRef h rfl
  · exact vx_isRef h rfl
/-- the same frame, seen from here: as if the method were called anew in this heap -/
theorem vx_rebase {T : State} (X : Stand p l e R s m args below meth c T locs cells slots) {R' : Room} (hf : R'.frames ≤ R.frames) (hl : R'.locals ≤ R.locals) (hc : cells + R'.cells ≤ R.cells) (hs : slots + R'.slots ≤ R.slots) :
    Stand p l e R' ((T.setVm s.vm).setFrames (.invoking m args :: below)) m args below meth c T [] 0 0 := by
  have htop : (T.setVm s.vm).topJava?.isSome := X.here.top
  have hF : ((T.setVm s.vm).setFrames (.invoking m args :: below)).frames = .invoking m args :: below := State.frames_setFrames _ (State.cur_lt_of_top htop)
  obtain ⟨g₀, hg0⟩ := Option.isSome_iff_exists.mp htop
  obtain ⟨r, hr⟩ := State.topJava?_eq_some.mp hg0
  have hl9 : e.platform.stackLimits (T.setVm s.vm).me = e.platform.stackLimits s.me := X.limits
  have hb9 : (T.setVm s.vm).me.stackBytes = s.me.stackBytes := X.bytes
  refine ⟨X.admits, X.cas, X.clock, hF, ?_, X.hears, X.method, X.code, X.here, X.tail, X.warmed, ?_, ?_, ?_⟩
  · have h := X.room
    have hU : ((T.setVm s.vm).setFrames (.invoking m args :: below)).localsInUse = s.localsInUse := by
      rw [State.localsInUse_invoking hF (meth := meth) (c := c) X.method X.code, State.localsInUse_invoking X.frames X.method X.code]
    simp only [State.hasRoom, Bool.and_eq_true, decide_eq_true_eq] at h ⊢
    obtain ⟨⟨⟨⟨h1, h2, h3, h4, h5, h6⟩, h7⟩, h8⟩, h9⟩ := h
    rw [X.frames, List.length_cons] at h2 h3
    have q1 := X.heapSize
    have q2 := X.used
    simp only [hF, hU, List.length_cons, State.stackLimits_setFrames, State.stackBytes_setFrames, hl9, hb9]
    refine ⟨⟨⟨⟨by omega, by omega, by omega, by omega, by omega, h6⟩, ?_⟩, ?_⟩, X.book⟩
    · show T.heap.size + R'.cells ≤ e.platform.maxCells
      omega
    · show T.slotsUsed + R'.slots ≤ e.platform.maxSlots
      omega
  · rw [State.stackLimits_setFrames]; rfl
  · rw [State.stackBytes_setFrames]; rfl
  · refine ⟨?_, Nat.le_refl _, Nat.le_refl _, ?_, ?_, fun a c9 h9 => ⟨c9, h9, rfl, rfl, fun _ _ => rfl⟩⟩
    · obtain ⟨t, ht, -⟩ := State.frames_cons hr
      show T.setVm s.vm = { ((T.setVm s.vm).setFrames (.invoking m args :: below)).setFrames (T.setVm s.vm).frames with heap := T.heap, slotsUsed := T.slotsUsed }
      rw [State.setFrames_setFrames, State.setFrames_self ht]
      rfl
    · show T.slotsUsed = T.slotsUsed + ((T.heap.toList.drop T.heap.size).map (·.slots.size)).sum
      rw [List.drop_eq_nil_of_le (Nat.le_of_eq Array.length_toList)]
      rfl
    · show ((T.heap.toList.drop T.heap.size).map (·.slots.size)).sum ≤ 0
      rw [List.drop_eq_nil_of_le (Nat.le_of_eq Array.length_toList)]
      exact Nat.le_refl _
/-- 'throw new E()': new; dup; invokespecial; athrow -/
theorem vx_throw0 {cc : ByteArray} {pc : Nat} (hexec : p.tables.exec = Jvm.exec) (hb : c.code = cc) (hl : l.stackTraces = false) {own cls : String} {names : List String} {ik ic mc ms : Nat} {A : Nat → Prop}
    (hown : s.vm.findClass own = some m.cls) (hcls : Bundle.fit cls = true) (hnames : ∀ n ∈ names, Bundle.fit n = true)
    (hk : (Cond.classLink own ik cls).before args s = true) (hini : (Cond.initialized cls).before args s = true) (hat : ∀ w ∈ vx_at0 own ic cls names, w.before args s = true)
    (hgood : ∀ w ∈ Cond.classLink own ik cls :: Cond.initialized cls :: vx_at0 own ic cls names, vx_ot w = true)
    (hU : vx_Zq Bundle.tN "UNASSIGNED_STACK" Bundle.steD A s s.heap) (hN : vx_Zq Bundle.tN "SUPPRESSED_SENTINEL" Bundle.listD A s s.heap) (hS : va_S A s.heap H locs) (hsize : ls.size = c.maxLocals)
    (d0 : decode cc pc = .ok (.new ik, 3)) (d3 : decode cc (pc + 3) = .ok (.dup, 1)) (d4 : decode cc (pc + 4) = .ok (.invokespecial ic, 3)) (d7 : decode cc (pc + 7) = .ok (.athrow, 1))
    (hout : ∀ x ∈ c.exceptionTable.toList, covers x (pc + 7) = false)
    (hRframes : names.length + 3 < R.frames) (hRlocals : (rest.map fun v => v.category).sum + (13 * (names.length + 1) + 42) ≤ R.locals) (hRcells : cells + 1 ≤ R.cells) (hRslots : slots + 6 ≤ R.slots) (hlocks : meth.locks = false)
    (hx : ∀ t : State, s.vm.Alike t.vm → H.size ≤ t.heap.size → (∀ q : Nat, q < H.size → t.heap[q]? = H[q]?) → XC cls s t)
    (hf : ∀ z ∈ locs, free z.base) (hc : cells + 1 ≤ mc) (hs : slots + 6 ≤ ms) :
    W p l e R s m args below meth c H locs cells slots (vx_MQ below Qc XC args s mc ms free) (F0 m pc ls rest) := by
  intro T hT X
  have htr : e.platform.stackTraces = false := (show e.platform.stackTraces = l.stackTraces by rw [X.admits.platform]).trans hl
  have Y := vx_rebase X (R' := { frames := R.frames, locals := R.locals, cells := 1, slots := 6 }) (Nat.le_refl _) (Nat.le_refl _) hRcells hRslots
  obtain ⟨s', hA⟩ : ∃ z, z = (T.setVm s.vm).setFrames (.invoking m args :: below) := ⟨_, rfl⟩
  rw [← hA] at Y
  have hvm : s'.vm = s.vm := by rw [hA]; rfl
  have hhp : s'.heap = H := by rw [hA]; exact hT
  have hW0 : s.WarmedH s'.vm := by rw [hvm]; exact State.WarmedH.refl s
  have hat' : ∀ w ∈ vx_at0 own ic cls names, w.before args s' = true := fun w hw => vx_ot_at hW0 hvm.symm (hgood w (List.mem_cons_of_mem _ (List.mem_cons_of_mem _ hw))) (hat w hw)
  have hk' : (Cond.classLink own ik cls).before args s' = true := vx_ot_at hW0 hvm.symm (hgood _ List.mem_cons_self) hk
  have hini' : (Cond.initialized cls).before args s' = true := vx_ot_at hW0 hvm.symm (hgood _ (List.mem_cons_of_mem _ List.mem_cons_self)) hini
  have hU' : vx_Zq Bundle.tN "UNASSIGNED_STACK" Bundle.steD A s' s'.heap := by rw [hhp]; exact vx_Zq.moved hW0.alike (hU.kept hS.2.1)
  have hN' : vx_Zq Bundle.tN "SUPPRESSED_SENTINEL" Bundle.listD A s' s'.heap := by rw [hhp]; exact vx_Zq.moved hW0.alike (hN.kept hS.2.1)
  have h : ∀ w ∈ Bundle.ownAtoms0 own ic cls names, w.before args s' = true := vx_own hat' (vx_isRefq hU'.1) (vx_isRefq hN'.1) hU'.2.word hN'.2.word
  have hown' : s'.vm.findClass own = some m.cls := by rw [hvm]; exact hown
  have hins : (Cond.instantiable cls 6).before args s' = true := h _ (by simp [Bundle.ownAtoms0])
  obtain ⟨vm₁, cX, kX, hfX, hkX, -, -, X₁, st1⟩ := Y.newCold hexec (own := own) (C := cls) (index := ik) (n := 6) hown' hk' hins hini'
    (g := F0 m pc ls rest) rfl (by rw [hb]; exact d0) (Nat.le_refl _) (Nat.le_refl _)
  generalize hT1 : (T.setVm vm₁).pushCell { cls := cX, slots := kX.instanceTypes.map defaultValue, vm := .none } = T1 at X₁ st1
  have hcat : (Value.ref T.heap.size).category = 1 := rfl
  have hcellA : T1.heap[T.heap.size]? = some (freshCell cX kX) := by rw [← hT1]; exact State.heap_pushCell_size _ _
  have d3' : decode c.code (pc + 3) = .ok (.dup, 1) := by rw [hb]; exact d3
  obtain ⟨U, hsteps, hrun, hend, hW, hsame, ce, hce, hO⟩ := X₁.ctorThrow0 hexec htr (own := own) (cls := cls) (names := names) (ic := ic) hown' hcls hnames h (fun x hx => nomatch hx) hfX hkX hcellA (by rw [hhp, hT]; exact Nat.le_refl _)
    (g := { method := m, pc := pc + 4, locals := ls, stack := .ref T.heap.size :: .ref T.heap.size :: rest, locked := none }) rfl hsize rfl rfl (rest := rest) rfl
    (by rw [hb]; exact d4) (by rw [hb]; exact d7) hout hRframes (by simp only [List.map_cons, List.sum_cons, hcat]; omega) hlocks
  obtain ⟨f1, f2⟩ := vx_frame hsame
  rw [hhp] at f1 f2
  have hWs : s.WarmedH U.vm := State.WarmedH.trans hW0 hW
  have hcl : s.vm.findClass cls = some ce.cls := by
    have h9 := hO.cls
    rw [hvm] at h9
    exact h9
  have hall : s.sameButNew ({ U with vm := s.vm } : State) locs mc ms := by
    subst hA
    obtain ⟨e1, e2⟩ := hsame
    rw [State.setFrames_setFrames] at e1
    have h2 : (T.setVm s.vm).sameButNew ({ U with vm := s.vm } : State) [] (0 + 1) (0 + 6) := ⟨e1, e2⟩
    have h3 := X.same.trans h2
    rw [List.append_nil] at h3
    exact h3.mono hc hs
  refine ⟨U, ?_, .threw T.heap.size, hrun, hend, Or.inr ⟨T.heap.size, rfl, cls, ce, locs, hx U hWs.alike f1 (fun q hq => f2 q hq (fun z hz => nomatch hz)), hce, hO.vm, hcl, hWs, hall, hf⟩⟩
  refine st1 _ ?_
  show Steps p.tables e below (T1.setTop { method := m, pc := pc + 3, locals := ls, stack := .ref T.heap.size :: rest, locked := none }) _
  jvm_step X₁.here [X₁.here.top, hexec, d3', Value.category]
  exact hsteps
/-- 'throw new E("text")': new; dup; ldc; invokespecial; athrow -/
theorem vx_throwS {cc : ByteArray} {pc : Nat} (hexec : p.tables.exec = Jvm.exec) (hb : c.code = cc) (hl : l.stackTraces = false) {own cls text : String} {names : List String} {ik is ic mc ms sa : Nat} {A : Nat → Prop}
    (hown : s.vm.findClass own = some m.cls) (hcls : Bundle.fit cls = true) (hnames : ∀ n ∈ names, Bundle.fit n = true)
    (hk : (Cond.classLink own ik cls).before args s = true) (hini : (Cond.initialized cls).before args s = true) (hstr : vk_R own is text sa s) (hat : ∀ w ∈ vx_atS own ic cls names, w.before args s = true)
    (hgood : ∀ w ∈ Cond.classLink own ik cls :: Cond.initialized cls :: vx_atS own ic cls names, vx_ot w = true)
    (hU : vx_Zq Bundle.tN "UNASSIGNED_STACK" Bundle.steD A s s.heap) (hN : vx_Zq Bundle.tN "SUPPRESSED_SENTINEL" Bundle.listD A s s.heap) (hS : va_S A s.heap H locs) (hsize : ls.size = c.maxLocals)
    (d0 : decode cc pc = .ok (.new ik, 3)) (d3 : decode cc (pc + 3) = .ok (.dup, 1)) (d4 : decode cc (pc + 4) = .ok (.ldc is, 2)) (d6 : decode cc (pc + 6) = .ok (.invokespecial ic, 3)) (d9 : decode cc (pc + 9) = .ok (.athrow, 1))
    (hout : ∀ x ∈ c.exceptionTable.toList, covers x (pc + 9) = false)
    (hRframes : names.length + 3 < R.frames) (hRlocals : (rest.map fun v => v.category).sum + (13 * (names.length + 1) + 43) ≤ R.locals) (hRcells : cells + 1 ≤ R.cells) (hRslots : slots + 6 ≤ R.slots) (hlocks : meth.locks = false)
    (hx : ∀ t : State, s.vm.Alike t.vm → H.size ≤ t.heap.size → (∀ q : Nat, q < H.size → t.heap[q]? = H[q]?) → XC cls s t)
    (hf : ∀ z ∈ locs, free z.base) (hc : cells + 1 ≤ mc) (hs : slots + 6 ≤ ms) :
    W p l e R s m args below meth c H locs cells slots (vx_MQ below Qc XC args s mc ms free) (F0 m pc ls rest) := by
  intro T hT X
  have htr : e.platform.stackTraces = false := (show e.platform.stackTraces = l.stackTraces by rw [X.admits.platform]).trans hl
  have Y := vx_rebase X (R' := { frames := R.frames, locals := R.locals, cells := 1, slots := 6 }) (Nat.le_refl _) (Nat.le_refl _) hRcells hRslots
  obtain ⟨s', hA⟩ : ∃ z, z = (T.setVm s.vm).setFrames (.invoking m args :: below) := ⟨_, rfl⟩
  rw [← hA] at Y
  have hvm : s'.vm = s.vm := by rw [hA]; rfl
  have hhp : s'.heap = H := by rw [hA]; exact hT
  have hW0 : s.WarmedH s'.vm := by rw [hvm]; exact State.WarmedH.refl s
  have hat' : ∀ w ∈ vx_atS own ic cls names, w.before args s' = true := fun w hw => vx_ot_at hW0 hvm.symm (hgood w (List.mem_cons_of_mem _ (List.mem_cons_of_mem _ hw))) (hat w hw)
  have hk' : (Cond.classLink own ik cls).before args s' = true := vx_ot_at hW0 hvm.symm (hgood _ List.mem_cons_self) hk
  have hini' : (Cond.initialized cls).before args s' = true := vx_ot_at hW0 hvm.symm (hgood _ (List.mem_cons_of_mem _ List.mem_cons_self)) hini
  have hU' : vx_Zq Bundle.tN "UNASSIGNED_STACK" Bundle.steD A s' s'.heap := by rw [hhp]; exact vx_Zq.moved hW0.alike (hU.kept hS.2.1)
  have hN' : vx_Zq Bundle.tN "SUPPRESSED_SENTINEL" Bundle.listD A s' s'.heap := by rw [hhp]; exact vx_Zq.moved hW0.alike (hN.kept hS.2.1)
  have h : ∀ w ∈ Bundle.ownAtoms own ic cls names, w.before args s' = true := vx_own hat' (vx_isRefq hU'.1) (vx_isRefq hN'.1) hU'.2.word hN'.2.word
  have hown' : s'.vm.findClass own = some m.cls := by rw [hvm]; exact hown
  have hins : (Cond.instantiable cls 6).before args s' = true := h _ (by simp [Bundle.ownAtoms])
  obtain ⟨vm₁, cX, kX, hfX, hkX, -, -, X₁, st1⟩ := Y.newCold hexec (own := own) (C := cls) (index := ik) (n := 6) hown' hk' hins hini'
    (g := F0 m pc ls rest) rfl (by rw [hb]; exact d0) (Nat.le_refl _) (Nat.le_refl _)
  generalize hT1 : (T.setVm vm₁).pushCell { cls := cX, slots := kX.instanceTypes.map defaultValue, vm := .none } = T1 at X₁ st1
  have hcat : (Value.ref T.heap.size).category = 1 := rfl
  have hcellA : T1.heap[T.heap.size]? = some (freshCell cX kX) := by rw [← hT1]; exact State.heap_pushCell_size _ _
  have d3' : decode c.code (pc + 3) = .ok (.dup, 1) := by rw [hb]; exact d3
  have d4' : decode c.code (pc + 4) = .ok (.ldc is, 2) := by rw [hb]; exact d4
  have hstr' : vk_R own is text sa s' := vk_R.warm hW0 hstr
  obtain ⟨U, hsteps, hrun, hend, hW, hsame, ce, hce, hO⟩ := X₁.ctorThrowS hexec htr (own := own) (cls := cls) (names := names) (ic := ic) hown' hcls hnames h (fun x hx => nomatch hx) hfX hkX hcellA (by rw [hhp, hT]; exact Nat.le_refl _) (msg := .ref sa) rfl
    (g := { method := m, pc := pc + 6, locals := ls, stack := .ref sa :: .ref T.heap.size :: .ref T.heap.size :: rest, locked := none }) rfl hsize rfl rfl (rest := rest) rfl
    (by rw [hb]; exact d6) (by rw [hb]; exact d9) hout hRframes (by simp only [List.map_cons, List.sum_cons, hcat]; omega) hlocks
  obtain ⟨f1, f2⟩ := vx_frame hsame
  rw [hhp] at f1 f2
  have hWs : s.WarmedH U.vm := State.WarmedH.trans hW0 hW
  have hcl : s.vm.findClass cls = some ce.cls := by
    have h9 := hO.cls
    rw [hvm] at h9
    exact h9
  have hall : s.sameButNew ({ U with vm := s.vm } : State) locs mc ms := by
    subst hA
    obtain ⟨e1, e2⟩ := hsame
    rw [State.setFrames_setFrames] at e1
    have h2 : (T.setVm s.vm).sameButNew ({ U with vm := s.vm } : State) [] (0 + 1) (0 + 6) := ⟨e1, e2⟩
    have h3 := X.same.trans h2
    rw [List.append_nil] at h3
    exact h3.mono hc hs
  refine ⟨U, ?_, .threw T.heap.size, hrun, hend, Or.inr ⟨T.heap.size, rfl, cls, ce, locs, hx U hWs.alike f1 (fun q hq => f2 q hq (fun z hz => nomatch hz)), hce, hO.vm, hcl, hWs, hall, hf⟩⟩
  refine st1 _ ?_
  show Steps p.tables e below (T1.setTop { method := m, pc := pc + 3, locals := ls, stack := .ref T.heap.size :: rest, locked := none }) _
  jvm_step X₁.here [X₁.here.top, hexec, d3', Value.category]
  exact X₁.ldcString hexec (own := own) (text := text) (index := is) (a := sa) hown' hstr'.1 hstr'.2
    (g := { method := m, pc := pc + 4, locals := ls, stack := .ref T.heap.size :: .ref T.heap.size :: rest, locked := none }) rfl d4' _ hsteps
/-- 'throw new E("text")', the text by a wide index -/
theorem vx_throwSW {cc : ByteArray} {pc : Nat} (hexec : p.tables.exec = Jvm.exec) (hb : c.code = cc) (hl : l.stackTraces = false) {own cls text : String} {names : List String} {ik is ic mc ms sa : Nat} {A : Nat → Prop}
    (hown : s.vm.findClass own = some m.cls) (hcls : Bundle.fit cls = true) (hnames : ∀ n ∈ names, Bundle.fit n = true)
    (hk : (Cond.classLink own ik cls).before args s = true) (hini : (Cond.initialized cls).before args s = true) (hstr : vk_R own is text sa s) (hat : ∀ w ∈ vx_atS own ic cls names, w.before args s = true)
    (hgood : ∀ w ∈ Cond.classLink own ik cls :: Cond.initialized cls :: vx_atS own ic cls names, vx_ot w = true)
    (hU : vx_Zq Bundle.tN "UNASSIGNED_STACK" Bundle.steD A s s.heap) (hN : vx_Zq Bundle.tN "SUPPRESSED_SENTINEL" Bundle.listD A s s.heap) (hS : va_S A s.heap H locs) (hsize : ls.size = c.maxLocals)
    (d0 : decode cc pc = .ok (.new ik, 3)) (d3 : decode cc (pc + 3) = .ok (.dup, 1)) (d4 : decode cc (pc + 4) = .ok (.ldc_w is, 3)) (d7 : decode cc (pc + 7) = .ok (.invokespecial ic, 3)) (d10 : decode cc (pc + 10) = .ok (.athrow, 1))
    (hout : ∀ x ∈ c.exceptionTable.toList, covers x (pc + 10) = false)
    (hRframes : names.length + 3 < R.frames) (hRlocals : (rest.map fun v => v.category).sum + (13 * (names.length + 1) + 43) ≤ R.locals) (hRcells : cells + 1 ≤ R.cells) (hRslots : slots + 6 ≤ R.slots) (hlocks : meth.locks = false)
    (hx : ∀ t : State, s.vm.Alike t.vm → H.size ≤ t.heap.size → (∀ q : Nat, q < H.size → t.heap[q]? = H[q]?) → XC cls s t)
    (hf : ∀ z ∈ locs, free z.base) (hc : cells + 1 ≤ mc) (hs : slots + 6 ≤ ms) :
    W p l e R s m args below meth c H locs cells slots (vx_MQ below Qc XC args s mc ms free) (F0 m pc ls rest) := by
  intro T hT X
  have htr : e.platform.stackTraces = false := (show e.platform.stackTraces = l.stackTraces by rw [X.admits.platform]).trans hl
  have Y := vx_rebase X (R' := { frames := R.frames, locals := R.locals, cells := 1, slots := 6 }) (Nat.le_refl _) (Nat.le_refl _) hRcells hRslots
  obtain ⟨s', hA⟩ : ∃ z, z = (T.setVm s.vm).setFrames (.invoking m args :: below) := ⟨_, rfl⟩
  rw [← hA] at Y
  have hvm : s'.vm = s.vm := by rw [hA]; rfl
  have hhp : s'.heap = H := by rw [hA]; exact hT
  have hW0 : s.WarmedH s'.vm := by rw [hvm]; exact State.WarmedH.refl s
  have hat' : ∀ w ∈ vx_atS own ic cls names, w.before args s' = true := fun w hw => vx_ot_at hW0 hvm.symm (hgood w (List.mem_cons_of_mem _ (List.mem_cons_of_mem _ hw))) (hat w hw)
  have hk' : (Cond.classLink own ik cls).before args s' = true := vx_ot_at hW0 hvm.symm (hgood _ List.mem_cons_self) hk
  have hini' : (Cond.initialized cls).before args s' = true := vx_ot_at hW0 hvm.symm (hgood _ (List.mem_cons_of_mem _ List.mem_cons_self)) hini
  have hU' : vx_Zq Bundle.tN "UNASSIGNED_STACK" Bundle.steD A s' s'.heap := by rw [hhp]; exact vx_Zq.moved hW0.alike (hU.kept hS.2.1)
  have hN' : vx_Zq Bundle.tN "SUPPRESSED_SENTINEL" Bundle.listD A s' s'.heap := by rw [hhp]; exact vx_Zq.moved hW0.alike (hN.kept hS.2.1)
  have h : ∀ w ∈ Bundle.ownAtoms own ic cls names, w.before args s' = true := vx_own hat' (vx_isRefq hU'.1) (vx_isRefq hN'.1) hU'.2.word hN'.2.word
  have hown' : s'.vm.findClass own = some m.cls := by rw [hvm]; exact hown
  have hins : (Cond.instantiable cls 6).before args s' = true := h _ (by simp [Bundle.ownAtoms])
  obtain ⟨vm₁, cX, kX, hfX, hkX, -, -, X₁, st1⟩ := Y.newCold hexec (own := own) (C := cls) (index := ik) (n := 6) hown' hk' hins hini'
    (g := F0 m pc ls rest) rfl (by rw [hb]; exact d0) (Nat.le_refl _) (Nat.le_refl _)
  generalize hT1 : (T.setVm vm₁).pushCell { cls := cX, slots := kX.instanceTypes.map defaultValue, vm := .none } = T1 at X₁ st1
  have hcat : (Value.ref T.heap.size).category = 1 := rfl
  have hcellA : T1.heap[T.heap.size]? = some (freshCell cX kX) := by rw [← hT1]; exact State.heap_pushCell_size _ _
  have d3' : decode c.code (pc + 3) = .ok (.dup, 1) := by rw [hb]; exact d3
  have d4' : decode c.code (pc + 4) = .ok (.ldc_w is, 3) := by rw [hb]; exact d4
  have hstr' : vk_R own is text sa s' := vk_R.warm hW0 hstr
  obtain ⟨U, hsteps, hrun, hend, hW, hsame, ce, hce, hO⟩ := X₁.ctorThrowS hexec htr (own := own) (cls := cls) (names := names) (ic := ic) hown' hcls hnames h (fun x hx => nomatch hx) hfX hkX hcellA (by rw [hhp, hT]; exact Nat.le_refl _) (msg := .ref sa) rfl
    (g := { method := m, pc := pc + 7, locals := ls, stack := .ref sa :: .ref T.heap.size :: .ref T.heap.size :: rest, locked := none }) rfl hsize rfl rfl (rest := rest) rfl
    (by rw [hb]; exact d7) (by rw [hb]; exact d10) hout hRframes (by simp only [List.map_cons, List.sum_cons, hcat]; omega) hlocks
  obtain ⟨f1, f2⟩ := vx_frame hsame
  rw [hhp] at f1 f2
  have hWs : s.WarmedH U.vm := State.WarmedH.trans hW0 hW
  have hcl : s.vm.findClass cls = some ce.cls := by
    have h9 := hO.cls
    rw [hvm] at h9
    exact h9
  have hall : s.sameButNew ({ U with vm := s.vm } : State) locs mc ms := by
    subst hA
    obtain ⟨e1, e2⟩ := hsame
    rw [State.setFrames_setFrames] at e1
    have h2 : (T.setVm s.vm).sameButNew ({ U with vm := s.vm } : State) [] (0 + 1) (0 + 6) := ⟨e1, e2⟩
    have h3 := X.same.trans h2
    rw [List.append_nil] at h3
    exact h3.mono hc hs
  refine ⟨U, ?_, .threw T.heap.size, hrun, hend, Or.inr ⟨T.heap.size, rfl, cls, ce, locs, hx U hWs.alike f1 (fun q hq => f2 q hq (fun z hz => nomatch hz)), hce, hO.vm, hcl, hWs, hall, hf⟩⟩
  refine st1 _ ?_
  show Steps p.tables e below (T1.setTop { method := m, pc := pc + 3, locals := ls, stack := .ref T.heap.size :: rest, locked := none }) _
  jvm_step X₁.here [X₁.here.top, hexec, d3', Value.category]
  exact X₁.ldcStringW hexec (own := own) (text := text) (index := is) (a := sa) hown' hstr'.1 hstr'.2
    (g := { method := m, pc := pc + 4, locals := ls, stack := .ref T.heap.size :: .ref T.heap.size :: rest, locked := none }) rfl d4' _ hsteps
end Ends
section Bodies
variable {l : Launch}
theorem vx_ofW {y : MethodName} {ws ws' : List Cond} {rm : Room} {Pc : Array Value → State → Prop} {Qc : Array Value → State → Outcome → State → Prop} {XC : String → State → State → Prop} {mc ms : Nat} {free : Addr → Prop} {cc : ByteArray} {maxL : Nat} {ret : Option FieldType}
    (hy : plainName y.cls = true) (hw : ws = Cond.code y cc maxL ret :: ws')
    (body : ∀ p e s m args below meth c s₁, BodyLoose p l y (headSpec ws rm) cc maxL ret e s m args below meth c s₁ → c.maxLocals = maxL → (∀ x ∈ c.exceptionTable.toList, False) → Pc args s →
      W p l e (headSpec ws rm).room s m args below meth c s.heap [] 0 0 (vx_MQ below Qc XC args s mc ms free) (entryFrame m args maxL)) : vx_Met l y ws rm Pc Qc XC mc ms free := by
  refine MetFree.of_bodyS (code := cc) (maxLocals := maxL) (ret := ret) hy ?_ ?_
  · intro args s m h hn
    obtain ⟨meth, c, h1, h2, h3, h4, h5, h6, -, -⟩ := Cond.code_spec hn (atoms_spec (ws := ws) h _ (by rw [hw]; exact List.mem_cons_self))
    exact ⟨meth, c, h1, h2, h3, h4, h5, h6⟩
  · intro p e s m args below meth c s₁ B hml hP _
    have hh0 : s₁.heap = s.heap := by rw [B.state]; rfl
    have ht : ∀ x ∈ c.exceptionTable.toList, False := by
      obtain ⟨meth9, c9, h1, h2, -, -, -, -, h7, -⟩ := Cond.code_spec B.named (atoms_spec (ws := ws) B.pre _ (by rw [hw]; exact List.mem_cons_self))
      cases Option.some.inj (h1.symm.trans B.method)
      cases Option.some.inj (h2.symm.trans (Stand.of_body B).code)
      intro x hx
      rw [Array.isEmpty_iff.mp h7] at hx
      cases hx
    obtain ⟨t, a1, o, b1, b2, b3⟩ := body p e s m args below meth c s₁ B hml ht hP s₁ hh0 (Stand.of_body B)
    exact ⟨t, o, a1, b1, b2, b3⟩
/-- the table of a body with handlers -/
theorem vx_table {p : Program} {x y : MethodName} {S : Spec} {cc bytes : ByteArray} {maxL maxL' : Nat} {ret ret' : Option FieldType} {e : Env} {s s₁ : State} {m : MethodId} {args : Array Value} {below : List Frame} {meth : Method} {c : Code} {hh : List (Nat × Nat × Nat × Nat)}
    (B : BodyLoose p l y S cc maxL ret e s m args below meth c s₁) (h : (Cond.codeWith y bytes maxL' ret' hh).before args s = true) : c.exceptionTable.toList = tableOf hh := by
  obtain ⟨m9, meth9, c9, hn9, h1, h2, -, -, h6, -⟩ := Cond.codeWith_spec h
  cases Option.some.inj (hn9.symm.trans B.named)
  cases Option.some.inj (h1.symm.trans B.method)
  cases Option.some.inj (h2.symm.trans (Stand.of_body B).code)
  rw [← h6, table_eq]
end Bodies
end VXA
/-! ===== END ===== -/
/-! ===== BEGIN a static call of a method with an exception table ===== -/
section VXS
variable {p : Program} {l : Launch} {e : Env} {R : Room} {s : State} {m : MethodId} {args : Array Value} {below : List Frame} {meth : Method} {c : Code} {T : State} {H : Heap} {locs : List Loc} {cells slots : Nat}
abbrev vx_CSW (R : Room) (s : State) (args : Array Value) (own : String) (index : Nat) (y : MethodName) (bytes : ByteArray) (maxL : Nat) (ret : Option FieldType) (hh : List (Nat × Nat × Nat × Nat)) (ws : List Cond) (rm : Room) (mc ms n : Nat) : Prop :=
  (rm.cells = mc ∧ rm.slots = ms ∧ rm.frames + 1 ≤ R.frames ∧ 8 + (maxL + 11) + rm.locals ≤ R.locals ∧ (∀ w ∈ ws, ∀ (a' : Array Value) (U : State), s.WarmedH U.vm → w.before a' U = true) ∧ Cond.codeWith y bytes maxL ret hh ∈ ws) ∧
  (Cond.codeWith y bytes maxL ret hh).before args s = true ∧ (Cond.initialized y.cls).before args s = true ∧ (y.cls ≠ "java/lang/invoke/MethodHandle" ∧ y.cls ≠ "java/lang/invoke/VarHandle") ∧
  (∀ sig, parseMethodDescriptor y.desc = some sig → n = sig.parameters.length) ∧ (Cond.methodLink own index y).before args s = true ∧ (Cond.static y).before args s = true
theorem vx_cwSW {own : String} {index maxL mc ms : Nat} {y : MethodName} {bytes : ByteArray} {ret : Option FieldType} {hh : List (Nat × Nat × Nat × Nat)} {Ts ws ws' : List Cond} {rm : Room} (n : Nat) (ht : ∀ w ∈ Ts, w.before args s = true) (hT : GoodIn Ts (va_wsS own index y ws)) (hw : ws = Cond.codeWith y bytes maxL ret hh :: ws') (hrc : rm.cells = mc) (hrs : rm.slots = ms)
    (hd : y.cls ≠ "java/lang/invoke/MethodHandle" ∧ y.cls ≠ "java/lang/invoke/VarHandle" ∧ (parseMethodDescriptor y.desc).map (fun d => d.parameters.length) = some n) (hR : rm.frames + 1 ≤ R.frames ∧ 8 + (maxL + 11) + rm.locals ≤ R.locals) :
    vx_CSW R s args own index y bytes maxL ret hh ws rm mc ms n := by
  have ok : ∀ w ∈ va_wsS own index y ws, w.before args s = true := fun w h => ht w (hT w h).1
  have hG : GoodIn Ts ws := fun w h => hT w (by unfold va_wsS; exact List.mem_append_right _ h)
  have hc : Cond.codeWith y bytes maxL ret hh ∈ ws := by rw [hw]; exact List.mem_cons_self
  refine ⟨⟨hrc, hrs, hR.1, hR.2, pay_in ht hG, hc⟩, ht _ (hG _ hc).1, ok _ (by simp [va_wsS]), ⟨hd.1, hd.2.1⟩, fun sig h => ?_, ok _ (by simp [va_wsS]), ok _ (by simp [va_wsS])⟩
  have h2 := hd.2.2
  rw [h] at h2
  exact (Option.some.inj h2).symm
theorem vx_callSW (X : Stand p l e R s m args below meth c T locs cells slots) (hexec : p.tables.exec = Jvm.exec) {own : String} {index : Nat} {y : MethodName} {bytes : ByteArray} {maxL : Nat} {ret : Option FieldType} {hh : List (Nat × Nat × Nat × Nat)}
    (hown : s.vm.findClass own = some m.cls) (hlink : (Cond.methodLink own index y).before args s = true) (hstat : (Cond.static y).before args s = true) (hinit : (Cond.initialized y.cls).before args s = true)
    (hcode : (Cond.codeWith y bytes maxL ret hh).before args s = true) (hy : y.cls ≠ "java/lang/invoke/MethodHandle" ∧ y.cls ≠ "java/lang/invoke/VarHandle")
    {W9 : Nat} {Pre : Pt → Array Value → Prop} {Post : Pt → Array Value → Option Value → Pt → Prop} (hK : Back l R p e below s args y 3 W9 Pre Post)
    {g : JFrame} (hg : g.method = m) (hsize : g.locals.size = c.maxLocals) {argsL rest : List Value} (hlen : ∀ sig, parseMethodDescriptor y.desc = some sig → argsL.length = sig.parameters.length)
    (hstack : g.stack = argsL.reverse ++ rest) (hW : 2 * g.monitorRoom + (rest.map fun v => v.category).sum ≤ W9) (hdg : decode c.code g.pc = .ok (.invokestatic index, 3))
    (hpre : ∀ vm₁, s.WarmedH vm₁ → Pre ⟨T.setVm vm₁, locs, cells, slots⟩ argsL.toArray) :
    ∃ (v : Option Value) (vm₁ : Vm) (B : Pt), s.WarmedH vm₁ ∧ Stand p l e R s m args below meth c B.U B.locs B.cells B.slots ∧ Post ⟨T.setVm vm₁, locs, cells, slots⟩ argsL.toArray v B ∧
      ∀ target, Steps p.tables e below (B.U.setTop { g with pc := g.pc + 3, stack := v.toList ++ rest }) target → Steps p.tables e below (T.setTop g) target := by
  obtain ⟨mk, methM, cM, hnamed, hmethM, -, -, -, -, -, -, hsigM⟩ := Cond.codeWith_spec hcode
  have hstatic : methM.isStatic = true := Cond.static_spec hnamed hmethM hstat
  obtain ⟨kP, hkP, -⟩ := className_of_methodNamed hnamed
  have hinitP : kP.init = .initialized := Cond.initialized_spec (findClass_of_methodNamed hnamed) hkP hinit
  obtain ⟨vm₁, X₁, hstep₁⟩ := X.invokestatic hexec hown hlink hnamed hmethM hstatic hkP hinitP hy (g := g) hg (argsL := argsL) (rest := rest) (hlen _ hsigM) hstack hdg
  obtain ⟨v, B, X', hpost, hsteps⟩ := hK m meth c ⟨T.setVm vm₁, locs, cells, slots⟩ { g with stack := rest } (.invokestatic index) mk argsL.toArray X₁ hg hsize hdg hW (X₁.named hnamed) (hpre vm₁ X₁.warmed)
  exact ⟨v, vm₁, B, X₁.warmed, X', hpost, fun target h => hstep₁ _ fun acts => by rw [doInvoke_state]; exact hsteps.trans h⟩
theorem vx_runSW {y : MethodName} {bytes cc : ByteArray} {maxL nL mc ms n index : Nat} {ret : Option FieldType} {hh : List (Nat × Nat × Nat × Nat)} {ws : List Cond} {rm : Room} {Pc : Array Value → State → Prop} {Qc : Array Value → State → Outcome → State → Prop} {free : Addr → Prop} {Ts : List Cond} {own : String} {As rest : List Value} {g : JFrame}
    (S : CallFix p m c cc nL s args Ts own) (hM : Met l y ws rm Pc Qc mc ms free) (cw : vx_CSW R s args own index y bytes maxL ret hh ws rm mc ms n) (hp : PreS s H Pc As)
    (hg : g.method = m) (hn : As.length = n) (hsize : g.locals.size = nL) (hstack : g.stack = As.reverse ++ rest) (hW : 2 * g.monitorRoom + (rest.map fun v => v.category).sum ≤ 8) (hdg : decode cc g.pc = .ok (.invokestatic index, 3)) (hf : cells + mc ≤ R.cells ∧ slots + ms ≤ R.slots) :
    va_Run p l e R s m args below meth c H locs cells slots mc ms g rest (Qc As.toArray) (free) := by
  obtain ⟨⟨hrc, hrs, hfr, hlo, hws, hcw⟩, hcode, hini, hy, hlen, hl, hstt⟩ := cw
  have hK : Back l R p e below s args y 3 8 (PreOf R mc ms Pc) (PostOf Qc mc ms free) := va_backW (hh := hh) (bytes := bytes) (maxL := maxL) (ret := ret) hM hp.1 hrc hrs hfr hlo hws hcw (fun a' U hW => word_at hW (Or.inl (by first | rfl | simp [Cond.onTables, Cond.keeps, Cond.steady])) hini)
  obtain ⟨hx, hb, hml, ho, -⟩ := S
  intro T hT X
  obtain ⟨v, vm₁, ⟨U', l2, c2, s2⟩, hW₁, X', ⟨g', mk, t, L, e1, e2, hq, h1, hL, h2, h3⟩, st⟩ := vx_callSW X hx (hh := hh) (bytes := bytes) (maxL := maxL) (ret := ret) ho hl hstt hini hcode hy hK hg (hsize.trans hml.symm) (argsL := As) (rest := rest) (fun sig h => hn.trans (hlen sig h)) hstack hW (by rw [hb]; exact hdg)
    (fun vm₁ hW₁ => ⟨hf.1, hf.2, hp.2 (T.setVm vm₁) hT hW₁⟩)
  dsimp only [Pt.U, Pt.locs, Pt.cells, Pt.slots] at X' e1 e2 h1 h2 h3 st
  subst h1; subst h2; subst h3
  exact ⟨v, (T.setVm vm₁).calling g' mk As.toArray, t, U', L, hT, X', hL, e1, e2, hq, st⟩
/-- not caught here, past rows that name other classes: it goes on to the caller -/
theorem vx_outP {p : Program} {l : Launch} {e : Env} {R : Room} {s : State} {m : MethodId} {args : Array Value} {below : List Frame} {meth : Method} {c : Code} {H : Heap} {locs : List Loc} {cells slots : Nat} {free : Addr → Prop} {ls : Array Slot} {rest : List Value} {Qc : Array Value → State → Outcome → State → Prop} {XC : String → State → State → Prop}
    {pc : Nat} {own E : String} {ce : Cell} {q : Addr} {mc ms : Nat} (hown : s.vm.findClass own = some m.cls) (hlocks : meth.locks = false)
    (hpass : ∀ z ∈ c.exceptionTable.toList, covers z pc = false ∨ (z.catchType ≠ 0 ∧ ∃ nm : String, (Cond.classLink own z.catchType nm).before args s = true ∧ va_Nc E nm s)) (hcell : H[q]? = some ce) (hv : ce.vm = .none) (hcl : s.vm.findClass E = some ce.cls)
    (hx : ∀ t : State, t.heap = H → s.vm.Alike t.vm → XC E s t) (hf : ∀ z ∈ locs, free z.base) (hc : cells ≤ mc) (hs : slots ≤ ms) :
    vx_W p l e R s m args below meth c H locs cells slots (vx_MQ below Qc XC args s mc ms free) (F0 m pc ls rest) q := by
  intro T hT X
  have hpl : e.platform.magicAccessors = ({} : Platform).magicAccessors := by rw [X.admits.platform]
  obtain ⟨vm', hW', X', st⟩ := X.outThrough hlocks q (g := F0 m pc ls rest) rfl rfl rfl (cell := ce) (by rw [hT]; exact hcell) (by rw [hv]; rfl)
    (by obtain ⟨k9, h9, -⟩ := Vm.findClass_spec hcl; exact ⟨k9, h9⟩) (fun z hz => by
      rcases hpass z hz with h | ⟨hz0, nm, hl1, hn1⟩
      · exact Or.inl h
      · obtain ⟨c6, hc6, hcl6⟩ := Cond.classLink_spec hown hl1 e.platform hpl
        obtain ⟨a8, b8, h1, h2, h3⟩ := hn1
        cases Option.some.inj (h1.symm.trans hcl)
        cases Option.some.inj (h2.symm.trans hc6)
        exact Or.inr ⟨hz0, _, hcl6, h3⟩)
  obtain ⟨g₀, hfr⟩ := X'.frames_eq
  have hcell9 : ((T.setVm vm').setFrames (.throwing q :: below)).heap[q]? = some ce := by
    show T.heap[q]? = some ce
    rw [hT]; exact hcell
  have hend : Ended ((T.setVm vm').setFrames (.throwing q :: below)) below (.threw q) := State.frames_setFrames _ (State.cur_lt_of_frames hfr)
  refine ⟨(T.setVm vm').setFrames (.throwing q :: below), ?_, .threw q, X'.here.running, hend, Or.inr ⟨q, rfl, E, ce, locs, hx _ hT (X'.ends _).1.alike, hcell9, hv, hcl, (X'.ends _).1, (X'.ends _).2.mono hc hs, hf⟩⟩
  rw [X.pushThrowing_eq]
  exact st
/-- a thing of a world lies in the heap -/
theorem vx_lt {D : va_G} {cl : List vw_C} {ws : va_W} {H1 : Heap} (h : va_P D cl ws H1) {k : Nat} {q : Nat × va_E} (hk : ws[k]? = some q) : q.1 < H1.size := (h k q hk).lt
end VXS
/-! ===== END ===== -/
/-! ===== BEGIN methods with a table of their own: called by a name, returning or throwing ===== -/
section VXH
/-! vx_backW, vx_callVX, vx_callSX, vx_callVW, vx_runVW, vx_runVX, vx_runSX, vx_ofWH follow the same proofs as their sisters above (Free/Laws.lean, Shelf42/LK1.lean); vx_outP calls Shelf42/NT130.lean (outThrough). -/
section
variable {l : Launch} {R : Room} {p : Program} {e : Env} {below : List Frame} {s : State} {sargs : Array Value} {y : MethodName} {len W9 : Nat}
theorem vx_backW {ws : List Cond} {rm : Room} {Pc : Array Value → State → Prop} {Qc : Array Value → State → Outcome → State → Prop} {XC : String → State → State → Prop} {mc ms : Nat} {free : Addr → Prop} {bytes : ByteArray} {maxL : Nat} {ret : Option FieldType} {hh : List (Nat × Nat × Nat × Nat)}
    (hM : vx_Met l y ws rm Pc Qc XC mc ms free) (hblind : FrameBlind Pc) (hrc : rm.cells = mc) (hrs : rm.slots = ms)
    (hframes : rm.frames + 1 ≤ R.frames) (hlocals : W9 + (maxL + 11) + rm.locals ≤ R.locals)
    (hws : ∀ w ∈ ws, ∀ a' U, s.WarmedH U.vm → w.before a' U = true) (hcode : Cond.codeWith y bytes maxL ret hh ∈ ws) (hinit : ∀ a' U, s.WarmedH U.vm → (Cond.initialized y.cls).before a' U = true) :
    vx_Back l R p e below s sargs y len W9 (PreOf R mc ms Pc) (PostOf Qc mc ms free) (vx_Post XC mc ms free) := by
  intro m meth c A g ig mk a X hg hsize hdg hW hn hp
  have h1 : (headSpec ws rm).pre.before a A.U = true := atoms_intro fun w hw => hws w hw _ _ X.warmed
  have h2 : (Cond.codeWith y bytes maxL ret hh).before a A.U = true := hws _ hcode _ _ X.warmed
  have h3 : (Cond.initialized y.cls).before a A.U = true := hinit _ _ X.warmed
  have h4 : A.cells + (headSpec ws rm).room.cells ≤ R.cells := by rw [show (headSpec ws rm).room.cells = mc from hrc]; exact hp.1
  have h5 : A.slots + (headSpec ws rm).room.slots ≤ R.slots := by rw [show (headSpec ws rm).room.slots = ms from hrs]; exact hp.2.1
  have hPc : Pc a (A.U.calling g mk a) := hblind _ _ _ _ hp.2.2
  obtain ⟨U, Ls, c0, s0⟩ := A
  dsimp only [Pt.U, Pt.locs, Pt.cells, Pt.slots] at h1 h2 h3 h4 h5 X hn hPc ⊢
  obtain ⟨m9, methY, cY, hn9, hmY, hcY, -, hlY, -⟩ := Cond.codeWith_spec h2
  cases Option.some.inj (hn9.symm.trans hn)
  obtain ⟨kY, hkY, -⟩ := className_of_methodNamed hn
  have hinitY : kY.init = .initialized := Cond.initialized_spec (findClass_of_methodNamed hn) hkY h3
  have h : At U g.method c below := by rw [hg]; exact X.here
  have hlocals9 : W9 + (maxL + 11) + (headSpec ws rm).room.locals ≤ R.locals := hlocals
  have happ : (headSpec ws rm).appliesLoose y e.platform (U.calling g mk a) = true :=
    Spec.appliesLoose_calling (g := g) h hdg hn hkY hinitY
      (X.room_calling (g := g) (R' := (headSpec ws rm).room) hsize hmY hcY hframes (by rw [hlY]; omega) h4 h5) h1
  obtain ⟨mid, hmid⟩ := h.above
  have hfr : (U.setTop g).frames = (.java g :: mid) ++ below := by rw [State.frames_setTop' g h.top, hmid]; rfl
  obtain ⟨o, s₂, hsteps, -, hend, hq⟩ := Steps.callFree hM p X.admits X.cas X.clock (acts := []) hfr happ hPc trivial
  have hq' : vx_Q Qc XC mc ms free a (U.calling g mk a) o s₂ := hq
  rw [State.frames_setTop' g h.top] at hend
  obtain ⟨g₀, hg0⟩ := Option.isSome_iff_exists.mp h.top
  obtain ⟨r, hr⟩ := State.topJava?_eq_some.mp hg0
  have hr' : (({ U with heap := s₂.heap, slotsUsed := s₂.slotsUsed } : State).setVm s₂.vm).frames = .java g₀ :: r := hr
  rcases hq' with ⟨hqc, L, hfe, hL⟩ | ⟨q, rfl, E, ce, L, hx, hce, hcv, hcl, hW₂, hsm, hL⟩
  · obtain ⟨⟨v, rfl⟩, hW₂, e2, q2, q3, q4, q5, q6⟩ := id hfe
    have e3 : s₂ = ({ (U.calling g mk a).setFrames s₂.frames with heap := s₂.heap, slotsUsed := s₂.slotsUsed } : State).setVm s₂.vm := by
      have : s₂ = ({ s₂ with vm := (U.calling g mk a).vm } : State).setVm s₂.vm := rfl
      rw [e2] at this
      exact this
    obtain ⟨c₂, i₂, len₂, hc₂, hd₂, hf₂⟩ := hend
    have hW' : U.WarmedH s₂.vm := hW₂
    have hcc : c₂ = c := by
      have h1 : s₂.code? g.method = U.code? g.method := by
        rw [State.code?_eq, State.code?_eq, hW'.alike.method?]
      exact Option.some.inj (hc₂.symm.trans (h1.trans h.code))
    subst hcc
    have hlen : len₂ = len := by rw [hdg] at hd₂; cases hd₂; rfl
    subst hlen
    have hs₂ : s₂ = (({ U with heap := s₂.heap, slotsUsed := s₂.slotsUsed } : State).setVm s₂.vm).setTop { g with pc := g.pc + len₂, stack := v.toList ++ g.stack } := by
      refine e3.trans ?_
      rw [hf₂, State.calling_eq h.top, State.setFrames_setFrames, State.setTop_of_frames _ hr', hr]
      rfl
    have hsame : U.sameButNew ({ U with heap := s₂.heap, slotsUsed := s₂.slotsUsed } : State) L mc ms := by
      refine ⟨?_, q2, q3, q4, q5, q6⟩
      obtain ⟨t, ht, -⟩ := State.frames_cons hr
      show ({ U with heap := s₂.heap, slotsUsed := s₂.slotsUsed } : State) = { U.setFrames U.frames with heap := s₂.heap, slotsUsed := s₂.slotsUsed }
      rw [State.setFrames_self ht]
    subst hg
    refine Or.inl ⟨v, ⟨(({ U with heap := s₂.heap, slotsUsed := s₂.slotsUsed } : State).setVm s₂.vm), Ls ++ L, c0 + mc, s0 + ms⟩,
      ⟨X.admits, X.cas, X.clock, X.frames, X.room, X.hears, X.method, X.code, (X.here.setHeapUsed s₂.heap s₂.slotsUsed).setVm hW'.alike, X.tail, State.WarmedH.trans X.warmed hW', X.limits, X.bytes, X.same.trans (hsame.setVm s.vm)⟩,
      ⟨g, mk, s₂, L, rfl, rfl, hqc, rfl, hL, rfl, rfl⟩, ?_⟩
    show Steps p.tables e below _ ((({ U with heap := s₂.heap, slotsUsed := s₂.slotsUsed } : State).setVm s₂.vm).setTop { g with pc := g.pc + len₂, stack := v.toList ++ g.stack })
    rw [← hs₂]
    exact hsteps
  · obtain ⟨e2, q2, q3, q4, q5, q6⟩ := id hsm
    have e3 : s₂ = ({ (U.calling g mk a).setFrames s₂.frames with heap := s₂.heap, slotsUsed := s₂.slotsUsed } : State).setVm s₂.vm := by
      have : s₂ = ({ s₂ with vm := (U.calling g mk a).vm } : State).setVm s₂.vm := rfl
      rw [e2] at this
      exact this
    have hf₂ : s₂.frames = .throwing q :: .java g :: U.frames.tail := hend
    have hW' : U.WarmedH s₂.vm := hW₂
    have hs₂ : s₂ = ((({ U with heap := s₂.heap, slotsUsed := s₂.slotsUsed } : State).setVm s₂.vm).setTop g).pushFrame (.throwing q) := by
      refine e3.trans ?_
      rw [hf₂, State.calling_eq h.top, State.setFrames_setFrames, State.pushFrame, State.frames_setTop _ hr', State.setTop_of_frames _ hr', State.setFrames_setFrames, hr]
      rfl
    have hsame : U.sameButNew ({ U with heap := s₂.heap, slotsUsed := s₂.slotsUsed } : State) L mc ms := by
      refine ⟨?_, q2, q3, q4, q5, q6⟩
      obtain ⟨t, ht, -⟩ := State.frames_cons hr
      show ({ U with heap := s₂.heap, slotsUsed := s₂.slotsUsed } : State) = { U.setFrames U.frames with heap := s₂.heap, slotsUsed := s₂.slotsUsed }
      rw [State.setFrames_self ht]
    subst hg
    refine Or.inr ⟨q, ⟨(({ U with heap := s₂.heap, slotsUsed := s₂.slotsUsed } : State).setVm s₂.vm), Ls ++ L, c0 + mc, s0 + ms⟩,
      ⟨X.admits, X.cas, X.clock, X.frames, X.room, X.hears, X.method, X.code, (X.here.setHeapUsed s₂.heap s₂.slotsUsed).setVm hW'.alike, X.tail, State.WarmedH.trans X.warmed hW', X.limits, X.bytes, X.same.trans (hsame.setVm s.vm)⟩,
      ⟨g, mk, s₂, L, E, ce, rfl, rfl, hx, hce, hcv, hcl, rfl, hL, rfl, rfl⟩, ?_⟩
    show Steps p.tables e below _ (((({ U with heap := s₂.heap, slotsUsed := s₂.slotsUsed } : State).setVm s₂.vm).setTop g).pushFrame (.throwing q))
    rw [← hs₂]
    exact hsteps
end
variable {p : Program} {l : Launch} {e : Env} {R : Room} {s : State} {m : MethodId} {args : Array Value} {below : List Frame} {meth : Method} {c : Code} {T : State} {H : Heap} {locs : List Loc} {cells slots : Nat}
theorem vx_callVX (X : Stand p l e R s m args below meth c T locs cells slots) (hexec : p.tables.exec = Jvm.exec) {own C : String} {index : Nat} {y : MethodName} {bytes : ByteArray} {maxL : Nat} {ret : Option FieldType} {hh : List (Nat × Nat × Nat × Nat)}
    (hown : s.vm.findClass own = some m.cls) (hlink : (Cond.methodLink own index y).before args s = true) (hinst : (Cond.instanceMethod y).before args s = true) (hsel : (Cond.selects C y y).before args s = true)
    (hcode : (Cond.codeWith y bytes maxL ret hh).before args s = true) (hy : y.cls ≠ "java/lang/invoke/MethodHandle" ∧ y.cls ≠ "java/lang/invoke/VarHandle")
    {W9 : Nat} {Pre : Pt → Array Value → Prop} {Post : Pt → Array Value → Option Value → Pt → Prop} {PostX : Pt → Array Value → Addr → Pt → Prop} (hK : vx_Back l R p e below s args y 3 W9 Pre Post PostX)
    {b : Addr} {cellB : Cell} (hcell : T.heap[b]? = some cellB) (hobj : cellB.vm.isStatics = false) (hcls : s.vm.findClass C = some cellB.cls)
    {g : JFrame} (hg : g.method = m) (hsize : g.locals.size = c.maxLocals) {argsL rest : List Value} (hlen : ∀ sig, parseMethodDescriptor y.desc = some sig → argsL.length = sig.parameters.length)
    (hstack : g.stack = argsL.reverse ++ .ref b :: rest) (hW : 2 * g.monitorRoom + (rest.map fun v => v.category).sum ≤ W9) (hdg : decode c.code g.pc = .ok (.invokevirtual index, 3))
    (hpre : ∀ vm₁, s.WarmedH vm₁ → Pre ⟨T.setVm vm₁, locs, cells, slots⟩ (Value.ref b :: argsL).toArray) :
    (∃ (v : Option Value) (vm₁ : Vm) (B : Pt), s.WarmedH vm₁ ∧ Stand p l e R s m args below meth c B.U B.locs B.cells B.slots ∧ Post ⟨T.setVm vm₁, locs, cells, slots⟩ (Value.ref b :: argsL).toArray v B ∧
      ∀ target, Steps p.tables e below (B.U.setTop { g with pc := g.pc + 3, stack := v.toList ++ rest }) target → Steps p.tables e below (T.setTop g) target) ∨
    (∃ (q : Addr) (vm₁ : Vm) (B : Pt), s.WarmedH vm₁ ∧ Stand p l e R s m args below meth c B.U B.locs B.cells B.slots ∧ PostX ⟨T.setVm vm₁, locs, cells, slots⟩ (Value.ref b :: argsL).toArray q B ∧
      Steps p.tables e below (T.setTop g) ((B.U.setTop { g with stack := rest }).pushFrame (.throwing q))) := by
  obtain ⟨mk, methM, hnamed, hmethM, hstM, habM⟩ := Cond.instanceMethod_spec hinst
  obtain ⟨m8, methM', cM, hn8, hmethM', -, -, -, -, -, -, hsigM⟩ := Cond.codeWith_spec hcode
  cases Option.some.inj (hn8.symm.trans hnamed)
  cases hmethM.symm.trans hmethM'
  obtain ⟨c2, r2, m2, q1, q2, q3, q4, kP, hkP, hkPi⟩ := Cond.selects_spec hsel
  cases hcls.symm.trans q1
  cases (State.methodFound?_of_named hnamed hy).symm.trans q2
  cases hnamed.symm.trans q3
  have hselP : selectMethod e.platform s.vm cellB.cls mk = .method mk := by rw [Launch.admits_selectMethod X.admits]; exact q4
  obtain ⟨vm₁, X₁, hstep₁⟩ := X.invokevirtual hexec hown hlink hnamed hmethM hstM hkP hkPi hy (a := b) (cell := cellB) hcell
    (fun z h => by rw [h] at hobj; cases hobj) hselP hmethM habM hkP hkPi (g := g) hg (argsL := argsL) (rest := rest) (hlen _ hsigM) hstack hdg
  rcases hK m meth c ⟨T.setVm vm₁, locs, cells, slots⟩ { g with stack := rest } (.invokevirtual index) mk (Value.ref b :: argsL).toArray X₁ hg hsize hdg hW (X₁.named hnamed) (hpre vm₁ X₁.warmed) with ⟨v, B, X', hpost, hsteps⟩ | ⟨q, B, X', hpost, hsteps⟩
  · exact Or.inl ⟨v, vm₁, B, X₁.warmed, X', hpost, fun target h => hstep₁ _ fun acts => by rw [doInvoke_state]; exact hsteps.trans h⟩
  · exact Or.inr ⟨q, vm₁, B, X₁.warmed, X', hpost, hstep₁ _ fun acts => by rw [doInvoke_state]; exact hsteps⟩
theorem vx_callSX (X : Stand p l e R s m args below meth c T locs cells slots) (hexec : p.tables.exec = Jvm.exec) {own : String} {index : Nat} {y : MethodName} {bytes : ByteArray} {maxL : Nat} {ret : Option FieldType} {hh : List (Nat × Nat × Nat × Nat)}
    (hown : s.vm.findClass own = some m.cls) (hlink : (Cond.methodLink own index y).before args s = true) (hstat : (Cond.static y).before args s = true) (hinit : (Cond.initialized y.cls).before args s = true)
    (hcode : (Cond.codeWith y bytes maxL ret hh).before args s = true) (hy : y.cls ≠ "java/lang/invoke/MethodHandle" ∧ y.cls ≠ "java/lang/invoke/VarHandle")
    {W9 : Nat} {Pre : Pt → Array Value → Prop} {Post : Pt → Array Value → Option Value → Pt → Prop} {PostX : Pt → Array Value → Addr → Pt → Prop} (hK : vx_Back l R p e below s args y 3 W9 Pre Post PostX)
    {g : JFrame} (hg : g.method = m) (hsize : g.locals.size = c.maxLocals) {argsL rest : List Value} (hlen : ∀ sig, parseMethodDescriptor y.desc = some sig → argsL.length = sig.parameters.length)
    (hstack : g.stack = argsL.reverse ++ rest) (hW : 2 * g.monitorRoom + (rest.map fun v => v.category).sum ≤ W9) (hdg : decode c.code g.pc = .ok (.invokestatic index, 3))
    (hpre : ∀ vm₁, s.WarmedH vm₁ → Pre ⟨T.setVm vm₁, locs, cells, slots⟩ argsL.toArray) :
    (∃ (v : Option Value) (vm₁ : Vm) (B : Pt), s.WarmedH vm₁ ∧ Stand p l e R s m args below meth c B.U B.locs B.cells B.slots ∧ Post ⟨T.setVm vm₁, locs, cells, slots⟩ argsL.toArray v B ∧
      ∀ target, Steps p.tables e below (B.U.setTop { g with pc := g.pc + 3, stack := v.toList ++ rest }) target → Steps p.tables e below (T.setTop g) target) ∨
    (∃ (q : Addr) (vm₁ : Vm) (B : Pt), s.WarmedH vm₁ ∧ Stand p l e R s m args below meth c B.U B.locs B.cells B.slots ∧ PostX ⟨T.setVm vm₁, locs, cells, slots⟩ argsL.toArray q B ∧
      Steps p.tables e below (T.setTop g) ((B.U.setTop { g with stack := rest }).pushFrame (.throwing q))) := by
  obtain ⟨mk, methM, cM, hnamed, hmethM, -, -, -, -, -, -, hsigM⟩ := Cond.codeWith_spec hcode
  have hstatic : methM.isStatic = true := Cond.static_spec hnamed hmethM hstat
  obtain ⟨kP, hkP, -⟩ := className_of_methodNamed hnamed
  have hinitP : kP.init = .initialized := Cond.initialized_spec (findClass_of_methodNamed hnamed) hkP hinit
  obtain ⟨vm₁, X₁, hstep₁⟩ := X.invokestatic hexec hown hlink hnamed hmethM hstatic hkP hinitP hy (g := g) hg (argsL := argsL) (rest := rest) (hlen _ hsigM) hstack hdg
  rcases hK m meth c ⟨T.setVm vm₁, locs, cells, slots⟩ { g with stack := rest } (.invokestatic index) mk argsL.toArray X₁ hg hsize hdg hW (X₁.named hnamed) (hpre vm₁ X₁.warmed) with ⟨v, B, X', hpost, hsteps⟩ | ⟨q, B, X', hpost, hsteps⟩
  · exact Or.inl ⟨v, vm₁, B, X₁.warmed, X', hpost, fun target h => hstep₁ _ fun acts => by rw [doInvoke_state]; exact hsteps.trans h⟩
  · exact Or.inr ⟨q, vm₁, B, X₁.warmed, X', hpost, hstep₁ _ fun acts => by rw [doInvoke_state]; exact hsteps⟩
theorem vx_callVW (X : Stand p l e R s m args below meth c T locs cells slots) (hexec : p.tables.exec = Jvm.exec) {own C : String} {index : Nat} {y : MethodName} {bytes : ByteArray} {maxL : Nat} {ret : Option FieldType} {hh : List (Nat × Nat × Nat × Nat)}
    (hown : s.vm.findClass own = some m.cls) (hlink : (Cond.methodLink own index y).before args s = true) (hinst : (Cond.instanceMethod y).before args s = true) (hsel : (Cond.selects C y y).before args s = true)
    (hcode : (Cond.codeWith y bytes maxL ret hh).before args s = true) (hy : y.cls ≠ "java/lang/invoke/MethodHandle" ∧ y.cls ≠ "java/lang/invoke/VarHandle")
    {W9 : Nat} {Pre : Pt → Array Value → Prop} {Post : Pt → Array Value → Option Value → Pt → Prop} (hK : Back l R p e below s args y 3 W9 Pre Post)
    {b : Addr} {cellB : Cell} (hcell : T.heap[b]? = some cellB) (hobj : cellB.vm.isStatics = false) (hcls : s.vm.findClass C = some cellB.cls)
    {g : JFrame} (hg : g.method = m) (hsize : g.locals.size = c.maxLocals) {argsL rest : List Value} (hlen : ∀ sig, parseMethodDescriptor y.desc = some sig → argsL.length = sig.parameters.length)
    (hstack : g.stack = argsL.reverse ++ .ref b :: rest) (hW : 2 * g.monitorRoom + (rest.map fun v => v.category).sum ≤ W9) (hdg : decode c.code g.pc = .ok (.invokevirtual index, 3))
    (hpre : ∀ vm₁, s.WarmedH vm₁ → Pre ⟨T.setVm vm₁, locs, cells, slots⟩ (Value.ref b :: argsL).toArray) :
    ∃ (v : Option Value) (vm₁ : Vm) (B : Pt), s.WarmedH vm₁ ∧ Stand p l e R s m args below meth c B.U B.locs B.cells B.slots ∧ Post ⟨T.setVm vm₁, locs, cells, slots⟩ (Value.ref b :: argsL).toArray v B ∧
      ∀ target, Steps p.tables e below (B.U.setTop { g with pc := g.pc + 3, stack := v.toList ++ rest }) target → Steps p.tables e below (T.setTop g) target := by
  obtain ⟨mk, methM, hnamed, hmethM, hstM, habM⟩ := Cond.instanceMethod_spec hinst
  obtain ⟨m8, methM', cM, hn8, hmethM', -, -, -, -, -, -, hsigM⟩ := Cond.codeWith_spec hcode
  cases Option.some.inj (hn8.symm.trans hnamed)
  cases hmethM.symm.trans hmethM'
  obtain ⟨c2, r2, m2, q1, q2, q3, q4, kP, hkP, hkPi⟩ := Cond.selects_spec hsel
  cases hcls.symm.trans q1
  cases (State.methodFound?_of_named hnamed hy).symm.trans q2
  cases hnamed.symm.trans q3
  have hselP : selectMethod e.platform s.vm cellB.cls mk = .method mk := by rw [Launch.admits_selectMethod X.admits]; exact q4
  obtain ⟨vm₁, X₁, hstep₁⟩ := X.invokevirtual hexec hown hlink hnamed hmethM hstM hkP hkPi hy (a := b) (cell := cellB) hcell
    (fun z h => by rw [h] at hobj; cases hobj) hselP hmethM habM hkP hkPi (g := g) hg (argsL := argsL) (rest := rest) (hlen _ hsigM) hstack hdg
  obtain ⟨v, B, X', hpost, hsteps⟩ := hK m meth c ⟨T.setVm vm₁, locs, cells, slots⟩ { g with stack := rest } (.invokevirtual index) mk (Value.ref b :: argsL).toArray X₁ hg hsize hdg hW (X₁.named hnamed) (hpre vm₁ X₁.warmed)
  exact ⟨v, vm₁, B, X₁.warmed, X', hpost, fun target h => hstep₁ _ fun acts => by rw [doInvoke_state]; exact hsteps.trans h⟩
abbrev vx_CVW (R : Room) (s : State) (args : Array Value) (own C : String) (index : Nat) (y : MethodName) (bytes : ByteArray) (maxL : Nat) (ret : Option FieldType) (hh : List (Nat × Nat × Nat × Nat)) (ws : List Cond) (rm : Room) (mc ms n : Nat) : Prop :=
  (rm.cells = mc ∧ rm.slots = ms ∧ rm.frames + 1 ≤ R.frames ∧ 8 + (maxL + 11) + rm.locals ≤ R.locals ∧ (∀ w ∈ ws, ∀ (a' : Array Value) (U : State), s.WarmedH U.vm → w.before a' U = true) ∧ Cond.codeWith y bytes maxL ret hh ∈ ws) ∧
  (Cond.codeWith y bytes maxL ret hh).before args s = true ∧ (Cond.initialized y.cls).before args s = true ∧ (y.cls ≠ "java/lang/invoke/MethodHandle" ∧ y.cls ≠ "java/lang/invoke/VarHandle") ∧
  (∀ sig, parseMethodDescriptor y.desc = some sig → n = sig.parameters.length) ∧ (Cond.methodLink own index y).before args s = true ∧ (Cond.instanceMethod y).before args s = true ∧ (Cond.selects C y y).before args s = true
theorem vx_cwVW {own C : String} {index maxL mc ms : Nat} {y : MethodName} {bytes : ByteArray} {ret : Option FieldType} {hh : List (Nat × Nat × Nat × Nat)} {Ts ws ws' : List Cond} {rm : Room} (n : Nat) (ht : ∀ w ∈ Ts, w.before args s = true) (hT : GoodIn Ts (wsV own index C y ws)) (hw : ws = Cond.codeWith y bytes maxL ret hh :: ws') (hrc : rm.cells = mc) (hrs : rm.slots = ms)
    (hd : y.cls = C ∧ y.cls ≠ "java/lang/invoke/MethodHandle" ∧ y.cls ≠ "java/lang/invoke/VarHandle" ∧ (parseMethodDescriptor y.desc).map (fun d => d.parameters.length) = some n) (hR : rm.frames + 1 ≤ R.frames ∧ 8 + (maxL + 11) + rm.locals ≤ R.locals) :
    vx_CVW R s args own C index y bytes maxL ret hh ws rm mc ms n := by
  obtain ⟨hC, hd⟩ := hd
  subst hC
  have ok : ∀ w ∈ wsV own index y.cls y ws, w.before args s = true := fun w h => ht w (hT w h).1
  have hG : GoodIn Ts ws := fun w h => hT w (by unfold wsV; exact List.mem_append_right _ h)
  have hc : Cond.codeWith y bytes maxL ret hh ∈ ws := by rw [hw]; exact List.mem_cons_self
  refine ⟨⟨hrc, hrs, hR.1, hR.2, pay_in ht hG, hc⟩, ht _ (hG _ hc).1, ok _ (by simp [wsV]), ⟨hd.1, hd.2.1⟩, fun sig h => ?_, ok _ (by simp [wsV]), ok _ (by simp [wsV]), ok _ (by simp [wsV])⟩
  have h2 := hd.2.2
  rw [h] at h2
  exact (Option.some.inj h2).symm
theorem vx_runVW {y : MethodName} {bytes cc : ByteArray} {maxL nL mc ms n index : Nat} {ret : Option FieldType} {hh : List (Nat × Nat × Nat × Nat)} {ws : List Cond} {rm : Room} {Pc : Array Value → State → Prop} {Qc : Array Value → State → Outcome → State → Prop} {free : Addr → Prop} {Ts : List Cond} {own C : String} {b : Addr} {As rest : List Value} {g : JFrame}
    (S : CallFix p m c cc nL s args Ts own) (hM : Met l y ws rm Pc Qc mc ms free) (cw : vx_CVW R s args own C index y bytes maxL ret hh ws rm mc ms n) (hp : PreV s H C b Pc As)
    (hg : g.method = m) (hn : As.length = n) (hsize : g.locals.size = nL) (hstack : g.stack = As.reverse ++ .ref b :: rest) (hW : 2 * g.monitorRoom + (rest.map fun v => v.category).sum ≤ 8) (hdg : decode cc g.pc = .ok (.invokevirtual index, 3)) (hf : cells + mc ≤ R.cells ∧ slots + ms ≤ R.slots) :
    va_Run p l e R s m args below meth c H locs cells slots mc ms g rest (Qc (Value.ref b :: As).toArray) free := by
  obtain ⟨⟨hrc, hrs, hfr, hlo, hws, hcw⟩, hcode, hini, hy, hlen, hl, hin, hse⟩ := cw
  have hK : Back l R p e below s args y 3 8 (PreOf R mc ms Pc) (PostOf Qc mc ms free) := va_backW (hh := hh) (bytes := bytes) (maxL := maxL) (ret := ret) hM hp.1 hrc hrs hfr hlo hws hcw (fun a' U hW => word_at hW (Or.inl (by first | rfl | simp [Cond.onTables, Cond.keeps, Cond.steady])) hini)
  obtain ⟨hx, hb, hml, ho, -⟩ := S
  obtain ⟨-, ⟨cellB, hcB, hoB, hclB⟩, hPc⟩ := hp
  intro T hT X
  obtain ⟨v, vm₁, ⟨U', l2, c2, s2⟩, hW₁, X', ⟨g', mk, t, L, e1, e2, hq, h1, hL, h2, h3⟩, st⟩ := vx_callVW X hx (C := C) (hh := hh) (bytes := bytes) (maxL := maxL) (ret := ret) ho hl hin hse hcode hy hK (by rw [hT]; exact hcB) hoB hclB hg (hsize.trans hml.symm) (argsL := As) (rest := rest) (fun sig h => hn.trans (hlen sig h)) hstack hW (by rw [hb]; exact hdg)
    (fun vm₁ hW₁ => ⟨hf.1, hf.2, hPc (T.setVm vm₁) hT hW₁⟩)
  dsimp only [Pt.U, Pt.locs, Pt.cells, Pt.slots] at X' e1 e2 h1 h2 h3 st
  subst h1; subst h2; subst h3
  exact ⟨v, (T.setVm vm₁).calling g' mk (Value.ref b :: As).toArray, t, U', L, hT, X', hL, e1, e2, hq, st⟩
section
variable {y : MethodName} {bytes cc : ByteArray} {maxL nL mc ms n index : Nat} {ret : Option FieldType} {ws : List Cond} {rm : Room} {Pc : Array Value → State → Prop} {Qc : Array Value → State → Outcome → State → Prop} {XC : String → State → State → Prop} {free : Addr → Prop} {Ts : List Cond} {own C : String} {b : Addr} {As rest : List Value} {g : JFrame}
theorem vx_runVX {hh : List (Nat × Nat × Nat × Nat)} (S : CallFix p m c cc nL s args Ts own) (hM : vx_Met l y ws rm Pc Qc XC mc ms free) (cw : vx_CVW R s args own C index y bytes maxL ret hh ws rm mc ms n) (hp : PreV s H C b Pc As)
    (hg : g.method = m) (hn : As.length = n) (hsize : g.locals.size = nL) (hstack : g.stack = As.reverse ++ .ref b :: rest) (hW : 2 * g.monitorRoom + (rest.map fun v => v.category).sum ≤ 8) (hdg : decode cc g.pc = .ok (.invokevirtual index, 3)) (hf : cells + mc ≤ R.cells ∧ slots + ms ≤ R.slots) :
    vx_Run p l e R s m args below meth c H locs cells slots mc ms g rest (Qc (Value.ref b :: As).toArray) XC free := by
  obtain ⟨⟨hrc, hrs, hfr, hlo, hws, hcw⟩, hcode, hini, hy, hlen, hl, hin, hse⟩ := cw
  have hK : vx_Back l R p e below s args y 3 8 (PreOf R mc ms Pc) (PostOf Qc mc ms free) (vx_Post XC mc ms free) := vx_backW (hh := hh) (bytes := bytes) (maxL := maxL) (ret := ret) hM hp.1 hrc hrs hfr hlo hws hcw (fun a' U hW => word_at hW (Or.inl (by first | rfl | simp [Cond.onTables, Cond.keeps, Cond.steady])) hini)
  obtain ⟨hx, hb, hml, ho, -⟩ := S
  obtain ⟨-, ⟨cellB, hcB, hoB, hclB⟩, hPc⟩ := hp
  intro T hT X
  rcases vx_callVX X hx (C := C) (hh := hh) (bytes := bytes) (maxL := maxL) (ret := ret) ho hl hin hse hcode hy hK (by rw [hT]; exact hcB) hoB hclB hg (hsize.trans hml.symm) (argsL := As) (rest := rest) (fun sig h => hn.trans (hlen sig h)) hstack hW (by rw [hb]; exact hdg)
    (fun vm₁ hW₁ => ⟨hf.1, hf.2, hPc (T.setVm vm₁) hT hW₁⟩) with ⟨v, vm₁, ⟨U', l2, c2, s2⟩, hW₁, X', ⟨g', mk, t, L, e1, e2, hq, h1, hL, h2, h3⟩, st⟩ | ⟨q, vm₁, ⟨U', l2, c2, s2⟩, hW₁, X', ⟨g', mk, t, L, E, ce, e1, e2, hq, hce, hcv, hcl, h1, hL, h2, h3⟩, st⟩
  · dsimp only [Pt.U, Pt.locs, Pt.cells, Pt.slots] at X' e1 e2 h1 h2 h3 st
    subst h1; subst h2; subst h3
    exact Or.inl ⟨v, (T.setVm vm₁).calling g' mk (Value.ref b :: As).toArray, t, U', L, hT, X', hL, e1, e2, hq, st⟩
  · dsimp only [Pt.U, Pt.locs, Pt.cells, Pt.slots] at X' e1 e2 h1 h2 h3 st hcl
    subst h1; subst h2; subst h3
    exact Or.inr ⟨q, (T.setVm vm₁).calling g' mk (Value.ref b :: As).toArray, t, U', L, E, ce, hT, X', hL, e1, e2, hq, hce, hcv, vx_cls hW₁ hcl, st⟩
theorem vx_runSX {hh : List (Nat × Nat × Nat × Nat)} (S : CallFix p m c cc nL s args Ts own) (hM : vx_Met l y ws rm Pc Qc XC mc ms free) (cw : vx_CSW R s args own index y bytes maxL ret hh ws rm mc ms n) (hp : PreS s H Pc As)
    (hg : g.method = m) (hn : As.length = n) (hsize : g.locals.size = nL) (hstack : g.stack = As.reverse ++ rest) (hW : 2 * g.monitorRoom + (rest.map fun v => v.category).sum ≤ 8) (hdg : decode cc g.pc = .ok (.invokestatic index, 3)) (hf : cells + mc ≤ R.cells ∧ slots + ms ≤ R.slots) :
    vx_Run p l e R s m args below meth c H locs cells slots mc ms g rest (Qc As.toArray) XC free := by
  obtain ⟨⟨hrc, hrs, hfr, hlo, hws, hcw⟩, hcode, hini, hy, hlen, hl, hstt⟩ := cw
  have hK : vx_Back l R p e below s args y 3 8 (PreOf R mc ms Pc) (PostOf Qc mc ms free) (vx_Post XC mc ms free) := vx_backW (hh := hh) (bytes := bytes) (maxL := maxL) (ret := ret) hM hp.1 hrc hrs hfr hlo hws hcw (fun a' U hW => word_at hW (Or.inl (by first | rfl | simp [Cond.onTables, Cond.keeps, Cond.steady])) hini)
  obtain ⟨hx, hb, hml, ho, -⟩ := S
  intro T hT X
  rcases vx_callSX X hx (hh := hh) (bytes := bytes) (maxL := maxL) (ret := ret) ho hl hstt hini hcode hy hK hg (hsize.trans hml.symm) (argsL := As) (rest := rest) (fun sig h => hn.trans (hlen sig h)) hstack hW (by rw [hb]; exact hdg)
    (fun vm₁ hW₁ => ⟨hf.1, hf.2, hp.2 (T.setVm vm₁) hT hW₁⟩) with ⟨v, vm₁, ⟨U', l2, c2, s2⟩, hW₁, X', ⟨g', mk, t, L, e1, e2, hq, h1, hL, h2, h3⟩, st⟩ | ⟨q, vm₁, ⟨U', l2, c2, s2⟩, hW₁, X', ⟨g', mk, t, L, E, ce, e1, e2, hq, hce, hcv, hcl, h1, hL, h2, h3⟩, st⟩
  · dsimp only [Pt.U, Pt.locs, Pt.cells, Pt.slots] at X' e1 e2 h1 h2 h3 st
    subst h1; subst h2; subst h3
    exact Or.inl ⟨v, (T.setVm vm₁).calling g' mk As.toArray, t, U', L, hT, X', hL, e1, e2, hq, st⟩
  · dsimp only [Pt.U, Pt.locs, Pt.cells, Pt.slots] at X' e1 e2 h1 h2 h3 st hcl
    subst h1; subst h2; subst h3
    exact Or.inr ⟨q, (T.setVm vm₁).calling g' mk As.toArray, t, U', L, E, ce, hT, X', hL, e1, e2, hq, hce, hcv, vx_cls hW₁ hcl, st⟩
end
end VXH
theorem vx_ofWH {l : Launch} {y : MethodName} {ws ws' : List Cond} {rm : Room} {Pc : Array Value → State → Prop} {Qc : Array Value → State → Outcome → State → Prop} {XC : String → State → State → Prop} {mc ms : Nat} {free : Addr → Prop} {cc : ByteArray} {maxL : Nat} {ret : Option FieldType} {hh : List (Nat × Nat × Nat × Nat)}
    (hy : plainName y.cls = true) (hw : ws = Cond.codeWith y cc maxL ret hh :: ws')
    (body : ∀ p e s m args below meth c s₁, BodyLoose p l y (headSpec ws rm) cc maxL ret e s m args below meth c s₁ → c.maxLocals = maxL → Pc args s →
      W p l e (headSpec ws rm).room s m args below meth c s.heap [] 0 0 (vx_MQ below Qc XC args s mc ms free) (entryFrame m args maxL)) : vx_Met l y ws rm Pc Qc XC mc ms free := by
  refine MetFree.of_bodyS (code := cc) (maxLocals := maxL) (ret := ret) hy ?_ ?_
  · intro args s m h hn
    obtain ⟨m9, meth, c, hn9, h1, h2, h3, h4, -, h5, h6, -⟩ := Cond.codeWith_spec (atoms_spec (ws := ws) h _ (by rw [hw]; exact List.mem_cons_self))
    cases hn.symm.trans hn9
    exact ⟨meth, c, h1, h2, h3, h4, h5, h6⟩
  · intro p e s m args below meth c s₁ B hml hP _
    have hh0 : s₁.heap = s.heap := by rw [B.state]; rfl
    obtain ⟨t, a1, o, b1, b2, b3⟩ := body p e s m args below meth c s₁ B hml hP s₁ hh0 (Stand.of_body B)
    exact ⟨t, o, a1, b1, b2, b3⟩
/-! ===== END ===== -/

/-! ===== BEGIN printed: names, fields, word lists, decode rows ===== -/
def RX0 : String := "Creditfabric$Buffers"
def TX0 : u_T := fun k => match k with
  | 0 => ("Creditfabric$Buffers", "slots", "LCreditfabric$Row;", true)
  | 1 => ("Creditfabric$Buffers", "sizes", "LCreditfabric$Row;", true)
  | _ => ("Creditfabric$Buffers", "room", "I", false)
def tyX0 : Nat → FieldType := fun k => match k with
  | 0 => .object "Creditfabric$Row"
  | 1 => .object "Creditfabric$Row"
  | _ => .int
abbrev wsX00 : List Cond := u_ws RX0 TX0 3
theorem nmX0 : ∀ a, a < 3 → ∀ b, b < 3 → a ≠ b → (TX0 a).2.1 ≠ (TX0 b).2.1 := by decide +kernel
theorem tyX0_ok : ∀ k, k < 3 → parseFieldDescriptor (TX0 k).2.2.1 = some (tyX0 k) := by decide +kernel
abbrev cX0_init : ByteArray := prog_2_method_1_code
def yX0_init : MethodName := ⟨RX0, "<init>", "()V"⟩
abbrev cX0_clear : ByteArray := prog_2_method_2_code
def yX0_clear : MethodName := ⟨RX0, "clear", "(I)V"⟩
abbrev cX0_size : ByteArray := prog_2_method_3_code
def yX0_size : MethodName := ⟨RX0, "size", "(I)I"⟩
abbrev cX0_free : ByteArray := prog_2_method_4_code
def yX0_free : MethodName := ⟨RX0, "free", "(I)I"⟩
abbrev cX0_isFull : ByteArray := prog_2_method_5_code
def yX0_isFull : MethodName := ⟨RX0, "isFull", "(I)Z"⟩
abbrev cX0_first : ByteArray := prog_2_method_6_code
def yX0_first : MethodName := ⟨RX0, "first", "(I)I"⟩
abbrev cX0_append : ByteArray := prog_2_method_7_code
def yX0_append : MethodName := ⟨RX0, "append", "(II)V"⟩
abbrev cX0_removeFirst : ByteArray := prog_2_method_8_code
def yX0_removeFirst : MethodName := ⟨RX0, "removeFirst", "(I)V"⟩
abbrev cX0_load : ByteArray := prog_2_method_9_code
def yX0_load : MethodName := ⟨RX0, "load", "(I)I"⟩
def RX1 : String := "Creditfabric$Circles"
def TX1 : u_T := fun k => match k with
  | 0 => ("Creditfabric$Circles", "grid", "LCreditfabric$Grid;", true)
  | 1 => ("Creditfabric$Circles", "traffic", "LCreditfabric$Packets;", true)
  | 2 => ("Creditfabric$Circles", "buffers", "LCreditfabric$Buffers;", true)
  | 3 => ("Creditfabric$Circles", "awaited", "LCreditfabric$Row;", true)
  | _ => ("Creditfabric$Circles", "hangings", "LCreditfabric$Row;", true)
def tyX1 : Nat → FieldType := fun k => match k with
  | 0 => .object "Creditfabric$Grid"
  | 1 => .object "Creditfabric$Packets"
  | 2 => .object "Creditfabric$Buffers"
  | 3 => .object "Creditfabric$Row"
  | _ => .object "Creditfabric$Row"
abbrev wsX10 : List Cond := u_ws RX1 TX1 5
theorem nmX1 : ∀ a, a < 5 → ∀ b, b < 5 → a ≠ b → (TX1 a).2.1 ≠ (TX1 b).2.1 := by decide +kernel
theorem tyX1_ok : ∀ k, k < 5 → parseFieldDescriptor (TX1 k).2.2.1 = some (tyX1 k) := by decide +kernel
abbrev cX1_init : ByteArray := prog_3_method_1_code
def yX1_init : MethodName := ⟨RX1, "<init>", "(LCreditfabric$Grid;LCreditfabric$Packets;LCreditfabric$Buffers;)V"⟩
abbrev cX1_countWaiting : ByteArray := prog_3_method_2_code
def yX1_countWaiting : MethodName := ⟨RX1, "countWaiting", "()I"⟩
abbrev cX1_awaitedBy : ByteArray := prog_3_method_3_code
def yX1_awaitedBy : MethodName := ⟨RX1, "awaitedBy", "(I)I"⟩
abbrev cX1_comesBack : ByteArray := prog_3_method_4_code
def yX1_comesBack : MethodName := ⟨RX1, "comesBack", "(I)Z"⟩
abbrev cX1_hangsTogether : ByteArray := prog_3_method_5_code
def yX1_hangsTogether : MethodName := ⟨RX1, "hangsTogether", "()Z"⟩
abbrev cX1_hangAlong : ByteArray := prog_3_method_6_code
def yX1_hangAlong : MethodName := ⟨RX1, "hangAlong", "(I)V"⟩
abbrev cX1_cutEnds : ByteArray := prog_3_method_7_code
def yX1_cutEnds : MethodName := ⟨RX1, "cutEnds", "()Z"⟩
abbrev cX1_isEnd : ByteArray := prog_3_method_8_code
def yX1_isEnd : MethodName := ⟨RX1, "isEnd", "(III)Z"⟩
abbrev cX1_nextBuffer : ByteArray := prog_3_method_9_code
def yX1_nextBuffer : MethodName := ⟨RX1, "nextBuffer", "(III)I"⟩
def RX2 : String := "Creditfabric$Credits"
def TX2 : u_T := fun k => match k with
  | 0 => ("Creditfabric$Credits", "there", "LCreditfabric$Row;", true)
  | 1 => ("Creditfabric$Credits", "coming", "LCreditfabric$Row;", true)
  | 2 => ("Creditfabric$Credits", "delay", "I", false)
  | _ => ("Creditfabric$Credits", "comingInAll", "I", false)
def tyX2 : Nat → FieldType := fun k => match k with
  | 0 => .object "Creditfabric$Row"
  | 1 => .object "Creditfabric$Row"
  | 2 => .int
  | _ => .int
abbrev wsX20 : List Cond := u_ws RX2 TX2 4
theorem nmX2 : ∀ a, a < 4 → ∀ b, b < 4 → a ≠ b → (TX2 a).2.1 ≠ (TX2 b).2.1 := by decide +kernel
theorem tyX2_ok : ∀ k, k < 4 → parseFieldDescriptor (TX2 k).2.2.1 = some (tyX2 k) := by decide +kernel
abbrev cX2_init : ByteArray := prog_4_method_1_code
def yX2_init : MethodName := ⟨RX2, "<init>", "()V"⟩
abbrev cX2_fill : ByteArray := prog_4_method_2_code
def yX2_fill : MethodName := ⟨RX2, "fill", "(II)V"⟩
abbrev cX2_there : ByteArray := prog_4_method_3_code
def yX2_there : MethodName := ⟨RX2, "there", "(I)I"⟩
abbrev cX2_take : ByteArray := prog_4_method_4_code
def yX2_take : MethodName := ⟨RX2, "take", "(I)V"⟩
abbrev cX2_giveBack : ByteArray := prog_4_method_5_code
def yX2_giveBack : MethodName := ⟨RX2, "giveBack", "(II)V"⟩
abbrev cX2_comeBack : ByteArray := prog_4_method_6_code
def yX2_comeBack : MethodName := ⟨RX2, "comeBack", "(I)V"⟩
abbrev cX2_settle : ByteArray := prog_4_method_7_code
def yX2_settle : MethodName := ⟨RX2, "settle", "(II)I"⟩
abbrev cX2_slotOf : ByteArray := prog_4_method_8_code
def yX2_slotOf : MethodName := ⟨RX2, "slotOf", "(II)I"⟩
def RX3 : String := "Creditfabric$Grid"
def TX3 : u_T := fun k => match k with
  | 0 => ("Creditfabric$Grid", "columnOf", "LCreditfabric$Row;", true)
  | 1 => ("Creditfabric$Grid", "rowOf", "LCreditfabric$Row;", true)
  | 2 => ("Creditfabric$Grid", "columns", "I", false)
  | _ => ("Creditfabric$Grid", "rows", "I", false)
def tyX3 : Nat → FieldType := fun k => match k with
  | 0 => .object "Creditfabric$Row"
  | 1 => .object "Creditfabric$Row"
  | 2 => .int
  | _ => .int
abbrev wsX30 : List Cond := u_ws RX3 TX3 4
theorem nmX3 : ∀ a, a < 4 → ∀ b, b < 4 → a ≠ b → (TX3 a).2.1 ≠ (TX3 b).2.1 := by decide +kernel
theorem tyX3_ok : ∀ k, k < 4 → parseFieldDescriptor (TX3 k).2.2.1 = some (tyX3 k) := by decide +kernel
abbrev cX3_init : ByteArray := prog_5_method_1_code
def yX3_init : MethodName := ⟨RX3, "<init>", "()V"⟩
abbrev cX3_lay : ByteArray := prog_5_method_2_code
def yX3_lay : MethodName := ⟨RX3, "lay", "(II)V"⟩
abbrev cX3_size : ByteArray := prog_5_method_3_code
def yX3_size : MethodName := ⟨RX3, "size", "()I"⟩
abbrev cX3_has : ByteArray := prog_5_method_4_code
def yX3_has : MethodName := ⟨RX3, "has", "(I)Z"⟩
abbrev cX3_behind : ByteArray := prog_5_method_5_code
def yX3_behind : MethodName := ⟨RX3, "behind", "(II)I"⟩
abbrev cX3_outputTowards : ByteArray := prog_5_method_6_code
def yX3_outputTowards : MethodName := ⟨RX3, "outputTowards", "(III)I"⟩
abbrev cX3_stepTowards : ByteArray := prog_5_method_7_code
def yX3_stepTowards : MethodName := ⟨RX3, "stepTowards", "(IIII)I"⟩
def RX4 : String := "Creditfabric$Packets"
def TX4 : u_T := fun k => match k with
  | 0 => ("Creditfabric$Packets", "grid", "LCreditfabric$Grid;", true)
  | 1 => ("Creditfabric$Packets", "sources", "LCreditfabric$Row;", true)
  | 2 => ("Creditfabric$Packets", "goals", "LCreditfabric$Row;", true)
  | 3 => ("Creditfabric$Packets", "lanes", "LCreditfabric$Row;", true)
  | 4 => ("Creditfabric$Packets", "modes", "LCreditfabric$Row;", true)
  | 5 => ("Creditfabric$Packets", "places", "LCreditfabric$Row;", true)
  | 6 => ("Creditfabric$Packets", "inputs", "LCreditfabric$Row;", true)
  | 7 => ("Creditfabric$Packets", "hopsGone", "LCreditfabric$Row;", true)
  | 8 => ("Creditfabric$Packets", "marks", "LCreditfabric$Row;", true)
  | 9 => ("Creditfabric$Packets", "count", "I", false)
  | _ => ("Creditfabric$Packets", "gone", "I", false)
def tyX4 : Nat → FieldType := fun k => match k with
  | 0 => .object "Creditfabric$Grid"
  | 1 => .object "Creditfabric$Row"
  | 2 => .object "Creditfabric$Row"
  | 3 => .object "Creditfabric$Row"
  | 4 => .object "Creditfabric$Row"
  | 5 => .object "Creditfabric$Row"
  | 6 => .object "Creditfabric$Row"
  | 7 => .object "Creditfabric$Row"
  | 8 => .object "Creditfabric$Row"
  | 9 => .int
  | _ => .int
abbrev wsX40 : List Cond := u_ws RX4 TX4 11
theorem nmX4 : ∀ a, a < 11 → ∀ b, b < 11 → a ≠ b → (TX4 a).2.1 ≠ (TX4 b).2.1 := by decide +kernel
theorem tyX4_ok : ∀ k, k < 11 → parseFieldDescriptor (TX4 k).2.2.1 = some (tyX4 k) := by decide +kernel
abbrev cX4_init : ByteArray := prog_6_method_1_code
def yX4_init : MethodName := ⟨RX4, "<init>", "(LCreditfabric$Grid;)V"⟩
abbrev cX4_clear : ByteArray := prog_6_method_2_code
def yX4_clear : MethodName := ⟨RX4, "clear", "()V"⟩
abbrev cX4_add : ByteArray := prog_6_method_3_code
def yX4_add : MethodName := ⟨RX4, "add", "(IIII)I"⟩
abbrev cX4_outputOf : ByteArray := prog_6_method_4_code
def yX4_outputOf : MethodName := ⟨RX4, "outputOf", "(I)I"⟩
abbrev cX4_goOver : ByteArray := prog_6_method_5_code
def yX4_goOver : MethodName := ⟨RX4, "goOver", "(III)V"⟩
abbrev cX4_goOut : ByteArray := prog_6_method_6_code
def yX4_goOut : MethodName := ⟨RX4, "goOut", "(I)V"⟩
def RX5 : String := "Creditfabric$Row"
def TX5 : u_T := fun k => match k with
  | _ => ("Creditfabric$Row", "numbers", "[I", true)
def tyX5 : Nat → FieldType := fun k => match k with
  | _ => .array .int
abbrev wsX50 : List Cond := u_ws RX5 TX5 1
theorem nmX5 : ∀ a, a < 1 → ∀ b, b < 1 → a ≠ b → (TX5 a).2.1 ≠ (TX5 b).2.1 := by decide +kernel
theorem tyX5_ok : ∀ k, k < 1 → parseFieldDescriptor (TX5 k).2.2.1 = some (tyX5 k) := by decide +kernel
abbrev cX5_init : ByteArray := prog_7_method_1_code
def yX5_init : MethodName := ⟨RX5, "<init>", "(I)V"⟩
abbrev cX5_at : ByteArray := prog_7_method_2_code
def yX5_at : MethodName := ⟨RX5, "at", "(I)I"⟩
abbrev cX5_put : ByteArray := prog_7_method_3_code
def yX5_put : MethodName := ⟨RX5, "put", "(II)V"⟩
abbrev cX5_add : ByteArray := prog_7_method_4_code
def yX5_add : MethodName := ⟨RX5, "add", "(II)V"⟩
abbrev cX5_fill : ByteArray := prog_7_method_5_code
def yX5_fill : MethodName := ⟨RX5, "fill", "(I)V"⟩
def RX6 : String := "Creditfabric$Senders"
def TX6 : u_T := fun k => match k with
  | 0 => ("Creditfabric$Senders", "gaps", "LCreditfabric$Row;", true)
  | _ => ("Creditfabric$Senders", "lastTicks", "LCreditfabric$Row;", true)
def tyX6 : Nat → FieldType := fun k => match k with
  | 0 => .object "Creditfabric$Row"
  | _ => .object "Creditfabric$Row"
abbrev wsX60 : List Cond := u_ws RX6 TX6 2
theorem nmX6 : ∀ a, a < 2 → ∀ b, b < 2 → a ≠ b → (TX6 a).2.1 ≠ (TX6 b).2.1 := by decide +kernel
theorem tyX6_ok : ∀ k, k < 2 → parseFieldDescriptor (TX6 k).2.2.1 = some (tyX6 k) := by decide +kernel
abbrev cX6_init : ByteArray := prog_8_method_1_code
def yX6_init : MethodName := ⟨RX6, "<init>", "()V"⟩
abbrev cX6_clear : ByteArray := prog_8_method_2_code
def yX6_clear : MethodName := ⟨RX6, "clear", "()V"⟩
abbrev cX6_gapOf : ByteArray := prog_8_method_3_code
def yX6_gapOf : MethodName := ⟨RX6, "gapOf", "(I)I"⟩
abbrev cX6_isReady : ByteArray := prog_8_method_4_code
def yX6_isReady : MethodName := ⟨RX6, "isReady", "(II)Z"⟩
abbrev cX6_note : ByteArray := prog_8_method_5_code
def yX6_note : MethodName := ⟨RX6, "note", "(II)V"⟩
abbrev cX6_adapt : ByteArray := prog_8_method_6_code
def yX6_adapt : MethodName := ⟨RX6, "adapt", "(IZ)V"⟩
def RX7 : String := "Creditfabric"
def TX7 : u_T := fun k => match k with
  | 0 => ("Creditfabric", "grid", "LCreditfabric$Grid;", true)
  | 1 => ("Creditfabric", "traffic", "LCreditfabric$Packets;", true)
  | 2 => ("Creditfabric", "buffers", "LCreditfabric$Buffers;", true)
  | 3 => ("Creditfabric", "purse", "LCreditfabric$Credits;", true)
  | 4 => ("Creditfabric", "senders", "LCreditfabric$Senders;", true)
  | 5 => ("Creditfabric", "circles", "LCreditfabric$Circles;", true)
  | 6 => ("Creditfabric", "paused", "LCreditfabric$Row;", true)
  | 7 => ("Creditfabric", "turns", "LCreditfabric$Row;", true)
  | 8 => ("Creditfabric", "ready", "LCreditfabric$Row;", true)
  | 9 => ("Creditfabric", "chosen", "LCreditfabric$Row;", true)
  | 10 => ("Creditfabric", "chosenCount", "I", false)
  | _ => ("Creditfabric", "now", "I", false)
def tyX7 : Nat → FieldType := fun k => match k with
  | 0 => .object "Creditfabric$Grid"
  | 1 => .object "Creditfabric$Packets"
  | 2 => .object "Creditfabric$Buffers"
  | 3 => .object "Creditfabric$Credits"
  | 4 => .object "Creditfabric$Senders"
  | 5 => .object "Creditfabric$Circles"
  | 6 => .object "Creditfabric$Row"
  | 7 => .object "Creditfabric$Row"
  | 8 => .object "Creditfabric$Row"
  | 9 => .object "Creditfabric$Row"
  | 10 => .int
  | _ => .int
abbrev wsX70 : List Cond := u_ws RX7 TX7 12
theorem nmX7 : ∀ a, a < 12 → ∀ b, b < 12 → a ≠ b → (TX7 a).2.1 ≠ (TX7 b).2.1 := by decide +kernel
theorem tyX7_ok : ∀ k, k < 12 → parseFieldDescriptor (TX7 k).2.2.1 = some (tyX7 k) := by decide +kernel
abbrev cX7_init : ByteArray := prog_1_method_1_code
def yX7_init : MethodName := ⟨RX7, "<init>", "()V"⟩
abbrev cX7_begin : ByteArray := prog_1_method_2_code
def yX7_begin : MethodName := ⟨RX7, "begin", "(IIII)I"⟩
abbrev cX7_send : ByteArray := prog_1_method_3_code
def yX7_send : MethodName := ⟨RX7, "send", "(IIII)I"⟩
abbrev cX7_run : ByteArray := prog_1_method_4_code
def yX7_run : MethodName := ⟨RX7, "run", "(I)I"⟩
abbrev cX7_pause : ByteArray := prog_1_method_5_code
def yX7_pause : MethodName := ⟨RX7, "pause", "(IZ)Z"⟩
abbrev cX7_lose : ByteArray := prog_1_method_6_code
def yX7_lose : MethodName := ⟨RX7, "lose", "(III)I"⟩
abbrev cX7_recover : ByteArray := prog_1_method_7_code
def yX7_recover : MethodName := ⟨RX7, "recover", "()I"⟩
abbrev cX7_tick : ByteArray := prog_1_method_8_code
def yX7_tick : MethodName := ⟨RX7, "tick", "()I"⟩
abbrev cX7_packets : ByteArray := prog_1_method_9_code
def yX7_packets : MethodName := ⟨RX7, "packets", "()I"⟩
abbrev cX7_arrived : ByteArray := prog_1_method_10_code
def yX7_arrived : MethodName := ⟨RX7, "arrived", "()I"⟩
abbrev cX7_credits : ByteArray := prog_1_method_11_code
def yX7_credits : MethodName := ⟨RX7, "credits", "(III)I"⟩
abbrev cX7_inBuffer : ByteArray := prog_1_method_12_code
def yX7_inBuffer : MethodName := ⟨RX7, "inBuffer", "(III)I"⟩
abbrev cX7_gap : ByteArray := prog_1_method_13_code
def yX7_gap : MethodName := ⟨RX7, "gap", "(I)I"⟩
abbrev cX7_placeOf : ByteArray := prog_1_method_14_code
def yX7_placeOf : MethodName := ⟨RX7, "placeOf", "(I)I"⟩
abbrev cX7_hops : ByteArray := prog_1_method_15_code
def yX7_hops : MethodName := ⟨RX7, "hops", "(I)I"⟩
abbrev cX7_isMarked : ByteArray := prog_1_method_16_code
def yX7_isMarked : MethodName := ⟨RX7, "isMarked", "(I)Z"⟩
abbrev cX7_wants : ByteArray := prog_1_method_17_code
def yX7_wants : MethodName := ⟨RX7, "wants", "(I)I"⟩
abbrev cX7_circle : ByteArray := prog_1_method_18_code
def yX7_circle : MethodName := ⟨RX7, "circle", "()I"⟩
abbrev cX7_mayCircle : ByteArray := prog_1_method_19_code
def yX7_mayCircle : MethodName := ⟨RX7, "mayCircle", "()Z"⟩
abbrev cX7_checkSwitch : ByteArray := prog_1_method_20_code
def yX7_checkSwitch : MethodName := ⟨RX7, "checkSwitch", "(I)V"⟩
abbrev cX7_checkLink : ByteArray := prog_1_method_21_code
def yX7_checkLink : MethodName := ⟨RX7, "checkLink", "(II)V"⟩
abbrev cX7_checkPacket : ByteArray := prog_1_method_22_code
def yX7_checkPacket : MethodName := ⟨RX7, "checkPacket", "(I)V"⟩
abbrev cX7_checkLane : ByteArray := prog_1_method_23_code
def yX7_checkLane : MethodName := ⟨RX7, "checkLane", "(I)V"⟩
abbrev cX7_layAnew : ByteArray := prog_1_method_24_code
def yX7_layAnew : MethodName := ⟨RX7, "layAnew", "(IIII)V"⟩
abbrev cX7_runOne : ByteArray := prog_1_method_25_code
def yX7_runOne : MethodName := ⟨RX7, "runOne", "()V"⟩
abbrev cX7_chooseAt : ByteArray := prog_1_method_26_code
def yX7_chooseAt : MethodName := ⟨RX7, "chooseAt", "(I)V"⟩
abbrev cX7_canGo : ByteArray := prog_1_method_27_code
def yX7_canGo : MethodName := ⟨RX7, "canGo", "(III)Z"⟩
abbrev cX7_takeTurn : ByteArray := prog_1_method_28_code
def yX7_takeTurn : MethodName := ⟨RX7, "takeTurn", "(III)V"⟩
abbrev cX7_move : ByteArray := prog_1_method_29_code
def yX7_move : MethodName := ⟨RX7, "move", "(I)V"⟩
abbrev cX7_markInCrowd : ByteArray := prog_1_method_30_code
def yX7_markInCrowd : MethodName := ⟨RX7, "markInCrowd", "(I)V"⟩
abbrev cX7_bufferOf : ByteArray := prog_1_method_31_code
def yX7_bufferOf : MethodName := ⟨RX7, "bufferOf", "(III)I"⟩
abbrev cX7_bufferBehind : ByteArray := prog_1_method_32_code
def yX7_bufferBehind : MethodName := ⟨RX7, "bufferBehind", "(III)I"⟩
def RX8 : String := "CreditfabricModel"
def TX8 : u_T := fun k => match k with
  | 0 => ("CreditfabricModel", "columns", "I", false)
  | 1 => ("CreditfabricModel", "rows", "I", false)
  | 2 => ("CreditfabricModel", "room", "I", false)
  | 3 => ("CreditfabricModel", "delay", "I", false)
  | 4 => ("CreditfabricModel", "tick", "I", false)
  | 5 => ("CreditfabricModel", "sent", "I", false)
  | 6 => ("CreditfabricModel", "out", "I", false)
  | 7 => ("CreditfabricModel", "buffer", "[I", true)
  | 8 => ("CreditfabricModel", "many", "[I", true)
  | 9 => ("CreditfabricModel", "credit", "[I", true)
  | 10 => ("CreditfabricModel", "coming", "[I", true)
  | 11 => ("CreditfabricModel", "next", "[I", true)
  | 12 => ("CreditfabricModel", "gap", "[I", true)
  | 13 => ("CreditfabricModel", "last", "[I", true)
  | 14 => ("CreditfabricModel", "isPaused", "[Z", true)
  | 15 => ("CreditfabricModel", "goal", "[I", true)
  | 16 => ("CreditfabricModel", "source", "[I", true)
  | 17 => ("CreditfabricModel", "lane", "[I", true)
  | 18 => ("CreditfabricModel", "mode", "[I", true)
  | 19 => ("CreditfabricModel", "place", "[I", true)
  | 20 => ("CreditfabricModel", "hops", "[I", true)
  | 21 => ("CreditfabricModel", "isMarked", "[Z", true)
  | 22 => ("CreditfabricModel", "chosen", "[I", true)
  | 23 => ("CreditfabricModel", "hangs", "[Z", true)
  | 24 => ("CreditfabricModel", "isGone", "[Z", true)
  | _ => ("CreditfabricModel", "thrown", "I", false)
def tyX8 : Nat → FieldType := fun k => match k with
  | 0 => .int
  | 1 => .int
  | 2 => .int
  | 3 => .int
  | 4 => .int
  | 5 => .int
  | 6 => .int
  | 7 => .array .int
  | 8 => .array .int
  | 9 => .array .int
  | 10 => .array .int
  | 11 => .array .int
  | 12 => .array .int
  | 13 => .array .int
  | 14 => .array .boolean
  | 15 => .array .int
  | 16 => .array .int
  | 17 => .array .int
  | 18 => .array .int
  | 19 => .array .int
  | 20 => .array .int
  | 21 => .array .boolean
  | 22 => .array .int
  | 23 => .array .boolean
  | 24 => .array .boolean
  | _ => .int
abbrev wsX80 : List Cond := u_ws RX8 TX8 26
theorem nmX8 : ∀ a, a < 26 → ∀ b, b < 26 → a ≠ b → (TX8 a).2.1 ≠ (TX8 b).2.1 := by decide +kernel
theorem tyX8_ok : ∀ k, k < 26 → parseFieldDescriptor (TX8 k).2.2.1 = some (tyX8 k) := by decide +kernel
abbrev cX8_init : ByteArray := prog_10_method_1_code
def yX8_init : MethodName := ⟨RX8, "<init>", "()V"⟩
abbrev cX8_thrown : ByteArray := prog_10_method_2_code
def yX8_thrown : MethodName := ⟨RX8, "thrown", "()I"⟩
abbrev cX8_goes : ByteArray := prog_10_method_3_code
def yX8_goes : MethodName := ⟨RX8, "goes", "(ZZZ)Z"⟩
abbrev cX8_isWithin : ByteArray := prog_10_method_4_code
def yX8_isWithin : MethodName := ⟨RX8, "isWithin", "(III)Z"⟩
abbrev cX8_isSwitch : ByteArray := prog_10_method_5_code
def yX8_isSwitch : MethodName := ⟨RX8, "isSwitch", "(I)Z"⟩
abbrev cX8_isPacket : ByteArray := prog_10_method_6_code
def yX8_isPacket : MethodName := ⟨RX8, "isPacket", "(I)Z"⟩
abbrev cX8_bufferOf : ByteArray := prog_10_method_7_code
def yX8_bufferOf : MethodName := ⟨RX8, "bufferOf", "(III)I"⟩
abbrev cX8_linkOf : ByteArray := prog_10_method_8_code
def yX8_linkOf : MethodName := ⟨RX8, "linkOf", "(III)I"⟩
abbrev cX8_neighbour : ByteArray := prog_10_method_9_code
def yX8_neighbour : MethodName := ⟨RX8, "neighbour", "(II)I"⟩
abbrev cX8_isLink : ByteArray := prog_10_method_10_code
def yX8_isLink : MethodName := ⟨RX8, "isLink", "(II)Z"⟩
abbrev cX8_begins : ByteArray := prog_10_method_11_code
def yX8_begins : MethodName := ⟨RX8, "begins", "(IIII)V"⟩
abbrev cX8_begin : ByteArray := prog_10_method_12_code
def yX8_begin : MethodName := ⟨RX8, "begin", "(IIII)I"⟩
abbrev cX8_puts : ByteArray := prog_10_method_13_code
def yX8_puts : MethodName := ⟨RX8, "puts", "(II)V"⟩
abbrev cX8_takes : ByteArray := prog_10_method_14_code
def yX8_takes : MethodName := ⟨RX8, "takes", "(I)I"⟩
abbrev cX8_send : ByteArray := prog_10_method_15_code
def yX8_send : MethodName := ⟨RX8, "send", "(IIII)I"⟩
abbrev cX8_wanted : ByteArray := prog_10_method_16_code
def yX8_wanted : MethodName := ⟨RX8, "wanted", "(II)I"⟩
abbrev cX8_canGo : ByteArray := prog_10_method_17_code
def yX8_canGo : MethodName := ⟨RX8, "canGo", "(III)Z"⟩
abbrev cX8_chooses : ByteArray := prog_10_method_18_code
def yX8_chooses : MethodName := ⟨RX8, "chooses", "(II)V"⟩
abbrev cX8_inSwitch : ByteArray := prog_10_method_19_code
def yX8_inSwitch : MethodName := ⟨RX8, "inSwitch", "(I)I"⟩
abbrev cX8_comeBack : ByteArray := prog_10_method_20_code
def yX8_comeBack : MethodName := ⟨RX8, "comeBack", "()V"⟩
abbrev cX8_leaves : ByteArray := prog_10_method_21_code
def yX8_leaves : MethodName := ⟨RX8, "leaves", "(II)V"⟩
abbrev cX8_ticks : ByteArray := prog_10_method_22_code
def yX8_ticks : MethodName := ⟨RX8, "ticks", "()I"⟩
abbrev cX8_run : ByteArray := prog_10_method_23_code
def yX8_run : MethodName := ⟨RX8, "run", "(I)I"⟩
abbrev cX8_pause : ByteArray := prog_10_method_24_code
def yX8_pause : MethodName := ⟨RX8, "pause", "(IZ)Z"⟩
abbrev cX8_lose : ByteArray := prog_10_method_25_code
def yX8_lose : MethodName := ⟨RX8, "lose", "(III)I"⟩
abbrev cX8_recover : ByteArray := prog_10_method_26_code
def yX8_recover : MethodName := ⟨RX8, "recover", "()I"⟩
abbrev cX8_tick : ByteArray := prog_10_method_27_code
def yX8_tick : MethodName := ⟨RX8, "tick", "()I"⟩
abbrev cX8_packets : ByteArray := prog_10_method_28_code
def yX8_packets : MethodName := ⟨RX8, "packets", "()I"⟩
abbrev cX8_arrived : ByteArray := prog_10_method_29_code
def yX8_arrived : MethodName := ⟨RX8, "arrived", "()I"⟩
abbrev cX8_credits : ByteArray := prog_10_method_30_code
def yX8_credits : MethodName := ⟨RX8, "credits", "(III)I"⟩
abbrev cX8_inBuffer : ByteArray := prog_10_method_31_code
def yX8_inBuffer : MethodName := ⟨RX8, "inBuffer", "(III)I"⟩
abbrev cX8_gap : ByteArray := prog_10_method_32_code
def yX8_gap : MethodName := ⟨RX8, "gap", "(I)I"⟩
abbrev cX8_placeOf : ByteArray := prog_10_method_33_code
def yX8_placeOf : MethodName := ⟨RX8, "placeOf", "(I)I"⟩
abbrev cX8_hops : ByteArray := prog_10_method_34_code
def yX8_hops : MethodName := ⟨RX8, "hops", "(I)I"⟩
abbrev cX8_isMarked : ByteArray := prog_10_method_35_code
def yX8_isMarked : MethodName := ⟨RX8, "isMarked", "(I)Z"⟩
abbrev cX8_wants : ByteArray := prog_10_method_36_code
def yX8_wants : MethodName := ⟨RX8, "wants", "(I)I"⟩
abbrev cX8_waitsFor : ByteArray := prog_10_method_37_code
def yX8_waitsFor : MethodName := ⟨RX8, "waitsFor", "(I)I"⟩
abbrev cX8_circle : ByteArray := prog_10_method_38_code
def yX8_circle : MethodName := ⟨RX8, "circle", "()I"⟩
abbrev cX8_lays : ByteArray := prog_10_method_39_code
def yX8_lays : MethodName := ⟨RX8, "lays", "()V"⟩
abbrev cX8_mayCircle : ByteArray := prog_10_method_40_code
def yX8_mayCircle : MethodName := ⟨RX8, "mayCircle", "()Z"⟩
def RJ9 : String := "java/lang/Math"
def TJ9 : u_T := fun k => match k with
  | _ => ("", "", "", false)
def tyJ9 : Nat → FieldType := fun k => match k with
  | _ => .int
abbrev wsJ90 : List Cond := u_ws RJ9 TJ9 0
theorem nmJ9 : ∀ a, a < 0 → ∀ b, b < 0 → a ≠ b → (TJ9 a).2.1 ≠ (TJ9 b).2.1 := by decide +kernel
theorem tyJ9_ok : ∀ k, k < 0 → parseFieldDescriptor (TJ9 k).2.2.1 = some (tyJ9 k) := by decide +kernel
abbrev cJ9_max_7cf53 : ByteArray := prog_15_method_65_code
def yJ9_max_7cf53 : MethodName := ⟨RJ9, "max", "(II)I"⟩
abbrev cJ9_min_7cf53 : ByteArray := prog_15_method_69_code
def yJ9_min_7cf53 : MethodName := ⟨RJ9, "min", "(II)I"⟩
def RJ0 : String := "java/lang/String"
def TJ0 : u_T := fun k => match k with
  | _ => ("", "", "", false)
def tyJ0 : Nat → FieldType := fun k => match k with
  | _ => .int
abbrev wsJ00 : List Cond := u_ws RJ0 TJ0 0
theorem nmJ0 : ∀ a, a < 0 → ∀ b, b < 0 → a ≠ b → (TJ0 a).2.1 ≠ (TJ0 b).2.1 := by decide +kernel
theorem tyJ0_ok : ∀ k, k < 0 → parseFieldDescriptor (TJ0 k).2.2.1 = some (tyJ0 k) := by decide +kernel
def RL : String := "CreditfabricLaw"
abbrev cL_begin : ByteArray := method_3_code
def yL_begin : MethodName := ⟨RL, "begin", "(LCreditfabric;IIII[J)I"⟩
abbrev cL_send : ByteArray := method_4_code
def yL_send : MethodName := ⟨RL, "send", "(LCreditfabric;IIII[J)I"⟩
abbrev cL_run : ByteArray := method_5_code
def yL_run : MethodName := ⟨RL, "run", "(LCreditfabric;I[J)I"⟩
abbrev cL_pause : ByteArray := method_6_code
def yL_pause : MethodName := ⟨RL, "pause", "(LCreditfabric;IZ[J)I"⟩
abbrev cL_lose : ByteArray := method_7_code
def yL_lose : MethodName := ⟨RL, "lose", "(LCreditfabric;III[J)I"⟩
abbrev cL_credits : ByteArray := method_8_code
def yL_credits : MethodName := ⟨RL, "credits", "(LCreditfabric;III[J)I"⟩
abbrev cL_inBuffer : ByteArray := method_9_code
def yL_inBuffer : MethodName := ⟨RL, "inBuffer", "(LCreditfabric;III[J)I"⟩
abbrev cL_gap : ByteArray := method_10_code
def yL_gap : MethodName := ⟨RL, "gap", "(LCreditfabric;I[J)I"⟩
abbrev cL_placeOf : ByteArray := method_11_code
def yL_placeOf : MethodName := ⟨RL, "placeOf", "(LCreditfabric;I[J)I"⟩
abbrev cL_hops : ByteArray := method_12_code
def yL_hops : MethodName := ⟨RL, "hops", "(LCreditfabric;I[J)I"⟩
abbrev cL_isMarked : ByteArray := method_13_code
def yL_isMarked : MethodName := ⟨RL, "isMarked", "(LCreditfabric;I[J)I"⟩
abbrev cL_wants : ByteArray := method_14_code
def yL_wants : MethodName := ⟨RL, "wants", "(LCreditfabric;I[J)I"⟩
abbrev cL_law : ByteArray := code
def yL_law : MethodName := ⟨RL, "law", "([I)Z"⟩
def wsX5_init : List Cond := .code yX5_init cX5_init 2 none :: ([.methodLink RX5 1 objectInit, .instanceMethod objectInit, .code objectInit ⟨#[0xb1]⟩ 1 none, .arrayClass .int, .fieldLink RX5 7 "Creditfabric$Row" "numbers" "[I"] ++ wsX50)
def wsX0_init : List Cond := .code yX0_init cX0_init 1 none :: ([.methodLink RX0 3 objectInit, .instanceMethod objectInit, .code objectInit ⟨#[0xb1]⟩ 1 none, .classLink RX0 9 RX5, .instantiable RX5 1, .initialized RX5, .fieldLink RX0 14 "Creditfabric$Buffers" "slots" "LCreditfabric$Row;", .fieldLink RX0 20 "Creditfabric$Buffers" "sizes" "LCreditfabric$Row;", .methodLink RX0 11 yX5_init, .instanceMethod yX5_init, .code yX5_init cX5_init 2 none, .methodLink RX5 1 objectInit, .arrayClass .int, .fieldLink RX5 7 "Creditfabric$Row" "numbers" "[I"] ++ wsX50 ++ wsX00)
def wsX5_fill : List Cond := .code yX5_fill cX5_fill 3 none :: ([.fieldLink RX5 7 "Creditfabric$Row" "numbers" "[I"] ++ wsX50)
def wsX0_clear : List Cond := .code yX0_clear cX0_clear 2 none :: ([.fieldLink RX0 23 "Creditfabric$Buffers" "room" "I", .fieldLink RX0 20 "Creditfabric$Buffers" "sizes" "LCreditfabric$Row;", .methodLink RX0 27 yX5_fill, .instanceMethod yX5_fill, .selects RX5 yX5_fill yX5_fill, .initialized RX5, .code yX5_fill cX5_fill 3 none, .fieldLink RX5 7 "Creditfabric$Row" "numbers" "[I"] ++ wsX00 ++ wsX50)
def wsX5_at : List Cond := .code yX5_at cX5_at 2 (some .int) :: ([.fieldLink RX5 7 "Creditfabric$Row" "numbers" "[I"] ++ wsX50)
def wsX0_size : List Cond := .code yX0_size cX0_size 2 (some .int) :: ([.fieldLink RX0 20 "Creditfabric$Buffers" "sizes" "LCreditfabric$Row;", .methodLink RX0 30 yX5_at, .instanceMethod yX5_at, .selects RX5 yX5_at yX5_at, .initialized RX5, .code yX5_at cX5_at 2 (some .int), .fieldLink RX5 7 "Creditfabric$Row" "numbers" "[I"] ++ wsX00 ++ wsX50)
def wsX0_free : List Cond := .code yX0_free cX0_free 2 (some .int) :: ([.fieldLink RX0 23 "Creditfabric$Buffers" "room" "I", .fieldLink RX0 20 "Creditfabric$Buffers" "sizes" "LCreditfabric$Row;", .methodLink RX0 30 yX5_at, .instanceMethod yX5_at, .selects RX5 yX5_at yX5_at, .initialized RX5, .code yX5_at cX5_at 2 (some .int), .fieldLink RX5 7 "Creditfabric$Row" "numbers" "[I"] ++ wsX00 ++ wsX50)
def wsX0_isFull : List Cond := .code yX0_isFull cX0_isFull 2 (some .boolean) :: ([.fieldLink RX0 20 "Creditfabric$Buffers" "sizes" "LCreditfabric$Row;", .fieldLink RX0 23 "Creditfabric$Buffers" "room" "I", .methodLink RX0 30 yX5_at, .instanceMethod yX5_at, .selects RX5 yX5_at yX5_at, .initialized RX5, .code yX5_at cX5_at 2 (some .int), .fieldLink RX5 7 "Creditfabric$Row" "numbers" "[I"] ++ wsX00 ++ wsX50)
def wsX0_first : List Cond := .code yX0_first cX0_first 2 (some .int) :: ([.fieldLink RX0 20 "Creditfabric$Buffers" "sizes" "LCreditfabric$Row;", .fieldLink RX0 14 "Creditfabric$Buffers" "slots" "LCreditfabric$Row;", .methodLink RX0 30 yX5_at, .instanceMethod yX5_at, .selects RX5 yX5_at yX5_at, .initialized RX5, .code yX5_at cX5_at 2 (some .int), .fieldLink RX5 7 "Creditfabric$Row" "numbers" "[I"] ++ wsX00 ++ wsX50)
def wsX5_put : List Cond := .code yX5_put cX5_put 3 none :: ([.fieldLink RX5 7 "Creditfabric$Row" "numbers" "[I"] ++ wsX50)
def wsX5_add : List Cond := .code yX5_add cX5_add 3 none :: ([.methodLink RX5 13 yX5_at, .instanceMethod yX5_at, .selects RX5 yX5_at yX5_at, .initialized RX5, .code yX5_at cX5_at 2 (some .int), .fieldLink RX5 7 "Creditfabric$Row" "numbers" "[I", .methodLink RX5 17 yX5_put, .instanceMethod yX5_put, .selects RX5 yX5_put yX5_put, .code yX5_put cX5_put 3 none] ++ wsX50)
def wsX0_append : List Cond := .code yX0_append cX0_append 3 none :: ([.fieldLink RX0 14 "Creditfabric$Buffers" "slots" "LCreditfabric$Row;", .fieldLink RX0 20 "Creditfabric$Buffers" "sizes" "LCreditfabric$Row;", .methodLink RX0 34 yX0_isFull, .instanceMethod yX0_isFull, .selects RX0 yX0_isFull yX0_isFull, .initialized RX0, .code yX0_isFull cX0_isFull 2 (some .boolean), .fieldLink RX0 23 "Creditfabric$Buffers" "room" "I", .methodLink RX0 30 yX5_at, .instanceMethod yX5_at, .selects RX5 yX5_at yX5_at, .initialized RX5, .code yX5_at cX5_at 2 (some .int), .fieldLink RX5 7 "Creditfabric$Row" "numbers" "[I", .methodLink RX0 38 yX5_put, .instanceMethod yX5_put, .selects RX5 yX5_put yX5_put, .code yX5_put cX5_put 3 none, .methodLink RX0 42 yX5_add, .instanceMethod yX5_add, .selects RX5 yX5_add yX5_add, .code yX5_add cX5_add 3 none, .methodLink RX5 13 yX5_at, .methodLink RX5 17 yX5_put] ++ wsX00 ++ wsX50)
def wsX0_removeFirst : List Cond := .code yX0_removeFirst cX0_removeFirst 4 none :: ([.fieldLink RX0 20 "Creditfabric$Buffers" "sizes" "LCreditfabric$Row;", .fieldLink RX0 14 "Creditfabric$Buffers" "slots" "LCreditfabric$Row;", .methodLink RX0 30 yX5_at, .instanceMethod yX5_at, .selects RX5 yX5_at yX5_at, .initialized RX5, .code yX5_at cX5_at 2 (some .int), .fieldLink RX5 7 "Creditfabric$Row" "numbers" "[I", .methodLink RX0 38 yX5_put, .instanceMethod yX5_put, .selects RX5 yX5_put yX5_put, .code yX5_put cX5_put 3 none, .methodLink RX0 42 yX5_add, .instanceMethod yX5_add, .selects RX5 yX5_add yX5_add, .code yX5_add cX5_add 3 none, .methodLink RX5 13 yX5_at, .methodLink RX5 17 yX5_put] ++ wsX00 ++ wsX50)
def wsX0_load : List Cond := .code yX0_load cX0_load 4 (some .int) :: ([.fieldLink RX0 20 "Creditfabric$Buffers" "sizes" "LCreditfabric$Row;", .methodLink RX0 30 yX5_at, .instanceMethod yX5_at, .selects RX5 yX5_at yX5_at, .initialized RX5, .code yX5_at cX5_at 2 (some .int), .fieldLink RX5 7 "Creditfabric$Row" "numbers" "[I"] ++ wsX00 ++ wsX50)
def wsX1_init : List Cond := .code yX1_init cX1_init 4 none :: ([.methodLink RX1 3 objectInit, .instanceMethod objectInit, .code objectInit ⟨#[0xb1]⟩ 1 none, .classLink RX1 9 RX5, .instantiable RX5 1, .initialized RX5, .fieldLink RX1 14 "Creditfabric$Circles" "awaited" "LCreditfabric$Row;", .fieldLink RX1 20 "Creditfabric$Circles" "hangings" "LCreditfabric$Row;", .fieldLink RX1 23 "Creditfabric$Circles" "grid" "LCreditfabric$Grid;", .fieldLink RX1 27 "Creditfabric$Circles" "traffic" "LCreditfabric$Packets;", .fieldLink RX1 31 "Creditfabric$Circles" "buffers" "LCreditfabric$Buffers;", .methodLink RX1 11 yX5_init, .instanceMethod yX5_init, .code yX5_init cX5_init 2 none, .methodLink RX5 1 objectInit, .arrayClass .int, .fieldLink RX5 7 "Creditfabric$Row" "numbers" "[I"] ++ wsX50 ++ wsX10)
def wsX3_size : List Cond := .code yX3_size cX3_size 1 (some .int) :: ([.fieldLink RX3 23 "Creditfabric$Grid" "columns" "I", .fieldLink RX3 27 "Creditfabric$Grid" "rows" "I"] ++ wsX30)
def wsX3_stepTowards : List Cond := .code yX3_stepTowards cX3_stepTowards 4 (some .int) :: ([])
def wsX3_outputTowards : List Cond := .code yX3_outputTowards cX3_outputTowards 6 (some .int) :: ([.fieldLink RX3 14 "Creditfabric$Grid" "columnOf" "LCreditfabric$Row;", .fieldLink RX3 20 "Creditfabric$Grid" "rowOf" "LCreditfabric$Row;", .methodLink RX3 38 yX5_at, .instanceMethod yX5_at, .selects RX5 yX5_at yX5_at, .initialized RX5, .code yX5_at cX5_at 2 (some .int), .fieldLink RX5 7 "Creditfabric$Row" "numbers" "[I", .methodLink RX3 42 yX3_stepTowards, .static yX3_stepTowards, .initialized RX3, .code yX3_stepTowards cX3_stepTowards 4 (some .int)] ++ wsX30 ++ wsX50)
def wsX4_outputOf : List Cond := .code yX4_outputOf cX4_outputOf 3 (some .int) :: ([.fieldLink RX4 29 "Creditfabric$Packets" "places" "LCreditfabric$Row;", .fieldLink RX4 41 "Creditfabric$Packets" "grid" "LCreditfabric$Grid;", .fieldLink RX4 20 "Creditfabric$Packets" "goals" "LCreditfabric$Row;", .fieldLink RX4 26 "Creditfabric$Packets" "modes" "LCreditfabric$Row;", .methodLink RX4 56 yX5_at, .instanceMethod yX5_at, .selects RX5 yX5_at yX5_at, .initialized RX5, .code yX5_at cX5_at 2 (some .int), .fieldLink RX5 7 "Creditfabric$Row" "numbers" "[I", .methodLink RX4 60 yX3_outputTowards, .instanceMethod yX3_outputTowards, .selects RX3 yX3_outputTowards yX3_outputTowards, .initialized RX3, .code yX3_outputTowards cX3_outputTowards 6 (some .int), .fieldLink RX3 14 "Creditfabric$Grid" "columnOf" "LCreditfabric$Row;", .fieldLink RX3 20 "Creditfabric$Grid" "rowOf" "LCreditfabric$Row;", .methodLink RX3 38 yX5_at, .methodLink RX3 42 yX3_stepTowards, .static yX3_stepTowards, .code yX3_stepTowards cX3_stepTowards 4 (some .int)] ++ wsX40 ++ wsX50 ++ wsX30)
def wsX3_behind : List Cond := .code yX3_behind cX3_behind 3 (some .int) :: ([.fieldLink RX3 14 "Creditfabric$Grid" "columnOf" "LCreditfabric$Row;", .fieldLink RX3 23 "Creditfabric$Grid" "columns" "I", .fieldLink RX3 20 "Creditfabric$Grid" "rowOf" "LCreditfabric$Row;", .fieldLink RX3 27 "Creditfabric$Grid" "rows" "I", .methodLink RX3 38 yX5_at, .instanceMethod yX5_at, .selects RX5 yX5_at yX5_at, .initialized RX5, .code yX5_at cX5_at 2 (some .int), .fieldLink RX5 7 "Creditfabric$Row" "numbers" "[I"] ++ wsX30 ++ wsX50)
def wsX7_bufferOf : List Cond := .code yX7_bufferOf cX7_bufferOf 3 (some .int) :: ([])
def wsX1_nextBuffer : List Cond := .code yX1_nextBuffer cX1_nextBuffer 5 (some .int) :: ([.fieldLink RX1 23 "Creditfabric$Circles" "grid" "LCreditfabric$Grid;", .methodLink RX1 108 yX3_behind, .instanceMethod yX3_behind, .selects RX3 yX3_behind yX3_behind, .initialized RX3, .code yX3_behind cX3_behind 3 (some .int), .fieldLink RX3 14 "Creditfabric$Grid" "columnOf" "LCreditfabric$Row;", .fieldLink RX3 23 "Creditfabric$Grid" "columns" "I", .fieldLink RX3 20 "Creditfabric$Grid" "rowOf" "LCreditfabric$Row;", .fieldLink RX3 27 "Creditfabric$Grid" "rows" "I", .methodLink RX3 38 yX5_at, .instanceMethod yX5_at, .selects RX5 yX5_at yX5_at, .initialized RX5, .code yX5_at cX5_at 2 (some .int), .fieldLink RX5 7 "Creditfabric$Row" "numbers" "[I", .static yX7_bufferOf, .initialized RX7, .code yX7_bufferOf cX7_bufferOf 3 (some .int)] ++ wsX10 ++ wsX30 ++ wsX50)
def wsX1_awaitedBy_r1 : List Cond := [Cond.fieldLink RX1 31 "Creditfabric$Circles" "buffers" "LCreditfabric$Buffers;", Cond.fieldLink RX1 27 "Creditfabric$Circles" "traffic" "LCreditfabric$Packets;", Cond.methodLink RX1 53 yX0_first, Cond.instanceMethod yX0_first, Cond.selects RX0 yX0_first yX0_first, Cond.initialized RX0, Cond.code yX0_first cX0_first 2 (some .int), Cond.fieldLink RX0 20 "Creditfabric$Buffers" "sizes" "LCreditfabric$Row;", Cond.fieldLink RX0 14 "Creditfabric$Buffers" "slots" "LCreditfabric$Row;", Cond.methodLink RX0 30 yX5_at, Cond.instanceMethod yX5_at, Cond.selects RX5 yX5_at yX5_at, Cond.initialized RX5, Cond.code yX5_at cX5_at 2 (some .int), Cond.fieldLink RX5 7 "Creditfabric$Row" "numbers" "[I", Cond.methodLink RX1 63 yX5_at, Cond.methodLink RX1 66 yX4_outputOf, Cond.instanceMethod yX4_outputOf, Cond.selects RX4 yX4_outputOf yX4_outputOf, Cond.initialized RX4, Cond.code yX4_outputOf cX4_outputOf 3 (some .int), Cond.fieldLink RX4 29 "Creditfabric$Packets" "places" "LCreditfabric$Row;", Cond.fieldLink RX4 41 "Creditfabric$Packets" "grid" "LCreditfabric$Grid;", Cond.fieldLink RX4 20 "Creditfabric$Packets" "goals" "LCreditfabric$Row;"]
def wsX1_awaitedBy_r2 : List Cond := [Cond.fieldLink RX4 26 "Creditfabric$Packets" "modes" "LCreditfabric$Row;", Cond.methodLink RX4 56 yX5_at, Cond.methodLink RX4 60 yX3_outputTowards, Cond.instanceMethod yX3_outputTowards, Cond.selects RX3 yX3_outputTowards yX3_outputTowards, Cond.initialized RX3, Cond.code yX3_outputTowards cX3_outputTowards 6 (some .int), Cond.fieldLink RX3 14 "Creditfabric$Grid" "columnOf" "LCreditfabric$Row;", Cond.fieldLink RX3 20 "Creditfabric$Grid" "rowOf" "LCreditfabric$Row;", Cond.methodLink RX3 38 yX5_at, Cond.methodLink RX3 42 yX3_stepTowards, Cond.static yX3_stepTowards, Cond.code yX3_stepTowards cX3_stepTowards 4 (some .int), Cond.methodLink RX1 72 yX1_nextBuffer, Cond.instanceMethod yX1_nextBuffer, Cond.selects RX1 yX1_nextBuffer yX1_nextBuffer, Cond.initialized RX1, Cond.code yX1_nextBuffer cX1_nextBuffer 5 (some .int), Cond.fieldLink RX1 23 "Creditfabric$Circles" "grid" "LCreditfabric$Grid;", Cond.methodLink RX1 108 yX3_behind, Cond.instanceMethod yX3_behind, Cond.selects RX3 yX3_behind yX3_behind, Cond.code yX3_behind cX3_behind 3 (some .int), Cond.fieldLink RX3 23 "Creditfabric$Grid" "columns" "I"]
def wsX1_awaitedBy_r3 : List Cond := [Cond.fieldLink RX3 27 "Creditfabric$Grid" "rows" "I", Cond.static yX7_bufferOf, Cond.initialized RX7, Cond.code yX7_bufferOf cX7_bufferOf 3 (some .int), Cond.methodLink RX1 76 yX0_isFull, Cond.instanceMethod yX0_isFull, Cond.selects RX0 yX0_isFull yX0_isFull, Cond.code yX0_isFull cX0_isFull 2 (some .boolean), Cond.fieldLink RX0 23 "Creditfabric$Buffers" "room" "I"]
def wsX1_awaitedBy : List Cond := .code yX1_awaitedBy cX1_awaitedBy 4 (some .int) :: ((wsX1_awaitedBy_r1 ++ (wsX1_awaitedBy_r2 ++ wsX1_awaitedBy_r3)) ++ wsX10 ++ wsX40 ++ wsX00 ++ wsX50 ++ wsX30)
def wsX1_comesBack : List Cond := .code yX1_comesBack cX1_comesBack 4 (some .boolean) :: ([.fieldLink RX1 14 "Creditfabric$Circles" "awaited" "LCreditfabric$Row;", .methodLink RX1 63 yX5_at, .instanceMethod yX5_at, .selects RX5 yX5_at yX5_at, .initialized RX5, .code yX5_at cX5_at 2 (some .int), .fieldLink RX5 7 "Creditfabric$Row" "numbers" "[I"] ++ wsX10 ++ wsX50)
def wsX1_countWaiting_r1 : List Cond := [Cond.fieldLink RX1 23 "Creditfabric$Circles" "grid" "LCreditfabric$Grid;", Cond.fieldLink RX1 14 "Creditfabric$Circles" "awaited" "LCreditfabric$Row;", Cond.methodLink RX1 35 yX3_size, Cond.instanceMethod yX3_size, Cond.selects RX3 yX3_size yX3_size, Cond.initialized RX3, Cond.code yX3_size cX3_size 1 (some .int), Cond.fieldLink RX3 23 "Creditfabric$Grid" "columns" "I", Cond.fieldLink RX3 27 "Creditfabric$Grid" "rows" "I", Cond.methodLink RX1 41 yX1_awaitedBy, Cond.instanceMethod yX1_awaitedBy, Cond.selects RX1 yX1_awaitedBy yX1_awaitedBy, Cond.initialized RX1, Cond.code yX1_awaitedBy cX1_awaitedBy 4 (some .int), Cond.fieldLink RX1 31 "Creditfabric$Circles" "buffers" "LCreditfabric$Buffers;", Cond.fieldLink RX1 27 "Creditfabric$Circles" "traffic" "LCreditfabric$Packets;", Cond.methodLink RX1 53 yX0_first, Cond.instanceMethod yX0_first, Cond.selects RX0 yX0_first yX0_first, Cond.initialized RX0, Cond.code yX0_first cX0_first 2 (some .int), Cond.fieldLink RX0 20 "Creditfabric$Buffers" "sizes" "LCreditfabric$Row;", Cond.fieldLink RX0 14 "Creditfabric$Buffers" "slots" "LCreditfabric$Row;", Cond.methodLink RX0 30 yX5_at]
def wsX1_countWaiting_r2 : List Cond := [Cond.instanceMethod yX5_at, Cond.selects RX5 yX5_at yX5_at, Cond.initialized RX5, Cond.code yX5_at cX5_at 2 (some .int), Cond.fieldLink RX5 7 "Creditfabric$Row" "numbers" "[I", Cond.methodLink RX1 63 yX5_at, Cond.methodLink RX1 66 yX4_outputOf, Cond.instanceMethod yX4_outputOf, Cond.selects RX4 yX4_outputOf yX4_outputOf, Cond.initialized RX4, Cond.code yX4_outputOf cX4_outputOf 3 (some .int), Cond.fieldLink RX4 29 "Creditfabric$Packets" "places" "LCreditfabric$Row;", Cond.fieldLink RX4 41 "Creditfabric$Packets" "grid" "LCreditfabric$Grid;", Cond.fieldLink RX4 20 "Creditfabric$Packets" "goals" "LCreditfabric$Row;", Cond.fieldLink RX4 26 "Creditfabric$Packets" "modes" "LCreditfabric$Row;", Cond.methodLink RX4 56 yX5_at, Cond.methodLink RX4 60 yX3_outputTowards, Cond.instanceMethod yX3_outputTowards, Cond.selects RX3 yX3_outputTowards yX3_outputTowards, Cond.code yX3_outputTowards cX3_outputTowards 6 (some .int), Cond.fieldLink RX3 14 "Creditfabric$Grid" "columnOf" "LCreditfabric$Row;", Cond.fieldLink RX3 20 "Creditfabric$Grid" "rowOf" "LCreditfabric$Row;", Cond.methodLink RX3 38 yX5_at, Cond.methodLink RX3 42 yX3_stepTowards]
def wsX1_countWaiting_r3 : List Cond := [Cond.static yX3_stepTowards, Cond.code yX3_stepTowards cX3_stepTowards 4 (some .int), Cond.methodLink RX1 72 yX1_nextBuffer, Cond.instanceMethod yX1_nextBuffer, Cond.selects RX1 yX1_nextBuffer yX1_nextBuffer, Cond.code yX1_nextBuffer cX1_nextBuffer 5 (some .int), Cond.methodLink RX1 108 yX3_behind, Cond.instanceMethod yX3_behind, Cond.selects RX3 yX3_behind yX3_behind, Cond.code yX3_behind cX3_behind 3 (some .int), Cond.static yX7_bufferOf, Cond.initialized RX7, Cond.code yX7_bufferOf cX7_bufferOf 3 (some .int), Cond.methodLink RX1 76 yX0_isFull, Cond.instanceMethod yX0_isFull, Cond.selects RX0 yX0_isFull yX0_isFull, Cond.code yX0_isFull cX0_isFull 2 (some .boolean), Cond.fieldLink RX0 23 "Creditfabric$Buffers" "room" "I", Cond.methodLink RX1 45 yX5_put, Cond.instanceMethod yX5_put, Cond.selects RX5 yX5_put yX5_put, Cond.code yX5_put cX5_put 3 none, Cond.methodLink RX1 49 yX1_comesBack, Cond.instanceMethod yX1_comesBack]
def wsX1_countWaiting_r4 : List Cond := [Cond.selects RX1 yX1_comesBack yX1_comesBack, Cond.code yX1_comesBack cX1_comesBack 4 (some .boolean)]
def wsX1_countWaiting : List Cond := .code yX1_countWaiting cX1_countWaiting 4 (some .int) :: ((wsX1_countWaiting_r1 ++ (wsX1_countWaiting_r2 ++ (wsX1_countWaiting_r3 ++ wsX1_countWaiting_r4))) ++ wsX10 ++ wsX30 ++ wsX40 ++ wsX00 ++ wsX50)
def wsX1_hangAlong_r1 : List Cond := [Cond.fieldLink RX1 27 "Creditfabric$Circles" "traffic" "LCreditfabric$Packets;", Cond.fieldLink RX1 23 "Creditfabric$Circles" "grid" "LCreditfabric$Grid;", Cond.fieldLink RX1 20 "Creditfabric$Circles" "hangings" "LCreditfabric$Row;", Cond.methodLink RX1 63 yX5_at, Cond.instanceMethod yX5_at, Cond.selects RX5 yX5_at yX5_at, Cond.initialized RX5, Cond.code yX5_at cX5_at 2 (some .int), Cond.fieldLink RX5 7 "Creditfabric$Row" "numbers" "[I", Cond.static yX7_bufferOf, Cond.initialized RX7, Cond.code yX7_bufferOf cX7_bufferOf 3 (some .int), Cond.methodLink RX1 105 yX3_outputTowards, Cond.instanceMethod yX3_outputTowards, Cond.selects RX3 yX3_outputTowards yX3_outputTowards, Cond.initialized RX3, Cond.code yX3_outputTowards cX3_outputTowards 6 (some .int), Cond.fieldLink RX3 14 "Creditfabric$Grid" "columnOf" "LCreditfabric$Row;", Cond.fieldLink RX3 20 "Creditfabric$Grid" "rowOf" "LCreditfabric$Row;", Cond.methodLink RX3 38 yX5_at, Cond.methodLink RX3 42 yX3_stepTowards, Cond.static yX3_stepTowards, Cond.code yX3_stepTowards cX3_stepTowards 4 (some .int), Cond.methodLink RX1 72 yX1_nextBuffer]
def wsX1_hangAlong_r2 : List Cond := [Cond.instanceMethod yX1_nextBuffer, Cond.selects RX1 yX1_nextBuffer yX1_nextBuffer, Cond.initialized RX1, Cond.code yX1_nextBuffer cX1_nextBuffer 5 (some .int), Cond.methodLink RX1 108 yX3_behind, Cond.instanceMethod yX3_behind, Cond.selects RX3 yX3_behind yX3_behind, Cond.code yX3_behind cX3_behind 3 (some .int), Cond.fieldLink RX3 23 "Creditfabric$Grid" "columns" "I", Cond.fieldLink RX3 27 "Creditfabric$Grid" "rows" "I", Cond.methodLink RX1 45 yX5_put, Cond.instanceMethod yX5_put, Cond.selects RX5 yX5_put yX5_put, Cond.code yX5_put cX5_put 3 none]
def wsX1_hangAlong : List Cond := .code yX1_hangAlong cX1_hangAlong 8 none :: ((wsX1_hangAlong_r1 ++ wsX1_hangAlong_r2) ++ wsX10 ++ wsX40 ++ wsX50 ++ wsX30)
def wsX1_isEnd_r1 : List Cond := [Cond.fieldLink RX1 20 "Creditfabric$Circles" "hangings" "LCreditfabric$Row;", Cond.methodLink RX1 72 yX1_nextBuffer, Cond.instanceMethod yX1_nextBuffer, Cond.selects RX1 yX1_nextBuffer yX1_nextBuffer, Cond.initialized RX1, Cond.code yX1_nextBuffer cX1_nextBuffer 5 (some .int), Cond.fieldLink RX1 23 "Creditfabric$Circles" "grid" "LCreditfabric$Grid;", Cond.methodLink RX1 108 yX3_behind, Cond.instanceMethod yX3_behind, Cond.selects RX3 yX3_behind yX3_behind, Cond.initialized RX3, Cond.code yX3_behind cX3_behind 3 (some .int), Cond.fieldLink RX3 14 "Creditfabric$Grid" "columnOf" "LCreditfabric$Row;", Cond.fieldLink RX3 23 "Creditfabric$Grid" "columns" "I", Cond.fieldLink RX3 20 "Creditfabric$Grid" "rowOf" "LCreditfabric$Row;", Cond.fieldLink RX3 27 "Creditfabric$Grid" "rows" "I", Cond.methodLink RX3 38 yX5_at, Cond.instanceMethod yX5_at, Cond.selects RX5 yX5_at yX5_at, Cond.initialized RX5, Cond.code yX5_at cX5_at 2 (some .int), Cond.fieldLink RX5 7 "Creditfabric$Row" "numbers" "[I", Cond.static yX7_bufferOf, Cond.initialized RX7]
def wsX1_isEnd_r2 : List Cond := [Cond.code yX7_bufferOf cX7_bufferOf 3 (some .int), Cond.methodLink RX1 63 yX5_at]
def wsX1_isEnd : List Cond := .code yX1_isEnd cX1_isEnd 6 (some .boolean) :: ((wsX1_isEnd_r1 ++ wsX1_isEnd_r2) ++ wsX10 ++ wsX30 ++ wsX50)
def wsX1_cutEnds_r1 : List Cond := [Cond.fieldLink RX1 23 "Creditfabric$Circles" "grid" "LCreditfabric$Grid;", Cond.fieldLink RX1 20 "Creditfabric$Circles" "hangings" "LCreditfabric$Row;", Cond.methodLink RX1 35 yX3_size, Cond.instanceMethod yX3_size, Cond.selects RX3 yX3_size yX3_size, Cond.initialized RX3, Cond.code yX3_size cX3_size 1 (some .int), Cond.fieldLink RX3 23 "Creditfabric$Grid" "columns" "I", Cond.fieldLink RX3 27 "Creditfabric$Grid" "rows" "I", Cond.methodLink RX1 63 yX5_at, Cond.instanceMethod yX5_at, Cond.selects RX5 yX5_at yX5_at, Cond.initialized RX5, Cond.code yX5_at cX5_at 2 (some .int), Cond.fieldLink RX5 7 "Creditfabric$Row" "numbers" "[I", Cond.methodLink RX1 112 yX1_isEnd, Cond.instanceMethod yX1_isEnd, Cond.selects RX1 yX1_isEnd yX1_isEnd, Cond.initialized RX1, Cond.code yX1_isEnd cX1_isEnd 6 (some .boolean), Cond.methodLink RX1 72 yX1_nextBuffer, Cond.instanceMethod yX1_nextBuffer, Cond.selects RX1 yX1_nextBuffer yX1_nextBuffer, Cond.code yX1_nextBuffer cX1_nextBuffer 5 (some .int)]
def wsX1_cutEnds_r2 : List Cond := [Cond.methodLink RX1 108 yX3_behind, Cond.instanceMethod yX3_behind, Cond.selects RX3 yX3_behind yX3_behind, Cond.code yX3_behind cX3_behind 3 (some .int), Cond.fieldLink RX3 14 "Creditfabric$Grid" "columnOf" "LCreditfabric$Row;", Cond.fieldLink RX3 20 "Creditfabric$Grid" "rowOf" "LCreditfabric$Row;", Cond.methodLink RX3 38 yX5_at, Cond.static yX7_bufferOf, Cond.initialized RX7, Cond.code yX7_bufferOf cX7_bufferOf 3 (some .int), Cond.methodLink RX1 45 yX5_put, Cond.instanceMethod yX5_put, Cond.selects RX5 yX5_put yX5_put, Cond.code yX5_put cX5_put 3 none]
def wsX1_cutEnds : List Cond := .code yX1_cutEnds cX1_cutEnds 5 (some .boolean) :: ((wsX1_cutEnds_r1 ++ wsX1_cutEnds_r2) ++ wsX10 ++ wsX30 ++ wsX50)
def wsX1_hangsTogether_r1 : List Cond := [Cond.fieldLink RX1 20 "Creditfabric$Circles" "hangings" "LCreditfabric$Row;", Cond.fieldLink RX1 27 "Creditfabric$Circles" "traffic" "LCreditfabric$Packets;", Cond.methodLink RX1 79 yX5_fill, Cond.instanceMethod yX5_fill, Cond.selects RX5 yX5_fill yX5_fill, Cond.initialized RX5, Cond.code yX5_fill cX5_fill 3 none, Cond.fieldLink RX5 7 "Creditfabric$Row" "numbers" "[I", Cond.methodLink RX1 63 yX5_at, Cond.instanceMethod yX5_at, Cond.selects RX5 yX5_at yX5_at, Cond.code yX5_at cX5_at 2 (some .int), Cond.methodLink RX1 86 yX1_hangAlong, Cond.instanceMethod yX1_hangAlong, Cond.selects RX1 yX1_hangAlong yX1_hangAlong, Cond.initialized RX1, Cond.code yX1_hangAlong cX1_hangAlong 8 none, Cond.fieldLink RX1 23 "Creditfabric$Circles" "grid" "LCreditfabric$Grid;", Cond.static yX7_bufferOf, Cond.initialized RX7, Cond.code yX7_bufferOf cX7_bufferOf 3 (some .int), Cond.methodLink RX1 105 yX3_outputTowards, Cond.instanceMethod yX3_outputTowards, Cond.selects RX3 yX3_outputTowards yX3_outputTowards]
def wsX1_hangsTogether_r2 : List Cond := [Cond.initialized RX3, Cond.code yX3_outputTowards cX3_outputTowards 6 (some .int), Cond.fieldLink RX3 14 "Creditfabric$Grid" "columnOf" "LCreditfabric$Row;", Cond.fieldLink RX3 20 "Creditfabric$Grid" "rowOf" "LCreditfabric$Row;", Cond.methodLink RX3 38 yX5_at, Cond.methodLink RX3 42 yX3_stepTowards, Cond.static yX3_stepTowards, Cond.code yX3_stepTowards cX3_stepTowards 4 (some .int), Cond.methodLink RX1 72 yX1_nextBuffer, Cond.instanceMethod yX1_nextBuffer, Cond.selects RX1 yX1_nextBuffer yX1_nextBuffer, Cond.code yX1_nextBuffer cX1_nextBuffer 5 (some .int), Cond.methodLink RX1 108 yX3_behind, Cond.instanceMethod yX3_behind, Cond.selects RX3 yX3_behind yX3_behind, Cond.code yX3_behind cX3_behind 3 (some .int), Cond.fieldLink RX3 23 "Creditfabric$Grid" "columns" "I", Cond.fieldLink RX3 27 "Creditfabric$Grid" "rows" "I", Cond.methodLink RX1 45 yX5_put, Cond.instanceMethod yX5_put, Cond.selects RX5 yX5_put yX5_put, Cond.code yX5_put cX5_put 3 none, Cond.methodLink RX1 89 yX1_cutEnds, Cond.instanceMethod yX1_cutEnds]
def wsX1_hangsTogether_r3 : List Cond := [Cond.selects RX1 yX1_cutEnds yX1_cutEnds, Cond.code yX1_cutEnds cX1_cutEnds 5 (some .boolean), Cond.methodLink RX1 35 yX3_size, Cond.instanceMethod yX3_size, Cond.selects RX3 yX3_size yX3_size, Cond.code yX3_size cX3_size 1 (some .int), Cond.methodLink RX1 112 yX1_isEnd, Cond.instanceMethod yX1_isEnd, Cond.selects RX1 yX1_isEnd yX1_isEnd, Cond.code yX1_isEnd cX1_isEnd 6 (some .boolean)]
def wsX1_hangsTogether : List Cond := .code yX1_hangsTogether cX1_hangsTogether 3 (some .boolean) :: ((wsX1_hangsTogether_r1 ++ (wsX1_hangsTogether_r2 ++ wsX1_hangsTogether_r3)) ++ wsX10 ++ wsX40 ++ wsX50 ++ wsX30)
def wsX2_init : List Cond := .code yX2_init cX2_init 1 none :: ([.methodLink RX2 3 objectInit, .instanceMethod objectInit, .code objectInit ⟨#[0xb1]⟩ 1 none, .classLink RX2 9 RX5, .instantiable RX5 1, .initialized RX5, .fieldLink RX2 14 "Creditfabric$Credits" "there" "LCreditfabric$Row;", .fieldLink RX2 20 "Creditfabric$Credits" "coming" "LCreditfabric$Row;", .methodLink RX2 11 yX5_init, .instanceMethod yX5_init, .code yX5_init cX5_init 2 none, .methodLink RX5 1 objectInit, .arrayClass .int, .fieldLink RX5 7 "Creditfabric$Row" "numbers" "[I"] ++ wsX50 ++ wsX20)
def wsX2_fill : List Cond := .code yX2_fill cX2_fill 3 none :: ([.fieldLink RX2 23 "Creditfabric$Credits" "delay" "I", .fieldLink RX2 14 "Creditfabric$Credits" "there" "LCreditfabric$Row;", .fieldLink RX2 20 "Creditfabric$Credits" "coming" "LCreditfabric$Row;", .fieldLink RX2 30 "Creditfabric$Credits" "comingInAll" "I", .methodLink RX2 27 yX5_fill, .instanceMethod yX5_fill, .selects RX5 yX5_fill yX5_fill, .initialized RX5, .code yX5_fill cX5_fill 3 none, .fieldLink RX5 7 "Creditfabric$Row" "numbers" "[I"] ++ wsX20 ++ wsX50)
def wsX2_there : List Cond := .code yX2_there cX2_there 2 (some .int) :: ([.fieldLink RX2 14 "Creditfabric$Credits" "there" "LCreditfabric$Row;", .methodLink RX2 33 yX5_at, .instanceMethod yX5_at, .selects RX5 yX5_at yX5_at, .initialized RX5, .code yX5_at cX5_at 2 (some .int), .fieldLink RX5 7 "Creditfabric$Row" "numbers" "[I"] ++ wsX20 ++ wsX50)
def wsX2_take : List Cond := .code yX2_take cX2_take 2 none :: ([.fieldLink RX2 14 "Creditfabric$Credits" "there" "LCreditfabric$Row;", .methodLink RX2 37 yX5_add, .instanceMethod yX5_add, .selects RX5 yX5_add yX5_add, .initialized RX5, .code yX5_add cX5_add 3 none, .methodLink RX5 13 yX5_at, .instanceMethod yX5_at, .selects RX5 yX5_at yX5_at, .code yX5_at cX5_at 2 (some .int), .fieldLink RX5 7 "Creditfabric$Row" "numbers" "[I", .methodLink RX5 17 yX5_put, .instanceMethod yX5_put, .selects RX5 yX5_put yX5_put, .code yX5_put cX5_put 3 none] ++ wsX20 ++ wsX50)
def wsX2_slotOf : List Cond := .code yX2_slotOf cX2_slotOf 2 (some .int) :: ([])
def wsX2_giveBack : List Cond := .code yX2_giveBack cX2_giveBack 3 none :: ([.fieldLink RX2 20 "Creditfabric$Credits" "coming" "LCreditfabric$Row;", .fieldLink RX2 23 "Creditfabric$Credits" "delay" "I", .fieldLink RX2 30 "Creditfabric$Credits" "comingInAll" "I", .methodLink RX2 41 yX2_slotOf, .static yX2_slotOf, .initialized RX2, .code yX2_slotOf cX2_slotOf 2 (some .int), .methodLink RX2 37 yX5_add, .instanceMethod yX5_add, .selects RX5 yX5_add yX5_add, .initialized RX5, .code yX5_add cX5_add 3 none, .methodLink RX5 13 yX5_at, .instanceMethod yX5_at, .selects RX5 yX5_at yX5_at, .code yX5_at cX5_at 2 (some .int), .fieldLink RX5 7 "Creditfabric$Row" "numbers" "[I", .methodLink RX5 17 yX5_put, .instanceMethod yX5_put, .selects RX5 yX5_put yX5_put, .code yX5_put cX5_put 3 none] ++ wsX20 ++ wsX50)
def wsX2_comeBack : List Cond := .code yX2_comeBack cX2_comeBack 5 none :: ([.fieldLink RX2 30 "Creditfabric$Credits" "comingInAll" "I", .fieldLink RX2 20 "Creditfabric$Credits" "coming" "LCreditfabric$Row;", .fieldLink RX2 14 "Creditfabric$Credits" "there" "LCreditfabric$Row;", .methodLink RX2 41 yX2_slotOf, .static yX2_slotOf, .initialized RX2, .code yX2_slotOf cX2_slotOf 2 (some .int), .methodLink RX2 33 yX5_at, .instanceMethod yX5_at, .selects RX5 yX5_at yX5_at, .initialized RX5, .code yX5_at cX5_at 2 (some .int), .fieldLink RX5 7 "Creditfabric$Row" "numbers" "[I", .methodLink RX2 37 yX5_add, .instanceMethod yX5_add, .selects RX5 yX5_add yX5_add, .code yX5_add cX5_add 3 none, .methodLink RX5 13 yX5_at, .methodLink RX5 17 yX5_put, .instanceMethod yX5_put, .selects RX5 yX5_put yX5_put, .code yX5_put cX5_put 3 none, .methodLink RX2 45 yX5_put] ++ wsX20 ++ wsX50)
def wsX2_settle : List Cond := .code yX2_settle cX2_settle 5 (some .int) :: ([.fieldLink RX2 20 "Creditfabric$Credits" "coming" "LCreditfabric$Row;", .fieldLink RX2 14 "Creditfabric$Credits" "there" "LCreditfabric$Row;", .methodLink RX2 41 yX2_slotOf, .static yX2_slotOf, .initialized RX2, .code yX2_slotOf cX2_slotOf 2 (some .int), .methodLink RX2 33 yX5_at, .instanceMethod yX5_at, .selects RX5 yX5_at yX5_at, .initialized RX5, .code yX5_at cX5_at 2 (some .int), .fieldLink RX5 7 "Creditfabric$Row" "numbers" "[I", .methodLink RX2 45 yX5_put, .instanceMethod yX5_put, .selects RX5 yX5_put yX5_put, .code yX5_put cX5_put 3 none] ++ wsX20 ++ wsX50)
def wsX3_init : List Cond := .code yX3_init cX3_init 1 none :: ([.methodLink RX3 3 objectInit, .instanceMethod objectInit, .code objectInit ⟨#[0xb1]⟩ 1 none, .classLink RX3 9 RX5, .instantiable RX5 1, .initialized RX5, .fieldLink RX3 14 "Creditfabric$Grid" "columnOf" "LCreditfabric$Row;", .fieldLink RX3 20 "Creditfabric$Grid" "rowOf" "LCreditfabric$Row;", .methodLink RX3 11 yX5_init, .instanceMethod yX5_init, .code yX5_init cX5_init 2 none, .methodLink RX5 1 objectInit, .arrayClass .int, .fieldLink RX5 7 "Creditfabric$Row" "numbers" "[I"] ++ wsX50 ++ wsX30)
def wsX3_lay : List Cond := .code yX3_lay cX3_lay 5 none :: ([.fieldLink RX3 23 "Creditfabric$Grid" "columns" "I", .fieldLink RX3 27 "Creditfabric$Grid" "rows" "I", .fieldLink RX3 14 "Creditfabric$Grid" "columnOf" "LCreditfabric$Row;", .fieldLink RX3 20 "Creditfabric$Grid" "rowOf" "LCreditfabric$Row;", .methodLink RX3 30 yX5_put, .instanceMethod yX5_put, .selects RX5 yX5_put yX5_put, .initialized RX5, .code yX5_put cX5_put 3 none, .fieldLink RX5 7 "Creditfabric$Row" "numbers" "[I"] ++ wsX30 ++ wsX50)
def wsX3_has : List Cond := .code yX3_has cX3_has 2 (some .boolean) :: ([.methodLink RX3 34 yX3_size, .instanceMethod yX3_size, .selects RX3 yX3_size yX3_size, .initialized RX3, .code yX3_size cX3_size 1 (some .int), .fieldLink RX3 23 "Creditfabric$Grid" "columns" "I", .fieldLink RX3 27 "Creditfabric$Grid" "rows" "I"] ++ wsX30)
def wsX4_init : List Cond := .code yX4_init cX4_init 2 none :: ([.methodLink RX4 3 objectInit, .instanceMethod objectInit, .code objectInit ⟨#[0xb1]⟩ 1 none, .classLink RX4 9 RX5, .instantiable RX5 1, .initialized RX5, .fieldLink RX4 14 "Creditfabric$Packets" "sources" "LCreditfabric$Row;", .fieldLink RX4 20 "Creditfabric$Packets" "goals" "LCreditfabric$Row;", .fieldLink RX4 23 "Creditfabric$Packets" "lanes" "LCreditfabric$Row;", .fieldLink RX4 26 "Creditfabric$Packets" "modes" "LCreditfabric$Row;", .fieldLink RX4 29 "Creditfabric$Packets" "places" "LCreditfabric$Row;", .fieldLink RX4 32 "Creditfabric$Packets" "inputs" "LCreditfabric$Row;", .fieldLink RX4 35 "Creditfabric$Packets" "hopsGone" "LCreditfabric$Row;", .fieldLink RX4 38 "Creditfabric$Packets" "marks" "LCreditfabric$Row;", .fieldLink RX4 41 "Creditfabric$Packets" "grid" "LCreditfabric$Grid;", .methodLink RX4 11 yX5_init, .instanceMethod yX5_init, .code yX5_init cX5_init 2 none, .methodLink RX5 1 objectInit, .arrayClass .int, .fieldLink RX5 7 "Creditfabric$Row" "numbers" "[I"] ++ wsX50 ++ wsX40)
def wsX4_clear : List Cond := .code yX4_clear cX4_clear 1 none :: ([.fieldLink RX4 45 "Creditfabric$Packets" "count" "I", .fieldLink RX4 49 "Creditfabric$Packets" "gone" "I"] ++ wsX40)
def wsX4_add : List Cond := .code yX4_add cX4_add 6 (some .int) :: ([.fieldLink RX4 45 "Creditfabric$Packets" "count" "I", .fieldLink RX4 14 "Creditfabric$Packets" "sources" "LCreditfabric$Row;", .fieldLink RX4 20 "Creditfabric$Packets" "goals" "LCreditfabric$Row;", .fieldLink RX4 23 "Creditfabric$Packets" "lanes" "LCreditfabric$Row;", .fieldLink RX4 26 "Creditfabric$Packets" "modes" "LCreditfabric$Row;", .fieldLink RX4 29 "Creditfabric$Packets" "places" "LCreditfabric$Row;", .fieldLink RX4 32 "Creditfabric$Packets" "inputs" "LCreditfabric$Row;", .fieldLink RX4 35 "Creditfabric$Packets" "hopsGone" "LCreditfabric$Row;", .fieldLink RX4 38 "Creditfabric$Packets" "marks" "LCreditfabric$Row;", .methodLink RX4 52 yX5_put, .instanceMethod yX5_put, .selects RX5 yX5_put yX5_put, .initialized RX5, .code yX5_put cX5_put 3 none, .fieldLink RX5 7 "Creditfabric$Row" "numbers" "[I"] ++ wsX40 ++ wsX50)
def wsX4_goOver : List Cond := .code yX4_goOver cX4_goOver 4 none :: ([.fieldLink RX4 29 "Creditfabric$Packets" "places" "LCreditfabric$Row;", .fieldLink RX4 32 "Creditfabric$Packets" "inputs" "LCreditfabric$Row;", .fieldLink RX4 35 "Creditfabric$Packets" "hopsGone" "LCreditfabric$Row;", .methodLink RX4 52 yX5_put, .instanceMethod yX5_put, .selects RX5 yX5_put yX5_put, .initialized RX5, .code yX5_put cX5_put 3 none, .fieldLink RX5 7 "Creditfabric$Row" "numbers" "[I", .methodLink RX4 66 yX5_add, .instanceMethod yX5_add, .selects RX5 yX5_add yX5_add, .code yX5_add cX5_add 3 none, .methodLink RX5 13 yX5_at, .instanceMethod yX5_at, .selects RX5 yX5_at yX5_at, .code yX5_at cX5_at 2 (some .int), .methodLink RX5 17 yX5_put] ++ wsX40 ++ wsX50)
def wsX4_goOut : List Cond := .code yX4_goOut cX4_goOut 2 none :: ([.fieldLink RX4 29 "Creditfabric$Packets" "places" "LCreditfabric$Row;", .fieldLink RX4 49 "Creditfabric$Packets" "gone" "I", .methodLink RX4 52 yX5_put, .instanceMethod yX5_put, .selects RX5 yX5_put yX5_put, .initialized RX5, .code yX5_put cX5_put 3 none, .fieldLink RX5 7 "Creditfabric$Row" "numbers" "[I"] ++ wsX40 ++ wsX50)
def wsX6_init : List Cond := .code yX6_init cX6_init 1 none :: ([.methodLink RX6 3 objectInit, .instanceMethod objectInit, .code objectInit ⟨#[0xb1]⟩ 1 none, .classLink RX6 9 RX5, .instantiable RX5 1, .initialized RX5, .fieldLink RX6 14 "Creditfabric$Senders" "gaps" "LCreditfabric$Row;", .fieldLink RX6 20 "Creditfabric$Senders" "lastTicks" "LCreditfabric$Row;", .methodLink RX6 11 yX5_init, .instanceMethod yX5_init, .code yX5_init cX5_init 2 none, .methodLink RX5 1 objectInit, .arrayClass .int, .fieldLink RX5 7 "Creditfabric$Row" "numbers" "[I"] ++ wsX50 ++ wsX60)
def wsX6_clear : List Cond := .code yX6_clear cX6_clear 1 none :: ([.fieldLink RX6 14 "Creditfabric$Senders" "gaps" "LCreditfabric$Row;", .fieldLink RX6 20 "Creditfabric$Senders" "lastTicks" "LCreditfabric$Row;", .methodLink RX6 23 yX5_fill, .instanceMethod yX5_fill, .selects RX5 yX5_fill yX5_fill, .initialized RX5, .code yX5_fill cX5_fill 3 none, .fieldLink RX5 7 "Creditfabric$Row" "numbers" "[I"] ++ wsX60 ++ wsX50)
def wsX6_gapOf : List Cond := .code yX6_gapOf cX6_gapOf 2 (some .int) :: ([.fieldLink RX6 14 "Creditfabric$Senders" "gaps" "LCreditfabric$Row;", .methodLink RX6 26 yX5_at, .instanceMethod yX5_at, .selects RX5 yX5_at yX5_at, .initialized RX5, .code yX5_at cX5_at 2 (some .int), .fieldLink RX5 7 "Creditfabric$Row" "numbers" "[I"] ++ wsX60 ++ wsX50)
def wsX6_isReady : List Cond := .code yX6_isReady cX6_isReady 4 (some .boolean) :: ([.fieldLink RX6 20 "Creditfabric$Senders" "lastTicks" "LCreditfabric$Row;", .fieldLink RX6 14 "Creditfabric$Senders" "gaps" "LCreditfabric$Row;", .methodLink RX6 26 yX5_at, .instanceMethod yX5_at, .selects RX5 yX5_at yX5_at, .initialized RX5, .code yX5_at cX5_at 2 (some .int), .fieldLink RX5 7 "Creditfabric$Row" "numbers" "[I"] ++ wsX60 ++ wsX50)
def wsX6_note : List Cond := .code yX6_note cX6_note 3 none :: ([.fieldLink RX6 20 "Creditfabric$Senders" "lastTicks" "LCreditfabric$Row;", .methodLink RX6 30 yX5_put, .instanceMethod yX5_put, .selects RX5 yX5_put yX5_put, .initialized RX5, .code yX5_put cX5_put 3 none, .fieldLink RX5 7 "Creditfabric$Row" "numbers" "[I"] ++ wsX60 ++ wsX50)
def wsX6_adapt : List Cond := .code yX6_adapt cX6_adapt 4 none :: ([.fieldLink RX6 14 "Creditfabric$Senders" "gaps" "LCreditfabric$Row;", .methodLink RX6 34 Lib.Math.min.name, .static Lib.Math.min.name, .initialized "java/lang/Math", .code Lib.Math.min.name Lib.Math.min.code 2 (some .int), .methodLink RX6 40 Lib.Math.max.name, .static Lib.Math.max.name, .code Lib.Math.max.name Lib.Math.max.code 2 (some .int), .methodLink RX6 26 yX5_at, .instanceMethod yX5_at, .selects RX5 yX5_at yX5_at, .initialized RX5, .code yX5_at cX5_at 2 (some .int), .fieldLink RX5 7 "Creditfabric$Row" "numbers" "[I", .methodLink RX6 30 yX5_put, .instanceMethod yX5_put, .selects RX5 yX5_put yX5_put, .code yX5_put cX5_put 3 none] ++ wsX60 ++ wsX50)
def wsX7_layAnew_r1 : List Cond := [Cond.fieldLink RX7 12 "Creditfabric" "grid" "LCreditfabric$Grid;", Cond.fieldLink RX7 21 "Creditfabric" "traffic" "LCreditfabric$Packets;", Cond.fieldLink RX7 28 "Creditfabric" "buffers" "LCreditfabric$Buffers;", Cond.fieldLink RX7 35 "Creditfabric" "purse" "LCreditfabric$Credits;", Cond.fieldLink RX7 42 "Creditfabric" "senders" "LCreditfabric$Senders;", Cond.fieldLink RX7 60 "Creditfabric" "paused" "LCreditfabric$Row;", Cond.fieldLink RX7 64 "Creditfabric" "turns" "LCreditfabric$Row;", Cond.fieldLink RX7 115 "Creditfabric" "now" "I", Cond.methodLink RX7 223 yX3_lay, Cond.instanceMethod yX3_lay, Cond.selects RX3 yX3_lay yX3_lay, Cond.initialized RX3, Cond.code yX3_lay cX3_lay 5 none, Cond.fieldLink RX3 23 "Creditfabric$Grid" "columns" "I", Cond.fieldLink RX3 27 "Creditfabric$Grid" "rows" "I", Cond.fieldLink RX3 14 "Creditfabric$Grid" "columnOf" "LCreditfabric$Row;", Cond.fieldLink RX3 20 "Creditfabric$Grid" "rowOf" "LCreditfabric$Row;", Cond.methodLink RX3 30 yX5_put, Cond.instanceMethod yX5_put, Cond.selects RX5 yX5_put yX5_put, Cond.initialized RX5, Cond.code yX5_put cX5_put 3 none, Cond.fieldLink RX5 7 "Creditfabric$Row" "numbers" "[I", Cond.methodLink RX7 226 yX4_clear]
def wsX7_layAnew_r2 : List Cond := [Cond.instanceMethod yX4_clear, Cond.selects RX4 yX4_clear yX4_clear, Cond.initialized RX4, Cond.code yX4_clear cX4_clear 1 none, Cond.fieldLink RX4 45 "Creditfabric$Packets" "count" "I", Cond.fieldLink RX4 49 "Creditfabric$Packets" "gone" "I", Cond.methodLink RX7 229 yX0_clear, Cond.instanceMethod yX0_clear, Cond.selects RX0 yX0_clear yX0_clear, Cond.initialized RX0, Cond.code yX0_clear cX0_clear 2 none, Cond.fieldLink RX0 23 "Creditfabric$Buffers" "room" "I", Cond.fieldLink RX0 20 "Creditfabric$Buffers" "sizes" "LCreditfabric$Row;", Cond.methodLink RX0 27 yX5_fill, Cond.instanceMethod yX5_fill, Cond.selects RX5 yX5_fill yX5_fill, Cond.code yX5_fill cX5_fill 3 none, Cond.methodLink RX7 231 yX2_fill, Cond.instanceMethod yX2_fill, Cond.selects RX2 yX2_fill yX2_fill, Cond.initialized RX2, Cond.code yX2_fill cX2_fill 3 none, Cond.fieldLink RX2 23 "Creditfabric$Credits" "delay" "I", Cond.fieldLink RX2 14 "Creditfabric$Credits" "there" "LCreditfabric$Row;"]
def wsX7_layAnew_r3 : List Cond := [Cond.fieldLink RX2 20 "Creditfabric$Credits" "coming" "LCreditfabric$Row;", Cond.fieldLink RX2 30 "Creditfabric$Credits" "comingInAll" "I", Cond.methodLink RX2 27 yX5_fill, Cond.methodLink RX7 234 yX6_clear, Cond.instanceMethod yX6_clear, Cond.selects RX6 yX6_clear yX6_clear, Cond.initialized RX6, Cond.code yX6_clear cX6_clear 1 none, Cond.fieldLink RX6 14 "Creditfabric$Senders" "gaps" "LCreditfabric$Row;", Cond.fieldLink RX6 20 "Creditfabric$Senders" "lastTicks" "LCreditfabric$Row;", Cond.methodLink RX6 23 yX5_fill, Cond.methodLink RX7 235 yX5_fill]
def wsX7_layAnew : List Cond := .code yX7_layAnew cX7_layAnew 5 none :: ((wsX7_layAnew_r1 ++ (wsX7_layAnew_r2 ++ wsX7_layAnew_r3)) ++ wsX70 ++ wsX30 ++ wsX50 ++ wsX40 ++ wsX00 ++ wsX20 ++ wsX60)
def wsX7_init_r1 : List Cond := [Cond.methodLink RX7 3 objectInit, Cond.instanceMethod objectInit, Cond.code objectInit ⟨#[0xb1]⟩ 1 none, Cond.classLink RX7 9 RX3, Cond.instantiable RX3 4, Cond.initialized RX3, Cond.fieldLink RX7 12 "Creditfabric" "grid" "LCreditfabric$Grid;", Cond.classLink RX7 16 RX4, Cond.instantiable RX4 11, Cond.initialized RX4, Cond.fieldLink RX7 21 "Creditfabric" "traffic" "LCreditfabric$Packets;", Cond.classLink RX7 25 RX0, Cond.instantiable RX0 3, Cond.initialized RX0, Cond.fieldLink RX7 28 "Creditfabric" "buffers" "LCreditfabric$Buffers;", Cond.classLink RX7 32 RX2, Cond.instantiable RX2 4, Cond.initialized RX2, Cond.fieldLink RX7 35 "Creditfabric" "purse" "LCreditfabric$Credits;", Cond.classLink RX7 39 RX6, Cond.instantiable RX6 2, Cond.initialized RX6, Cond.fieldLink RX7 42 "Creditfabric" "senders" "LCreditfabric$Senders;", Cond.classLink RX7 46 RX1]
def wsX7_init_r2 : List Cond := [Cond.instantiable RX1 5, Cond.initialized RX1, Cond.fieldLink RX7 51 "Creditfabric" "circles" "LCreditfabric$Circles;", Cond.classLink RX7 55 RX5, Cond.instantiable RX5 1, Cond.initialized RX5, Cond.fieldLink RX7 60 "Creditfabric" "paused" "LCreditfabric$Row;", Cond.fieldLink RX7 64 "Creditfabric" "turns" "LCreditfabric$Row;", Cond.fieldLink RX7 67 "Creditfabric" "ready" "LCreditfabric$Row;", Cond.fieldLink RX7 70 "Creditfabric" "chosen" "LCreditfabric$Row;", Cond.instanceMethod yX3_init, Cond.code yX3_init cX3_init 1 none, Cond.methodLink RX3 3 objectInit, Cond.classLink RX3 9 RX5, Cond.fieldLink RX3 14 "Creditfabric$Grid" "columnOf" "LCreditfabric$Row;", Cond.fieldLink RX3 20 "Creditfabric$Grid" "rowOf" "LCreditfabric$Row;", Cond.methodLink RX3 11 yX5_init, Cond.instanceMethod yX5_init, Cond.code yX5_init cX5_init 2 none, Cond.methodLink RX5 1 objectInit, Cond.arrayClass .int, Cond.fieldLink RX5 7 "Creditfabric$Row" "numbers" "[I", Cond.methodLink RX7 18 yX4_init, Cond.instanceMethod yX4_init]
def wsX7_init_r3 : List Cond := [Cond.code yX4_init cX4_init 2 none, Cond.methodLink RX4 3 objectInit, Cond.classLink RX4 9 RX5, Cond.fieldLink RX4 14 "Creditfabric$Packets" "sources" "LCreditfabric$Row;", Cond.fieldLink RX4 20 "Creditfabric$Packets" "goals" "LCreditfabric$Row;", Cond.fieldLink RX4 23 "Creditfabric$Packets" "lanes" "LCreditfabric$Row;", Cond.fieldLink RX4 26 "Creditfabric$Packets" "modes" "LCreditfabric$Row;", Cond.fieldLink RX4 29 "Creditfabric$Packets" "places" "LCreditfabric$Row;", Cond.fieldLink RX4 32 "Creditfabric$Packets" "inputs" "LCreditfabric$Row;", Cond.fieldLink RX4 35 "Creditfabric$Packets" "hopsGone" "LCreditfabric$Row;", Cond.fieldLink RX4 38 "Creditfabric$Packets" "marks" "LCreditfabric$Row;", Cond.fieldLink RX4 41 "Creditfabric$Packets" "grid" "LCreditfabric$Grid;", Cond.methodLink RX4 11 yX5_init, Cond.instanceMethod yX0_init, Cond.code yX0_init cX0_init 1 none, Cond.methodLink RX0 3 objectInit, Cond.classLink RX0 9 RX5, Cond.fieldLink RX0 14 "Creditfabric$Buffers" "slots" "LCreditfabric$Row;", Cond.fieldLink RX0 20 "Creditfabric$Buffers" "sizes" "LCreditfabric$Row;", Cond.methodLink RX0 11 yX5_init, Cond.instanceMethod yX2_init, Cond.code yX2_init cX2_init 1 none, Cond.methodLink RX2 3 objectInit, Cond.classLink RX2 9 RX5]
def wsX7_init_r4 : List Cond := [Cond.fieldLink RX2 14 "Creditfabric$Credits" "there" "LCreditfabric$Row;", Cond.fieldLink RX2 20 "Creditfabric$Credits" "coming" "LCreditfabric$Row;", Cond.methodLink RX2 11 yX5_init, Cond.instanceMethod yX6_init, Cond.code yX6_init cX6_init 1 none, Cond.methodLink RX6 3 objectInit, Cond.classLink RX6 9 RX5, Cond.fieldLink RX6 14 "Creditfabric$Senders" "gaps" "LCreditfabric$Row;", Cond.fieldLink RX6 20 "Creditfabric$Senders" "lastTicks" "LCreditfabric$Row;", Cond.methodLink RX6 11 yX5_init, Cond.methodLink RX7 48 yX1_init, Cond.instanceMethod yX1_init, Cond.code yX1_init cX1_init 4 none, Cond.methodLink RX1 3 objectInit, Cond.classLink RX1 9 RX5, Cond.fieldLink RX1 14 "Creditfabric$Circles" "awaited" "LCreditfabric$Row;", Cond.fieldLink RX1 20 "Creditfabric$Circles" "hangings" "LCreditfabric$Row;", Cond.fieldLink RX1 23 "Creditfabric$Circles" "grid" "LCreditfabric$Grid;", Cond.fieldLink RX1 27 "Creditfabric$Circles" "traffic" "LCreditfabric$Packets;", Cond.fieldLink RX1 31 "Creditfabric$Circles" "buffers" "LCreditfabric$Buffers;", Cond.methodLink RX1 11 yX5_init, Cond.methodLink RX7 57 yX5_init, Cond.methodLink RX7 73 yX7_layAnew, Cond.instanceMethod yX7_layAnew]
def wsX7_init_r5 : List Cond := [Cond.selects RX7 yX7_layAnew yX7_layAnew, Cond.initialized RX7, Cond.code yX7_layAnew cX7_layAnew 5 none, Cond.fieldLink RX7 115 "Creditfabric" "now" "I", Cond.methodLink RX7 223 yX3_lay, Cond.instanceMethod yX3_lay, Cond.selects RX3 yX3_lay yX3_lay, Cond.code yX3_lay cX3_lay 5 none, Cond.fieldLink RX3 23 "Creditfabric$Grid" "columns" "I", Cond.fieldLink RX3 27 "Creditfabric$Grid" "rows" "I", Cond.methodLink RX3 30 yX5_put, Cond.instanceMethod yX5_put, Cond.selects RX5 yX5_put yX5_put, Cond.code yX5_put cX5_put 3 none, Cond.methodLink RX7 226 yX4_clear, Cond.instanceMethod yX4_clear, Cond.selects RX4 yX4_clear yX4_clear, Cond.code yX4_clear cX4_clear 1 none, Cond.fieldLink RX4 45 "Creditfabric$Packets" "count" "I", Cond.fieldLink RX4 49 "Creditfabric$Packets" "gone" "I", Cond.methodLink RX7 229 yX0_clear, Cond.instanceMethod yX0_clear, Cond.selects RX0 yX0_clear yX0_clear, Cond.code yX0_clear cX0_clear 2 none]
def wsX7_init_r6 : List Cond := [Cond.fieldLink RX0 23 "Creditfabric$Buffers" "room" "I", Cond.methodLink RX0 27 yX5_fill, Cond.instanceMethod yX5_fill, Cond.selects RX5 yX5_fill yX5_fill, Cond.code yX5_fill cX5_fill 3 none, Cond.methodLink RX7 231 yX2_fill, Cond.instanceMethod yX2_fill, Cond.selects RX2 yX2_fill yX2_fill, Cond.code yX2_fill cX2_fill 3 none, Cond.fieldLink RX2 23 "Creditfabric$Credits" "delay" "I", Cond.fieldLink RX2 30 "Creditfabric$Credits" "comingInAll" "I", Cond.methodLink RX2 27 yX5_fill, Cond.methodLink RX7 234 yX6_clear, Cond.instanceMethod yX6_clear, Cond.selects RX6 yX6_clear yX6_clear, Cond.code yX6_clear cX6_clear 1 none, Cond.methodLink RX6 23 yX5_fill, Cond.methodLink RX7 235 yX5_fill]
def wsX7_init : List Cond := .code yX7_init cX7_init 1 none :: ((wsX7_init_r1 ++ (wsX7_init_r2 ++ (wsX7_init_r3 ++ (wsX7_init_r4 ++ (wsX7_init_r5 ++ wsX7_init_r6))))) ++ wsX30 ++ wsX70 ++ wsX40 ++ wsX00 ++ wsX20 ++ wsX60 ++ wsX10 ++ wsX50)
def wsX7_begin_r1 : List Cond := [Cond.classLink RX7 77 "java/lang/IllegalArgumentException", Cond.initialized "java/lang/IllegalArgumentException", Cond.fieldLink RX7 12 "Creditfabric" "grid" "LCreditfabric$Grid;", Cond.methodLink RX7 73 yX7_layAnew, Cond.instanceMethod yX7_layAnew, Cond.selects RX7 yX7_layAnew yX7_layAnew, Cond.initialized RX7, Cond.code yX7_layAnew cX7_layAnew 5 none, Cond.fieldLink RX7 21 "Creditfabric" "traffic" "LCreditfabric$Packets;", Cond.fieldLink RX7 28 "Creditfabric" "buffers" "LCreditfabric$Buffers;", Cond.fieldLink RX7 35 "Creditfabric" "purse" "LCreditfabric$Credits;", Cond.fieldLink RX7 42 "Creditfabric" "senders" "LCreditfabric$Senders;", Cond.fieldLink RX7 60 "Creditfabric" "paused" "LCreditfabric$Row;", Cond.fieldLink RX7 64 "Creditfabric" "turns" "LCreditfabric$Row;", Cond.fieldLink RX7 115 "Creditfabric" "now" "I", Cond.methodLink RX7 223 yX3_lay, Cond.instanceMethod yX3_lay, Cond.selects RX3 yX3_lay yX3_lay, Cond.initialized RX3, Cond.code yX3_lay cX3_lay 5 none, Cond.fieldLink RX3 23 "Creditfabric$Grid" "columns" "I", Cond.fieldLink RX3 27 "Creditfabric$Grid" "rows" "I", Cond.fieldLink RX3 14 "Creditfabric$Grid" "columnOf" "LCreditfabric$Row;", Cond.fieldLink RX3 20 "Creditfabric$Grid" "rowOf" "LCreditfabric$Row;"]
def wsX7_begin_r2 : List Cond := [Cond.methodLink RX3 30 yX5_put, Cond.instanceMethod yX5_put, Cond.selects RX5 yX5_put yX5_put, Cond.initialized RX5, Cond.code yX5_put cX5_put 3 none, Cond.fieldLink RX5 7 "Creditfabric$Row" "numbers" "[I", Cond.methodLink RX7 226 yX4_clear, Cond.instanceMethod yX4_clear, Cond.selects RX4 yX4_clear yX4_clear, Cond.initialized RX4, Cond.code yX4_clear cX4_clear 1 none, Cond.fieldLink RX4 45 "Creditfabric$Packets" "count" "I", Cond.fieldLink RX4 49 "Creditfabric$Packets" "gone" "I", Cond.methodLink RX7 229 yX0_clear, Cond.instanceMethod yX0_clear, Cond.selects RX0 yX0_clear yX0_clear, Cond.initialized RX0, Cond.code yX0_clear cX0_clear 2 none, Cond.fieldLink RX0 23 "Creditfabric$Buffers" "room" "I", Cond.fieldLink RX0 20 "Creditfabric$Buffers" "sizes" "LCreditfabric$Row;", Cond.methodLink RX0 27 yX5_fill, Cond.instanceMethod yX5_fill, Cond.selects RX5 yX5_fill yX5_fill, Cond.code yX5_fill cX5_fill 3 none]
def wsX7_begin_r3 : List Cond := [Cond.methodLink RX7 231 yX2_fill, Cond.instanceMethod yX2_fill, Cond.selects RX2 yX2_fill yX2_fill, Cond.initialized RX2, Cond.code yX2_fill cX2_fill 3 none, Cond.fieldLink RX2 23 "Creditfabric$Credits" "delay" "I", Cond.fieldLink RX2 14 "Creditfabric$Credits" "there" "LCreditfabric$Row;", Cond.fieldLink RX2 20 "Creditfabric$Credits" "coming" "LCreditfabric$Row;", Cond.fieldLink RX2 30 "Creditfabric$Credits" "comingInAll" "I", Cond.methodLink RX2 27 yX5_fill, Cond.methodLink RX7 234 yX6_clear, Cond.instanceMethod yX6_clear, Cond.selects RX6 yX6_clear yX6_clear, Cond.initialized RX6, Cond.code yX6_clear cX6_clear 1 none, Cond.fieldLink RX6 14 "Creditfabric$Senders" "gaps" "LCreditfabric$Row;", Cond.fieldLink RX6 20 "Creditfabric$Senders" "lastTicks" "LCreditfabric$Row;", Cond.methodLink RX6 23 yX5_fill, Cond.methodLink RX7 235 yX5_fill, Cond.methodLink RX7 88 yX3_size, Cond.instanceMethod yX3_size, Cond.selects RX3 yX3_size yX3_size, Cond.code yX3_size cX3_size 1 (some .int)]
def wsX7_begin : List Cond := .code yX7_begin cX7_begin 5 (some .int) :: ((wsX7_begin_r1 ++ (wsX7_begin_r2 ++ wsX7_begin_r3)) ++ wsX70 ++ wsX30 ++ wsX50 ++ wsX40 ++ wsX00 ++ wsX20 ++ wsX60 ++ (vx_atS RX7 81 "java/lang/IllegalArgumentException" ["java/lang/RuntimeException", "java/lang/Exception"]).filter goodWord)
def wsX7_checkSwitch : List Cond := .code yX7_checkSwitch cX7_checkSwitch 2 none :: ([.classLink RX7 209 "java/lang/IndexOutOfBoundsException", .initialized "java/lang/IndexOutOfBoundsException", .fieldLink RX7 12 "Creditfabric" "grid" "LCreditfabric$Grid;", .methodLink RX7 206 yX3_has, .instanceMethod yX3_has, .selects RX3 yX3_has yX3_has, .initialized RX3, .code yX3_has cX3_has 2 (some .boolean), .methodLink RX3 34 yX3_size, .instanceMethod yX3_size, .selects RX3 yX3_size yX3_size, .code yX3_size cX3_size 1 (some .int), .fieldLink RX3 23 "Creditfabric$Grid" "columns" "I", .fieldLink RX3 27 "Creditfabric$Grid" "rows" "I"] ++ wsX70 ++ wsX30 ++ (vx_atS RX7 213 "java/lang/IndexOutOfBoundsException" ["java/lang/RuntimeException", "java/lang/Exception"]).filter goodWord)
def wsX7_checkLane : List Cond := .code yX7_checkLane cX7_checkLane 1 none :: ([.classLink RX7 77 "java/lang/IllegalArgumentException", .initialized "java/lang/IllegalArgumentException"] ++ (vx_atS RX7 81 "java/lang/IllegalArgumentException" ["java/lang/RuntimeException", "java/lang/Exception"]).filter goodWord)
def wsX7_send_r1 : List Cond := [Cond.classLink RX7 77 "java/lang/IllegalArgumentException", Cond.initialized "java/lang/IllegalArgumentException", Cond.classLink RX7 110 "java/lang/IllegalStateException", Cond.initialized "java/lang/IllegalStateException", Cond.fieldLink RX7 28 "Creditfabric" "buffers" "LCreditfabric$Buffers;", Cond.fieldLink RX7 42 "Creditfabric" "senders" "LCreditfabric$Senders;", Cond.fieldLink RX7 115 "Creditfabric" "now" "I", Cond.fieldLink RX7 21 "Creditfabric" "traffic" "LCreditfabric$Packets;", Cond.methodLink RX7 92 yX7_checkSwitch, Cond.instanceMethod yX7_checkSwitch, Cond.selects RX7 yX7_checkSwitch yX7_checkSwitch, Cond.initialized RX7, Cond.code yX7_checkSwitch cX7_checkSwitch 2 none, Cond.classLink RX7 209 "java/lang/IndexOutOfBoundsException", Cond.initialized "java/lang/IndexOutOfBoundsException", Cond.fieldLink RX7 12 "Creditfabric" "grid" "LCreditfabric$Grid;", Cond.methodLink RX7 206 yX3_has, Cond.instanceMethod yX3_has, Cond.selects RX3 yX3_has yX3_has, Cond.initialized RX3, Cond.code yX3_has cX3_has 2 (some .boolean), Cond.methodLink RX3 34 yX3_size, Cond.instanceMethod yX3_size, Cond.selects RX3 yX3_size yX3_size]
def wsX7_send_r2 : List Cond := [Cond.code yX3_size cX3_size 1 (some .int), Cond.fieldLink RX3 23 "Creditfabric$Grid" "columns" "I", Cond.fieldLink RX3 27 "Creditfabric$Grid" "rows" "I", Cond.methodLink RX7 97 yX7_checkLane, Cond.static yX7_checkLane, Cond.code yX7_checkLane cX7_checkLane 1 none, Cond.methodLink RX7 102 yX7_bufferOf, Cond.static yX7_bufferOf, Cond.code yX7_bufferOf cX7_bufferOf 3 (some .int), Cond.methodLink RX7 106 yX0_isFull, Cond.instanceMethod yX0_isFull, Cond.selects RX0 yX0_isFull yX0_isFull, Cond.initialized RX0, Cond.code yX0_isFull cX0_isFull 2 (some .boolean), Cond.fieldLink RX0 20 "Creditfabric$Buffers" "sizes" "LCreditfabric$Row;", Cond.fieldLink RX0 23 "Creditfabric$Buffers" "room" "I", Cond.methodLink RX0 30 yX5_at, Cond.instanceMethod yX5_at, Cond.selects RX5 yX5_at yX5_at, Cond.initialized RX5, Cond.code yX5_at cX5_at 2 (some .int), Cond.fieldLink RX5 7 "Creditfabric$Row" "numbers" "[I", Cond.methodLink RX7 119 yX6_isReady, Cond.instanceMethod yX6_isReady]
def wsX7_send_r3 : List Cond := [Cond.selects RX6 yX6_isReady yX6_isReady, Cond.initialized RX6, Cond.code yX6_isReady cX6_isReady 4 (some .boolean), Cond.fieldLink RX6 20 "Creditfabric$Senders" "lastTicks" "LCreditfabric$Row;", Cond.fieldLink RX6 14 "Creditfabric$Senders" "gaps" "LCreditfabric$Row;", Cond.methodLink RX6 26 yX5_at, Cond.methodLink RX7 130 yX4_add, Cond.instanceMethod yX4_add, Cond.selects RX4 yX4_add yX4_add, Cond.initialized RX4, Cond.code yX4_add cX4_add 6 (some .int), Cond.fieldLink RX4 45 "Creditfabric$Packets" "count" "I", Cond.fieldLink RX4 14 "Creditfabric$Packets" "sources" "LCreditfabric$Row;", Cond.fieldLink RX4 20 "Creditfabric$Packets" "goals" "LCreditfabric$Row;", Cond.fieldLink RX4 23 "Creditfabric$Packets" "lanes" "LCreditfabric$Row;", Cond.fieldLink RX4 26 "Creditfabric$Packets" "modes" "LCreditfabric$Row;", Cond.fieldLink RX4 29 "Creditfabric$Packets" "places" "LCreditfabric$Row;", Cond.fieldLink RX4 32 "Creditfabric$Packets" "inputs" "LCreditfabric$Row;", Cond.fieldLink RX4 35 "Creditfabric$Packets" "hopsGone" "LCreditfabric$Row;", Cond.fieldLink RX4 38 "Creditfabric$Packets" "marks" "LCreditfabric$Row;", Cond.methodLink RX4 52 yX5_put, Cond.instanceMethod yX5_put, Cond.selects RX5 yX5_put yX5_put, Cond.code yX5_put cX5_put 3 none]
def wsX7_send_r4 : List Cond := [Cond.methodLink RX7 134 yX0_append, Cond.instanceMethod yX0_append, Cond.selects RX0 yX0_append yX0_append, Cond.code yX0_append cX0_append 3 none, Cond.fieldLink RX0 14 "Creditfabric$Buffers" "slots" "LCreditfabric$Row;", Cond.methodLink RX0 34 yX0_isFull, Cond.methodLink RX0 38 yX5_put, Cond.methodLink RX0 42 yX5_add, Cond.instanceMethod yX5_add, Cond.selects RX5 yX5_add yX5_add, Cond.code yX5_add cX5_add 3 none, Cond.methodLink RX5 13 yX5_at, Cond.methodLink RX5 17 yX5_put, Cond.methodLink RX7 138 yX6_note, Cond.instanceMethod yX6_note, Cond.selects RX6 yX6_note yX6_note, Cond.code yX6_note cX6_note 3 none, Cond.methodLink RX6 30 yX5_put]
def wsX7_send : List Cond := .code yX7_send cX7_send 7 (some .int) :: ((wsX7_send_r1 ++ (wsX7_send_r2 ++ (wsX7_send_r3 ++ wsX7_send_r4))) ++ wsX70 ++ wsX40 ++ wsX30 ++ wsX00 ++ wsX50 ++ wsX60 ++ (vx_atS RX7 81 "java/lang/IllegalArgumentException" ["java/lang/RuntimeException", "java/lang/Exception"]).filter goodWord ++ (vx_atS RX7 114 "java/lang/IllegalStateException" ["java/lang/RuntimeException", "java/lang/Exception"]).filter goodWord ++ (vx_atS RX7 213 "java/lang/IndexOutOfBoundsException" ["java/lang/RuntimeException", "java/lang/Exception"]).filter goodWord)
def wsX7_canGo_r1 : List Cond := [Cond.fieldLink RX7 12 "Creditfabric" "grid" "LCreditfabric$Grid;", Cond.fieldLink RX7 60 "Creditfabric" "paused" "LCreditfabric$Row;", Cond.fieldLink RX7 35 "Creditfabric" "purse" "LCreditfabric$Credits;", Cond.methodLink RX7 214 yX3_behind, Cond.instanceMethod yX3_behind, Cond.selects RX3 yX3_behind yX3_behind, Cond.initialized RX3, Cond.code yX3_behind cX3_behind 3 (some .int), Cond.fieldLink RX3 14 "Creditfabric$Grid" "columnOf" "LCreditfabric$Row;", Cond.fieldLink RX3 23 "Creditfabric$Grid" "columns" "I", Cond.fieldLink RX3 20 "Creditfabric$Grid" "rowOf" "LCreditfabric$Row;", Cond.fieldLink RX3 27 "Creditfabric$Grid" "rows" "I", Cond.methodLink RX3 38 yX5_at, Cond.instanceMethod yX5_at, Cond.selects RX5 yX5_at yX5_at, Cond.initialized RX5, Cond.code yX5_at cX5_at 2 (some .int), Cond.fieldLink RX5 7 "Creditfabric$Row" "numbers" "[I", Cond.methodLink RX7 149 yX5_at, Cond.methodLink RX7 102 yX7_bufferOf, Cond.static yX7_bufferOf, Cond.initialized RX7, Cond.code yX7_bufferOf cX7_bufferOf 3 (some .int), Cond.methodLink RX7 162 yX2_there]
def wsX7_canGo_r2 : List Cond := [Cond.instanceMethod yX2_there, Cond.selects RX2 yX2_there yX2_there, Cond.initialized RX2, Cond.code yX2_there cX2_there 2 (some .int), Cond.fieldLink RX2 14 "Creditfabric$Credits" "there" "LCreditfabric$Row;", Cond.methodLink RX2 33 yX5_at]
def wsX7_canGo : List Cond := .code yX7_canGo cX7_canGo 5 (some .boolean) :: ((wsX7_canGo_r1 ++ wsX7_canGo_r2) ++ wsX70 ++ wsX30 ++ wsX50 ++ wsX20)
def wsX7_takeTurn : List Cond := .code yX7_takeTurn cX7_takeTurn 8 none :: ([.fieldLink RX7 64 "Creditfabric" "turns" "LCreditfabric$Row;", .fieldLink RX7 70 "Creditfabric" "chosen" "LCreditfabric$Row;", .fieldLink RX7 240 "Creditfabric" "chosenCount" "I", .fieldLink RX7 28 "Creditfabric" "buffers" "LCreditfabric$Buffers;", .methodLink RX7 149 yX5_at, .instanceMethod yX5_at, .selects RX5 yX5_at yX5_at, .initialized RX5, .code yX5_at cX5_at 2 (some .int), .fieldLink RX5 7 "Creditfabric$Row" "numbers" "[I", .methodLink RX7 252 yX0_first, .instanceMethod yX0_first, .selects RX0 yX0_first yX0_first, .initialized RX0, .code yX0_first cX0_first 2 (some .int), .fieldLink RX0 20 "Creditfabric$Buffers" "sizes" "LCreditfabric$Row;", .fieldLink RX0 14 "Creditfabric$Buffers" "slots" "LCreditfabric$Row;", .methodLink RX0 30 yX5_at, .methodLink RX7 153 yX5_put, .instanceMethod yX5_put, .selects RX5 yX5_put yX5_put, .code yX5_put cX5_put 3 none] ++ wsX70 ++ wsX50 ++ wsX00)
def wsX7_chooseAt_r1 : List Cond := [Cond.fieldLink RX7 67 "Creditfabric" "ready" "LCreditfabric$Row;", Cond.fieldLink RX7 28 "Creditfabric" "buffers" "LCreditfabric$Buffers;", Cond.fieldLink RX7 21 "Creditfabric" "traffic" "LCreditfabric$Packets;", Cond.methodLink RX7 235 yX5_fill, Cond.instanceMethod yX5_fill, Cond.selects RX5 yX5_fill yX5_fill, Cond.initialized RX5, Cond.code yX5_fill cX5_fill 3 none, Cond.fieldLink RX5 7 "Creditfabric$Row" "numbers" "[I", Cond.methodLink RX7 252 yX0_first, Cond.instanceMethod yX0_first, Cond.selects RX0 yX0_first yX0_first, Cond.initialized RX0, Cond.code yX0_first cX0_first 2 (some .int), Cond.fieldLink RX0 20 "Creditfabric$Buffers" "sizes" "LCreditfabric$Row;", Cond.fieldLink RX0 14 "Creditfabric$Buffers" "slots" "LCreditfabric$Row;", Cond.methodLink RX0 30 yX5_at, Cond.instanceMethod yX5_at, Cond.selects RX5 yX5_at yX5_at, Cond.code yX5_at cX5_at 2 (some .int), Cond.methodLink RX7 196 yX4_outputOf, Cond.instanceMethod yX4_outputOf, Cond.selects RX4 yX4_outputOf yX4_outputOf, Cond.initialized RX4]
def wsX7_chooseAt_r2 : List Cond := [Cond.code yX4_outputOf cX4_outputOf 3 (some .int), Cond.fieldLink RX4 29 "Creditfabric$Packets" "places" "LCreditfabric$Row;", Cond.fieldLink RX4 41 "Creditfabric$Packets" "grid" "LCreditfabric$Grid;", Cond.fieldLink RX4 20 "Creditfabric$Packets" "goals" "LCreditfabric$Row;", Cond.fieldLink RX4 26 "Creditfabric$Packets" "modes" "LCreditfabric$Row;", Cond.methodLink RX4 56 yX5_at, Cond.methodLink RX4 60 yX3_outputTowards, Cond.instanceMethod yX3_outputTowards, Cond.selects RX3 yX3_outputTowards yX3_outputTowards, Cond.initialized RX3, Cond.code yX3_outputTowards cX3_outputTowards 6 (some .int), Cond.fieldLink RX3 14 "Creditfabric$Grid" "columnOf" "LCreditfabric$Row;", Cond.fieldLink RX3 20 "Creditfabric$Grid" "rowOf" "LCreditfabric$Row;", Cond.methodLink RX3 38 yX5_at, Cond.methodLink RX3 42 yX3_stepTowards, Cond.static yX3_stepTowards, Cond.code yX3_stepTowards cX3_stepTowards 4 (some .int), Cond.methodLink RX7 149 yX5_at, Cond.methodLink RX7 258 yX7_canGo, Cond.instanceMethod yX7_canGo, Cond.selects RX7 yX7_canGo yX7_canGo, Cond.initialized RX7, Cond.code yX7_canGo cX7_canGo 5 (some .boolean), Cond.fieldLink RX7 12 "Creditfabric" "grid" "LCreditfabric$Grid;"]
def wsX7_chooseAt_r3 : List Cond := [Cond.fieldLink RX7 60 "Creditfabric" "paused" "LCreditfabric$Row;", Cond.fieldLink RX7 35 "Creditfabric" "purse" "LCreditfabric$Credits;", Cond.methodLink RX7 214 yX3_behind, Cond.instanceMethod yX3_behind, Cond.selects RX3 yX3_behind yX3_behind, Cond.code yX3_behind cX3_behind 3 (some .int), Cond.fieldLink RX3 23 "Creditfabric$Grid" "columns" "I", Cond.fieldLink RX3 27 "Creditfabric$Grid" "rows" "I", Cond.methodLink RX7 102 yX7_bufferOf, Cond.static yX7_bufferOf, Cond.code yX7_bufferOf cX7_bufferOf 3 (some .int), Cond.methodLink RX7 162 yX2_there, Cond.instanceMethod yX2_there, Cond.selects RX2 yX2_there yX2_there, Cond.initialized RX2, Cond.code yX2_there cX2_there 2 (some .int), Cond.fieldLink RX2 14 "Creditfabric$Credits" "there" "LCreditfabric$Row;", Cond.methodLink RX2 33 yX5_at, Cond.methodLink RX7 153 yX5_put, Cond.instanceMethod yX5_put, Cond.selects RX5 yX5_put yX5_put, Cond.code yX5_put cX5_put 3 none, Cond.methodLink RX7 262 yX7_takeTurn, Cond.instanceMethod yX7_takeTurn]
def wsX7_chooseAt_r4 : List Cond := [Cond.selects RX7 yX7_takeTurn yX7_takeTurn, Cond.code yX7_takeTurn cX7_takeTurn 8 none, Cond.fieldLink RX7 64 "Creditfabric" "turns" "LCreditfabric$Row;", Cond.fieldLink RX7 70 "Creditfabric" "chosen" "LCreditfabric$Row;", Cond.fieldLink RX7 240 "Creditfabric" "chosenCount" "I"]
def wsX7_chooseAt : List Cond := .code yX7_chooseAt cX7_chooseAt 5 none :: ((wsX7_chooseAt_r1 ++ (wsX7_chooseAt_r2 ++ (wsX7_chooseAt_r3 ++ wsX7_chooseAt_r4))) ++ wsX70 ++ wsX40 ++ wsX50 ++ wsX00 ++ wsX30 ++ wsX20)
def wsX7_move_r1 : List Cond := [Cond.fieldLink RX7 21 "Creditfabric" "traffic" "LCreditfabric$Packets;", Cond.fieldLink RX7 28 "Creditfabric" "buffers" "LCreditfabric$Buffers;", Cond.fieldLink RX7 35 "Creditfabric" "purse" "LCreditfabric$Credits;", Cond.fieldLink RX7 115 "Creditfabric" "now" "I", Cond.fieldLink RX7 42 "Creditfabric" "senders" "LCreditfabric$Senders;", Cond.fieldLink RX7 12 "Creditfabric" "grid" "LCreditfabric$Grid;", Cond.methodLink RX7 196 yX4_outputOf, Cond.instanceMethod yX4_outputOf, Cond.selects RX4 yX4_outputOf yX4_outputOf, Cond.initialized RX4, Cond.code yX4_outputOf cX4_outputOf 3 (some .int), Cond.fieldLink RX4 29 "Creditfabric$Packets" "places" "LCreditfabric$Row;", Cond.fieldLink RX4 41 "Creditfabric$Packets" "grid" "LCreditfabric$Grid;", Cond.fieldLink RX4 20 "Creditfabric$Packets" "goals" "LCreditfabric$Row;", Cond.fieldLink RX4 26 "Creditfabric$Packets" "modes" "LCreditfabric$Row;", Cond.methodLink RX4 56 yX5_at, Cond.instanceMethod yX5_at, Cond.selects RX5 yX5_at yX5_at, Cond.initialized RX5, Cond.code yX5_at cX5_at 2 (some .int), Cond.fieldLink RX5 7 "Creditfabric$Row" "numbers" "[I", Cond.methodLink RX4 60 yX3_outputTowards, Cond.instanceMethod yX3_outputTowards, Cond.selects RX3 yX3_outputTowards yX3_outputTowards]
def wsX7_move_r2 : List Cond := [Cond.initialized RX3, Cond.code yX3_outputTowards cX3_outputTowards 6 (some .int), Cond.fieldLink RX3 14 "Creditfabric$Grid" "columnOf" "LCreditfabric$Row;", Cond.fieldLink RX3 20 "Creditfabric$Grid" "rowOf" "LCreditfabric$Row;", Cond.methodLink RX3 38 yX5_at, Cond.methodLink RX3 42 yX3_stepTowards, Cond.static yX3_stepTowards, Cond.code yX3_stepTowards cX3_stepTowards 4 (some .int), Cond.methodLink RX7 149 yX5_at, Cond.methodLink RX7 102 yX7_bufferOf, Cond.static yX7_bufferOf, Cond.initialized RX7, Cond.code yX7_bufferOf cX7_bufferOf 3 (some .int), Cond.methodLink RX7 269 yX0_removeFirst, Cond.instanceMethod yX0_removeFirst, Cond.selects RX0 yX0_removeFirst yX0_removeFirst, Cond.initialized RX0, Cond.code yX0_removeFirst cX0_removeFirst 4 none, Cond.fieldLink RX0 20 "Creditfabric$Buffers" "sizes" "LCreditfabric$Row;", Cond.fieldLink RX0 14 "Creditfabric$Buffers" "slots" "LCreditfabric$Row;", Cond.methodLink RX0 30 yX5_at, Cond.methodLink RX0 38 yX5_put, Cond.instanceMethod yX5_put, Cond.selects RX5 yX5_put yX5_put]
def wsX7_move_r3 : List Cond := [Cond.code yX5_put cX5_put 3 none, Cond.methodLink RX0 42 yX5_add, Cond.instanceMethod yX5_add, Cond.selects RX5 yX5_add yX5_add, Cond.code yX5_add cX5_add 3 none, Cond.methodLink RX5 13 yX5_at, Cond.methodLink RX5 17 yX5_put, Cond.methodLink RX7 272 yX2_giveBack, Cond.instanceMethod yX2_giveBack, Cond.selects RX2 yX2_giveBack yX2_giveBack, Cond.initialized RX2, Cond.code yX2_giveBack cX2_giveBack 3 none, Cond.fieldLink RX2 20 "Creditfabric$Credits" "coming" "LCreditfabric$Row;", Cond.fieldLink RX2 23 "Creditfabric$Credits" "delay" "I", Cond.fieldLink RX2 30 "Creditfabric$Credits" "comingInAll" "I", Cond.methodLink RX2 41 yX2_slotOf, Cond.static yX2_slotOf, Cond.code yX2_slotOf cX2_slotOf 2 (some .int), Cond.methodLink RX2 37 yX5_add, Cond.methodLink RX7 275 yX4_goOut, Cond.instanceMethod yX4_goOut, Cond.selects RX4 yX4_goOut yX4_goOut, Cond.code yX4_goOut cX4_goOut 2 none, Cond.fieldLink RX4 49 "Creditfabric$Packets" "gone" "I"]
def wsX7_move_r4 : List Cond := [Cond.methodLink RX4 52 yX5_put, Cond.methodLink RX7 281 yX6_adapt, Cond.instanceMethod yX6_adapt, Cond.selects RX6 yX6_adapt yX6_adapt, Cond.initialized RX6, Cond.code yX6_adapt cX6_adapt 4 none, Cond.fieldLink RX6 14 "Creditfabric$Senders" "gaps" "LCreditfabric$Row;", Cond.methodLink RX6 34 Lib.Math.min.name, Cond.static Lib.Math.min.name, Cond.initialized "java/lang/Math", Cond.code Lib.Math.min.name Lib.Math.min.code 2 (some .int), Cond.methodLink RX6 40 Lib.Math.max.name, Cond.static Lib.Math.max.name, Cond.code Lib.Math.max.name Lib.Math.max.code 2 (some .int), Cond.methodLink RX6 26 yX5_at, Cond.methodLink RX6 30 yX5_put, Cond.methodLink RX7 214 yX3_behind, Cond.instanceMethod yX3_behind, Cond.selects RX3 yX3_behind yX3_behind, Cond.code yX3_behind cX3_behind 3 (some .int), Cond.fieldLink RX3 23 "Creditfabric$Grid" "columns" "I", Cond.fieldLink RX3 27 "Creditfabric$Grid" "rows" "I", Cond.methodLink RX7 167 yX2_take, Cond.instanceMethod yX2_take]
def wsX7_move_r5 : List Cond := [Cond.selects RX2 yX2_take yX2_take, Cond.code yX2_take cX2_take 2 none, Cond.fieldLink RX2 14 "Creditfabric$Credits" "there" "LCreditfabric$Row;", Cond.methodLink RX7 134 yX0_append, Cond.instanceMethod yX0_append, Cond.selects RX0 yX0_append yX0_append, Cond.code yX0_append cX0_append 3 none, Cond.methodLink RX0 34 yX0_isFull, Cond.instanceMethod yX0_isFull, Cond.selects RX0 yX0_isFull yX0_isFull, Cond.code yX0_isFull cX0_isFull 2 (some .boolean), Cond.fieldLink RX0 23 "Creditfabric$Buffers" "room" "I", Cond.methodLink RX7 285 yX4_goOver, Cond.instanceMethod yX4_goOver, Cond.selects RX4 yX4_goOver yX4_goOver, Cond.code yX4_goOver cX4_goOver 4 none, Cond.fieldLink RX4 32 "Creditfabric$Packets" "inputs" "LCreditfabric$Row;", Cond.fieldLink RX4 35 "Creditfabric$Packets" "hopsGone" "LCreditfabric$Row;", Cond.methodLink RX4 66 yX5_add]
def wsX7_move : List Cond := .code yX7_move cX7_move 7 none :: ((wsX7_move_r1 ++ (wsX7_move_r2 ++ (wsX7_move_r3 ++ (wsX7_move_r4 ++ wsX7_move_r5)))) ++ wsX70 ++ wsX40 ++ wsX50 ++ wsX30 ++ wsX00 ++ wsX20 ++ wsX60)
def wsX7_markInCrowd : List Cond := .code yX7_markInCrowd cX7_markInCrowd 3 none :: ([.fieldLink RX7 21 "Creditfabric" "traffic" "LCreditfabric$Packets;", .fieldLink RX7 28 "Creditfabric" "buffers" "LCreditfabric$Buffers;", .methodLink RX7 149 yX5_at, .instanceMethod yX5_at, .selects RX5 yX5_at yX5_at, .initialized RX5, .code yX5_at cX5_at 2 (some .int), .fieldLink RX5 7 "Creditfabric$Row" "numbers" "[I", .methodLink RX7 288 yX0_load, .instanceMethod yX0_load, .selects RX0 yX0_load yX0_load, .initialized RX0, .code yX0_load cX0_load 4 (some .int), .fieldLink RX0 20 "Creditfabric$Buffers" "sizes" "LCreditfabric$Row;", .methodLink RX0 30 yX5_at, .methodLink RX7 153 yX5_put, .instanceMethod yX5_put, .selects RX5 yX5_put yX5_put, .code yX5_put cX5_put 3 none] ++ wsX70 ++ wsX40 ++ wsX50 ++ wsX00)
def wsX7_runOne_r1 : List Cond := [Cond.fieldLink RX7 35 "Creditfabric" "purse" "LCreditfabric$Credits;", Cond.fieldLink RX7 115 "Creditfabric" "now" "I", Cond.fieldLink RX7 240 "Creditfabric" "chosenCount" "I", Cond.fieldLink RX7 12 "Creditfabric" "grid" "LCreditfabric$Grid;", Cond.fieldLink RX7 70 "Creditfabric" "chosen" "LCreditfabric$Row;", Cond.methodLink RX7 237 yX2_comeBack, Cond.instanceMethod yX2_comeBack, Cond.selects RX2 yX2_comeBack yX2_comeBack, Cond.initialized RX2, Cond.code yX2_comeBack cX2_comeBack 5 none, Cond.fieldLink RX2 30 "Creditfabric$Credits" "comingInAll" "I", Cond.fieldLink RX2 20 "Creditfabric$Credits" "coming" "LCreditfabric$Row;", Cond.fieldLink RX2 14 "Creditfabric$Credits" "there" "LCreditfabric$Row;", Cond.methodLink RX2 41 yX2_slotOf, Cond.static yX2_slotOf, Cond.code yX2_slotOf cX2_slotOf 2 (some .int), Cond.methodLink RX2 33 yX5_at, Cond.instanceMethod yX5_at, Cond.selects RX5 yX5_at yX5_at, Cond.initialized RX5, Cond.code yX5_at cX5_at 2 (some .int), Cond.fieldLink RX5 7 "Creditfabric$Row" "numbers" "[I", Cond.methodLink RX2 37 yX5_add, Cond.instanceMethod yX5_add]
def wsX7_runOne_r2 : List Cond := [Cond.selects RX5 yX5_add yX5_add, Cond.code yX5_add cX5_add 3 none, Cond.methodLink RX5 13 yX5_at, Cond.methodLink RX5 17 yX5_put, Cond.instanceMethod yX5_put, Cond.selects RX5 yX5_put yX5_put, Cond.code yX5_put cX5_put 3 none, Cond.methodLink RX2 45 yX5_put, Cond.methodLink RX7 88 yX3_size, Cond.instanceMethod yX3_size, Cond.selects RX3 yX3_size yX3_size, Cond.initialized RX3, Cond.code yX3_size cX3_size 1 (some .int), Cond.fieldLink RX3 23 "Creditfabric$Grid" "columns" "I", Cond.fieldLink RX3 27 "Creditfabric$Grid" "rows" "I", Cond.methodLink RX7 243 yX7_chooseAt, Cond.instanceMethod yX7_chooseAt, Cond.selects RX7 yX7_chooseAt yX7_chooseAt, Cond.initialized RX7, Cond.code yX7_chooseAt cX7_chooseAt 5 none, Cond.fieldLink RX7 67 "Creditfabric" "ready" "LCreditfabric$Row;", Cond.fieldLink RX7 28 "Creditfabric" "buffers" "LCreditfabric$Buffers;", Cond.fieldLink RX7 21 "Creditfabric" "traffic" "LCreditfabric$Packets;", Cond.methodLink RX7 235 yX5_fill]
def wsX7_runOne_r3 : List Cond := [Cond.instanceMethod yX5_fill, Cond.selects RX5 yX5_fill yX5_fill, Cond.code yX5_fill cX5_fill 3 none, Cond.methodLink RX7 252 yX0_first, Cond.instanceMethod yX0_first, Cond.selects RX0 yX0_first yX0_first, Cond.initialized RX0, Cond.code yX0_first cX0_first 2 (some .int), Cond.fieldLink RX0 20 "Creditfabric$Buffers" "sizes" "LCreditfabric$Row;", Cond.fieldLink RX0 14 "Creditfabric$Buffers" "slots" "LCreditfabric$Row;", Cond.methodLink RX0 30 yX5_at, Cond.methodLink RX7 196 yX4_outputOf, Cond.instanceMethod yX4_outputOf, Cond.selects RX4 yX4_outputOf yX4_outputOf, Cond.initialized RX4, Cond.code yX4_outputOf cX4_outputOf 3 (some .int), Cond.fieldLink RX4 29 "Creditfabric$Packets" "places" "LCreditfabric$Row;", Cond.fieldLink RX4 41 "Creditfabric$Packets" "grid" "LCreditfabric$Grid;", Cond.fieldLink RX4 20 "Creditfabric$Packets" "goals" "LCreditfabric$Row;", Cond.fieldLink RX4 26 "Creditfabric$Packets" "modes" "LCreditfabric$Row;", Cond.methodLink RX4 56 yX5_at, Cond.methodLink RX4 60 yX3_outputTowards, Cond.instanceMethod yX3_outputTowards, Cond.selects RX3 yX3_outputTowards yX3_outputTowards]
def wsX7_runOne_r4 : List Cond := [Cond.code yX3_outputTowards cX3_outputTowards 6 (some .int), Cond.fieldLink RX3 14 "Creditfabric$Grid" "columnOf" "LCreditfabric$Row;", Cond.fieldLink RX3 20 "Creditfabric$Grid" "rowOf" "LCreditfabric$Row;", Cond.methodLink RX3 38 yX5_at, Cond.methodLink RX3 42 yX3_stepTowards, Cond.static yX3_stepTowards, Cond.code yX3_stepTowards cX3_stepTowards 4 (some .int), Cond.methodLink RX7 149 yX5_at, Cond.methodLink RX7 258 yX7_canGo, Cond.instanceMethod yX7_canGo, Cond.selects RX7 yX7_canGo yX7_canGo, Cond.code yX7_canGo cX7_canGo 5 (some .boolean), Cond.fieldLink RX7 60 "Creditfabric" "paused" "LCreditfabric$Row;", Cond.methodLink RX7 214 yX3_behind, Cond.instanceMethod yX3_behind, Cond.selects RX3 yX3_behind yX3_behind, Cond.code yX3_behind cX3_behind 3 (some .int), Cond.methodLink RX7 102 yX7_bufferOf, Cond.static yX7_bufferOf, Cond.code yX7_bufferOf cX7_bufferOf 3 (some .int), Cond.methodLink RX7 162 yX2_there, Cond.instanceMethod yX2_there, Cond.selects RX2 yX2_there yX2_there, Cond.code yX2_there cX2_there 2 (some .int)]
def wsX7_runOne_r5 : List Cond := [Cond.methodLink RX7 153 yX5_put, Cond.methodLink RX7 262 yX7_takeTurn, Cond.instanceMethod yX7_takeTurn, Cond.selects RX7 yX7_takeTurn yX7_takeTurn, Cond.code yX7_takeTurn cX7_takeTurn 8 none, Cond.fieldLink RX7 64 "Creditfabric" "turns" "LCreditfabric$Row;", Cond.methodLink RX7 246 yX7_move, Cond.instanceMethod yX7_move, Cond.selects RX7 yX7_move yX7_move, Cond.code yX7_move cX7_move 7 none, Cond.fieldLink RX7 42 "Creditfabric" "senders" "LCreditfabric$Senders;", Cond.methodLink RX7 269 yX0_removeFirst, Cond.instanceMethod yX0_removeFirst, Cond.selects RX0 yX0_removeFirst yX0_removeFirst, Cond.code yX0_removeFirst cX0_removeFirst 4 none, Cond.methodLink RX0 38 yX5_put, Cond.methodLink RX0 42 yX5_add, Cond.methodLink RX7 272 yX2_giveBack, Cond.instanceMethod yX2_giveBack, Cond.selects RX2 yX2_giveBack yX2_giveBack, Cond.code yX2_giveBack cX2_giveBack 3 none, Cond.fieldLink RX2 23 "Creditfabric$Credits" "delay" "I", Cond.methodLink RX7 275 yX4_goOut, Cond.instanceMethod yX4_goOut]
def wsX7_runOne_r6 : List Cond := [Cond.selects RX4 yX4_goOut yX4_goOut, Cond.code yX4_goOut cX4_goOut 2 none, Cond.fieldLink RX4 49 "Creditfabric$Packets" "gone" "I", Cond.methodLink RX4 52 yX5_put, Cond.methodLink RX7 281 yX6_adapt, Cond.instanceMethod yX6_adapt, Cond.selects RX6 yX6_adapt yX6_adapt, Cond.initialized RX6, Cond.code yX6_adapt cX6_adapt 4 none, Cond.fieldLink RX6 14 "Creditfabric$Senders" "gaps" "LCreditfabric$Row;", Cond.methodLink RX6 34 Lib.Math.min.name, Cond.static Lib.Math.min.name, Cond.initialized "java/lang/Math", Cond.code Lib.Math.min.name Lib.Math.min.code 2 (some .int), Cond.methodLink RX6 40 Lib.Math.max.name, Cond.static Lib.Math.max.name, Cond.code Lib.Math.max.name Lib.Math.max.code 2 (some .int), Cond.methodLink RX6 26 yX5_at, Cond.methodLink RX6 30 yX5_put, Cond.methodLink RX7 167 yX2_take, Cond.instanceMethod yX2_take, Cond.selects RX2 yX2_take yX2_take, Cond.code yX2_take cX2_take 2 none, Cond.methodLink RX7 134 yX0_append]
def wsX7_runOne_r7 : List Cond := [Cond.instanceMethod yX0_append, Cond.selects RX0 yX0_append yX0_append, Cond.code yX0_append cX0_append 3 none, Cond.methodLink RX0 34 yX0_isFull, Cond.instanceMethod yX0_isFull, Cond.selects RX0 yX0_isFull yX0_isFull, Cond.code yX0_isFull cX0_isFull 2 (some .boolean), Cond.fieldLink RX0 23 "Creditfabric$Buffers" "room" "I", Cond.methodLink RX7 285 yX4_goOver, Cond.instanceMethod yX4_goOver, Cond.selects RX4 yX4_goOver yX4_goOver, Cond.code yX4_goOver cX4_goOver 4 none, Cond.fieldLink RX4 32 "Creditfabric$Packets" "inputs" "LCreditfabric$Row;", Cond.fieldLink RX4 35 "Creditfabric$Packets" "hopsGone" "LCreditfabric$Row;", Cond.methodLink RX4 66 yX5_add, Cond.methodLink RX7 249 yX7_markInCrowd, Cond.instanceMethod yX7_markInCrowd, Cond.selects RX7 yX7_markInCrowd yX7_markInCrowd, Cond.code yX7_markInCrowd cX7_markInCrowd 3 none, Cond.methodLink RX7 288 yX0_load, Cond.instanceMethod yX0_load, Cond.selects RX0 yX0_load yX0_load, Cond.code yX0_load cX0_load 4 (some .int)]
def wsX7_runOne : List Cond := .code yX7_runOne cX7_runOne 2 none :: ((wsX7_runOne_r1 ++ (wsX7_runOne_r2 ++ (wsX7_runOne_r3 ++ (wsX7_runOne_r4 ++ (wsX7_runOne_r5 ++ (wsX7_runOne_r6 ++ wsX7_runOne_r7)))))) ++ wsX70 ++ wsX20 ++ wsX50 ++ wsX30 ++ wsX40 ++ wsX00 ++ wsX60)
def wsX7_run_r1 : List Cond := [Cond.classLink RX7 77 "java/lang/IllegalArgumentException", Cond.initialized "java/lang/IllegalArgumentException", Cond.fieldLink RX7 21 "Creditfabric" "traffic" "LCreditfabric$Packets;", Cond.methodLink RX7 146 yX7_runOne, Cond.instanceMethod yX7_runOne, Cond.selects RX7 yX7_runOne yX7_runOne, Cond.initialized RX7, Cond.code yX7_runOne cX7_runOne 2 none, Cond.fieldLink RX7 35 "Creditfabric" "purse" "LCreditfabric$Credits;", Cond.fieldLink RX7 115 "Creditfabric" "now" "I", Cond.fieldLink RX7 240 "Creditfabric" "chosenCount" "I", Cond.fieldLink RX7 12 "Creditfabric" "grid" "LCreditfabric$Grid;", Cond.fieldLink RX7 70 "Creditfabric" "chosen" "LCreditfabric$Row;", Cond.methodLink RX7 237 yX2_comeBack, Cond.instanceMethod yX2_comeBack, Cond.selects RX2 yX2_comeBack yX2_comeBack, Cond.initialized RX2, Cond.code yX2_comeBack cX2_comeBack 5 none, Cond.fieldLink RX2 30 "Creditfabric$Credits" "comingInAll" "I", Cond.fieldLink RX2 20 "Creditfabric$Credits" "coming" "LCreditfabric$Row;", Cond.fieldLink RX2 14 "Creditfabric$Credits" "there" "LCreditfabric$Row;", Cond.methodLink RX2 41 yX2_slotOf, Cond.static yX2_slotOf, Cond.code yX2_slotOf cX2_slotOf 2 (some .int)]
def wsX7_run_r2 : List Cond := [Cond.methodLink RX2 33 yX5_at, Cond.instanceMethod yX5_at, Cond.selects RX5 yX5_at yX5_at, Cond.initialized RX5, Cond.code yX5_at cX5_at 2 (some .int), Cond.fieldLink RX5 7 "Creditfabric$Row" "numbers" "[I", Cond.methodLink RX2 37 yX5_add, Cond.instanceMethod yX5_add, Cond.selects RX5 yX5_add yX5_add, Cond.code yX5_add cX5_add 3 none, Cond.methodLink RX5 13 yX5_at, Cond.methodLink RX5 17 yX5_put, Cond.instanceMethod yX5_put, Cond.selects RX5 yX5_put yX5_put, Cond.code yX5_put cX5_put 3 none, Cond.methodLink RX2 45 yX5_put, Cond.methodLink RX7 88 yX3_size, Cond.instanceMethod yX3_size, Cond.selects RX3 yX3_size yX3_size, Cond.initialized RX3, Cond.code yX3_size cX3_size 1 (some .int), Cond.fieldLink RX3 23 "Creditfabric$Grid" "columns" "I", Cond.fieldLink RX3 27 "Creditfabric$Grid" "rows" "I", Cond.methodLink RX7 243 yX7_chooseAt]
def wsX7_run_r3 : List Cond := [Cond.instanceMethod yX7_chooseAt, Cond.selects RX7 yX7_chooseAt yX7_chooseAt, Cond.code yX7_chooseAt cX7_chooseAt 5 none, Cond.fieldLink RX7 67 "Creditfabric" "ready" "LCreditfabric$Row;", Cond.fieldLink RX7 28 "Creditfabric" "buffers" "LCreditfabric$Buffers;", Cond.methodLink RX7 235 yX5_fill, Cond.instanceMethod yX5_fill, Cond.selects RX5 yX5_fill yX5_fill, Cond.code yX5_fill cX5_fill 3 none, Cond.methodLink RX7 252 yX0_first, Cond.instanceMethod yX0_first, Cond.selects RX0 yX0_first yX0_first, Cond.initialized RX0, Cond.code yX0_first cX0_first 2 (some .int), Cond.fieldLink RX0 20 "Creditfabric$Buffers" "sizes" "LCreditfabric$Row;", Cond.fieldLink RX0 14 "Creditfabric$Buffers" "slots" "LCreditfabric$Row;", Cond.methodLink RX0 30 yX5_at, Cond.methodLink RX7 196 yX4_outputOf, Cond.instanceMethod yX4_outputOf, Cond.selects RX4 yX4_outputOf yX4_outputOf, Cond.initialized RX4, Cond.code yX4_outputOf cX4_outputOf 3 (some .int), Cond.fieldLink RX4 29 "Creditfabric$Packets" "places" "LCreditfabric$Row;", Cond.fieldLink RX4 41 "Creditfabric$Packets" "grid" "LCreditfabric$Grid;"]
def wsX7_run_r4 : List Cond := [Cond.fieldLink RX4 20 "Creditfabric$Packets" "goals" "LCreditfabric$Row;", Cond.fieldLink RX4 26 "Creditfabric$Packets" "modes" "LCreditfabric$Row;", Cond.methodLink RX4 56 yX5_at, Cond.methodLink RX4 60 yX3_outputTowards, Cond.instanceMethod yX3_outputTowards, Cond.selects RX3 yX3_outputTowards yX3_outputTowards, Cond.code yX3_outputTowards cX3_outputTowards 6 (some .int), Cond.fieldLink RX3 14 "Creditfabric$Grid" "columnOf" "LCreditfabric$Row;", Cond.fieldLink RX3 20 "Creditfabric$Grid" "rowOf" "LCreditfabric$Row;", Cond.methodLink RX3 38 yX5_at, Cond.methodLink RX3 42 yX3_stepTowards, Cond.static yX3_stepTowards, Cond.code yX3_stepTowards cX3_stepTowards 4 (some .int), Cond.methodLink RX7 149 yX5_at, Cond.methodLink RX7 258 yX7_canGo, Cond.instanceMethod yX7_canGo, Cond.selects RX7 yX7_canGo yX7_canGo, Cond.code yX7_canGo cX7_canGo 5 (some .boolean), Cond.fieldLink RX7 60 "Creditfabric" "paused" "LCreditfabric$Row;", Cond.methodLink RX7 214 yX3_behind, Cond.instanceMethod yX3_behind, Cond.selects RX3 yX3_behind yX3_behind, Cond.code yX3_behind cX3_behind 3 (some .int), Cond.methodLink RX7 102 yX7_bufferOf]
def wsX7_run_r5 : List Cond := [Cond.static yX7_bufferOf, Cond.code yX7_bufferOf cX7_bufferOf 3 (some .int), Cond.methodLink RX7 162 yX2_there, Cond.instanceMethod yX2_there, Cond.selects RX2 yX2_there yX2_there, Cond.code yX2_there cX2_there 2 (some .int), Cond.methodLink RX7 153 yX5_put, Cond.methodLink RX7 262 yX7_takeTurn, Cond.instanceMethod yX7_takeTurn, Cond.selects RX7 yX7_takeTurn yX7_takeTurn, Cond.code yX7_takeTurn cX7_takeTurn 8 none, Cond.fieldLink RX7 64 "Creditfabric" "turns" "LCreditfabric$Row;", Cond.methodLink RX7 246 yX7_move, Cond.instanceMethod yX7_move, Cond.selects RX7 yX7_move yX7_move, Cond.code yX7_move cX7_move 7 none, Cond.fieldLink RX7 42 "Creditfabric" "senders" "LCreditfabric$Senders;", Cond.methodLink RX7 269 yX0_removeFirst, Cond.instanceMethod yX0_removeFirst, Cond.selects RX0 yX0_removeFirst yX0_removeFirst, Cond.code yX0_removeFirst cX0_removeFirst 4 none, Cond.methodLink RX0 38 yX5_put, Cond.methodLink RX0 42 yX5_add, Cond.methodLink RX7 272 yX2_giveBack]
def wsX7_run_r6 : List Cond := [Cond.instanceMethod yX2_giveBack, Cond.selects RX2 yX2_giveBack yX2_giveBack, Cond.code yX2_giveBack cX2_giveBack 3 none, Cond.fieldLink RX2 23 "Creditfabric$Credits" "delay" "I", Cond.methodLink RX7 275 yX4_goOut, Cond.instanceMethod yX4_goOut, Cond.selects RX4 yX4_goOut yX4_goOut, Cond.code yX4_goOut cX4_goOut 2 none, Cond.fieldLink RX4 49 "Creditfabric$Packets" "gone" "I", Cond.methodLink RX4 52 yX5_put, Cond.methodLink RX7 281 yX6_adapt, Cond.instanceMethod yX6_adapt, Cond.selects RX6 yX6_adapt yX6_adapt, Cond.initialized RX6, Cond.code yX6_adapt cX6_adapt 4 none, Cond.fieldLink RX6 14 "Creditfabric$Senders" "gaps" "LCreditfabric$Row;", Cond.methodLink RX6 34 Lib.Math.min.name, Cond.static Lib.Math.min.name, Cond.initialized "java/lang/Math", Cond.code Lib.Math.min.name Lib.Math.min.code 2 (some .int), Cond.methodLink RX6 40 Lib.Math.max.name, Cond.static Lib.Math.max.name, Cond.code Lib.Math.max.name Lib.Math.max.code 2 (some .int), Cond.methodLink RX6 26 yX5_at]
def wsX7_run_r7 : List Cond := [Cond.methodLink RX6 30 yX5_put, Cond.methodLink RX7 167 yX2_take, Cond.instanceMethod yX2_take, Cond.selects RX2 yX2_take yX2_take, Cond.code yX2_take cX2_take 2 none, Cond.methodLink RX7 134 yX0_append, Cond.instanceMethod yX0_append, Cond.selects RX0 yX0_append yX0_append, Cond.code yX0_append cX0_append 3 none, Cond.methodLink RX0 34 yX0_isFull, Cond.instanceMethod yX0_isFull, Cond.selects RX0 yX0_isFull yX0_isFull, Cond.code yX0_isFull cX0_isFull 2 (some .boolean), Cond.fieldLink RX0 23 "Creditfabric$Buffers" "room" "I", Cond.methodLink RX7 285 yX4_goOver, Cond.instanceMethod yX4_goOver, Cond.selects RX4 yX4_goOver yX4_goOver, Cond.code yX4_goOver cX4_goOver 4 none, Cond.fieldLink RX4 32 "Creditfabric$Packets" "inputs" "LCreditfabric$Row;", Cond.fieldLink RX4 35 "Creditfabric$Packets" "hopsGone" "LCreditfabric$Row;", Cond.methodLink RX4 66 yX5_add, Cond.methodLink RX7 249 yX7_markInCrowd, Cond.instanceMethod yX7_markInCrowd, Cond.selects RX7 yX7_markInCrowd yX7_markInCrowd]
def wsX7_run_r8 : List Cond := [Cond.code yX7_markInCrowd cX7_markInCrowd 3 none, Cond.methodLink RX7 288 yX0_load, Cond.instanceMethod yX0_load, Cond.selects RX0 yX0_load yX0_load, Cond.code yX0_load cX0_load 4 (some .int)]
def wsX7_run : List Cond := .code yX7_run cX7_run 4 (some .int) :: ((wsX7_run_r1 ++ (wsX7_run_r2 ++ (wsX7_run_r3 ++ (wsX7_run_r4 ++ (wsX7_run_r5 ++ (wsX7_run_r6 ++ (wsX7_run_r7 ++ wsX7_run_r8))))))) ++ wsX70 ++ wsX40 ++ wsX20 ++ wsX50 ++ wsX30 ++ wsX00 ++ wsX60 ++ (vx_atS RX7 81 "java/lang/IllegalArgumentException" ["java/lang/RuntimeException", "java/lang/Exception"]).filter goodWord)
def wsX7_pause_r1 : List Cond := [Cond.fieldLink RX7 60 "Creditfabric" "paused" "LCreditfabric$Row;", Cond.methodLink RX7 92 yX7_checkSwitch, Cond.instanceMethod yX7_checkSwitch, Cond.selects RX7 yX7_checkSwitch yX7_checkSwitch, Cond.initialized RX7, Cond.code yX7_checkSwitch cX7_checkSwitch 2 none, Cond.classLink RX7 209 "java/lang/IndexOutOfBoundsException", Cond.initialized "java/lang/IndexOutOfBoundsException", Cond.fieldLink RX7 12 "Creditfabric" "grid" "LCreditfabric$Grid;", Cond.methodLink RX7 206 yX3_has, Cond.instanceMethod yX3_has, Cond.selects RX3 yX3_has yX3_has, Cond.initialized RX3, Cond.code yX3_has cX3_has 2 (some .boolean), Cond.methodLink RX3 34 yX3_size, Cond.instanceMethod yX3_size, Cond.selects RX3 yX3_size yX3_size, Cond.code yX3_size cX3_size 1 (some .int), Cond.fieldLink RX3 23 "Creditfabric$Grid" "columns" "I", Cond.fieldLink RX3 27 "Creditfabric$Grid" "rows" "I", Cond.methodLink RX7 149 yX5_at, Cond.instanceMethod yX5_at, Cond.selects RX5 yX5_at yX5_at, Cond.initialized RX5]
def wsX7_pause_r2 : List Cond := [Cond.code yX5_at cX5_at 2 (some .int), Cond.fieldLink RX5 7 "Creditfabric$Row" "numbers" "[I", Cond.methodLink RX7 153 yX5_put, Cond.instanceMethod yX5_put, Cond.selects RX5 yX5_put yX5_put, Cond.code yX5_put cX5_put 3 none]
def wsX7_pause : List Cond := .code yX7_pause cX7_pause 4 (some .boolean) :: ((wsX7_pause_r1 ++ wsX7_pause_r2) ++ wsX70 ++ wsX30 ++ wsX50 ++ (vx_atS RX7 213 "java/lang/IndexOutOfBoundsException" ["java/lang/RuntimeException", "java/lang/Exception"]).filter goodWord)
def wsX7_checkLink_r1 : List Cond := [Cond.classLink RX7 209 "java/lang/IndexOutOfBoundsException", Cond.initialized "java/lang/IndexOutOfBoundsException", Cond.fieldLink RX7 12 "Creditfabric" "grid" "LCreditfabric$Grid;", Cond.methodLink RX7 92 yX7_checkSwitch, Cond.instanceMethod yX7_checkSwitch, Cond.selects RX7 yX7_checkSwitch yX7_checkSwitch, Cond.initialized RX7, Cond.code yX7_checkSwitch cX7_checkSwitch 2 none, Cond.methodLink RX7 206 yX3_has, Cond.instanceMethod yX3_has, Cond.selects RX3 yX3_has yX3_has, Cond.initialized RX3, Cond.code yX3_has cX3_has 2 (some .boolean), Cond.methodLink RX3 34 yX3_size, Cond.instanceMethod yX3_size, Cond.selects RX3 yX3_size yX3_size, Cond.code yX3_size cX3_size 1 (some .int), Cond.fieldLink RX3 23 "Creditfabric$Grid" "columns" "I", Cond.fieldLink RX3 27 "Creditfabric$Grid" "rows" "I", Cond.methodLink RX7 214 yX3_behind, Cond.instanceMethod yX3_behind, Cond.selects RX3 yX3_behind yX3_behind, Cond.code yX3_behind cX3_behind 3 (some .int), Cond.fieldLink RX3 14 "Creditfabric$Grid" "columnOf" "LCreditfabric$Row;"]
def wsX7_checkLink_r2 : List Cond := [Cond.fieldLink RX3 20 "Creditfabric$Grid" "rowOf" "LCreditfabric$Row;", Cond.methodLink RX3 38 yX5_at, Cond.instanceMethod yX5_at, Cond.selects RX5 yX5_at yX5_at, Cond.initialized RX5, Cond.code yX5_at cX5_at 2 (some .int), Cond.fieldLink RX5 7 "Creditfabric$Row" "numbers" "[I"]
def wsX7_checkLink : List Cond := .code yX7_checkLink cX7_checkLink 3 none :: ((wsX7_checkLink_r1 ++ wsX7_checkLink_r2) ++ wsX70 ++ wsX30 ++ wsX50 ++ (vx_atS RX7 213 "java/lang/IndexOutOfBoundsException" ["java/lang/RuntimeException", "java/lang/Exception"]).filter goodWord)
def wsX7_bufferBehind : List Cond := .code yX7_bufferBehind cX7_bufferBehind 4 (some .int) :: ([.fieldLink RX7 12 "Creditfabric" "grid" "LCreditfabric$Grid;", .methodLink RX7 214 yX3_behind, .instanceMethod yX3_behind, .selects RX3 yX3_behind yX3_behind, .initialized RX3, .code yX3_behind cX3_behind 3 (some .int), .fieldLink RX3 14 "Creditfabric$Grid" "columnOf" "LCreditfabric$Row;", .fieldLink RX3 23 "Creditfabric$Grid" "columns" "I", .fieldLink RX3 20 "Creditfabric$Grid" "rowOf" "LCreditfabric$Row;", .fieldLink RX3 27 "Creditfabric$Grid" "rows" "I", .methodLink RX3 38 yX5_at, .instanceMethod yX5_at, .selects RX5 yX5_at yX5_at, .initialized RX5, .code yX5_at cX5_at 2 (some .int), .fieldLink RX5 7 "Creditfabric$Row" "numbers" "[I", .methodLink RX7 102 yX7_bufferOf, .static yX7_bufferOf, .initialized RX7, .code yX7_bufferOf cX7_bufferOf 3 (some .int)] ++ wsX70 ++ wsX30 ++ wsX50)
def wsX7_lose_r1 : List Cond := [Cond.classLink RX7 110 "java/lang/IllegalStateException", Cond.initialized "java/lang/IllegalStateException", Cond.fieldLink RX7 35 "Creditfabric" "purse" "LCreditfabric$Credits;", Cond.methodLink RX7 156 yX7_checkLink, Cond.instanceMethod yX7_checkLink, Cond.selects RX7 yX7_checkLink yX7_checkLink, Cond.initialized RX7, Cond.code yX7_checkLink cX7_checkLink 3 none, Cond.classLink RX7 209 "java/lang/IndexOutOfBoundsException", Cond.initialized "java/lang/IndexOutOfBoundsException", Cond.fieldLink RX7 12 "Creditfabric" "grid" "LCreditfabric$Grid;", Cond.methodLink RX7 92 yX7_checkSwitch, Cond.instanceMethod yX7_checkSwitch, Cond.selects RX7 yX7_checkSwitch yX7_checkSwitch, Cond.code yX7_checkSwitch cX7_checkSwitch 2 none, Cond.methodLink RX7 206 yX3_has, Cond.instanceMethod yX3_has, Cond.selects RX3 yX3_has yX3_has, Cond.initialized RX3, Cond.code yX3_has cX3_has 2 (some .boolean), Cond.methodLink RX3 34 yX3_size, Cond.instanceMethod yX3_size, Cond.selects RX3 yX3_size yX3_size, Cond.code yX3_size cX3_size 1 (some .int)]
def wsX7_lose_r2 : List Cond := [Cond.fieldLink RX3 23 "Creditfabric$Grid" "columns" "I", Cond.fieldLink RX3 27 "Creditfabric$Grid" "rows" "I", Cond.methodLink RX7 214 yX3_behind, Cond.instanceMethod yX3_behind, Cond.selects RX3 yX3_behind yX3_behind, Cond.code yX3_behind cX3_behind 3 (some .int), Cond.fieldLink RX3 14 "Creditfabric$Grid" "columnOf" "LCreditfabric$Row;", Cond.fieldLink RX3 20 "Creditfabric$Grid" "rowOf" "LCreditfabric$Row;", Cond.methodLink RX3 38 yX5_at, Cond.instanceMethod yX5_at, Cond.selects RX5 yX5_at yX5_at, Cond.initialized RX5, Cond.code yX5_at cX5_at 2 (some .int), Cond.fieldLink RX5 7 "Creditfabric$Row" "numbers" "[I", Cond.methodLink RX7 97 yX7_checkLane, Cond.static yX7_checkLane, Cond.code yX7_checkLane cX7_checkLane 1 none, Cond.classLink RX7 77 "java/lang/IllegalArgumentException", Cond.initialized "java/lang/IllegalArgumentException", Cond.methodLink RX7 159 yX7_bufferBehind, Cond.instanceMethod yX7_bufferBehind, Cond.selects RX7 yX7_bufferBehind yX7_bufferBehind, Cond.code yX7_bufferBehind cX7_bufferBehind 4 (some .int), Cond.methodLink RX7 102 yX7_bufferOf]
def wsX7_lose_r3 : List Cond := [Cond.static yX7_bufferOf, Cond.code yX7_bufferOf cX7_bufferOf 3 (some .int), Cond.methodLink RX7 162 yX2_there, Cond.instanceMethod yX2_there, Cond.selects RX2 yX2_there yX2_there, Cond.initialized RX2, Cond.code yX2_there cX2_there 2 (some .int), Cond.fieldLink RX2 14 "Creditfabric$Credits" "there" "LCreditfabric$Row;", Cond.methodLink RX2 33 yX5_at, Cond.methodLink RX7 167 yX2_take, Cond.instanceMethod yX2_take, Cond.selects RX2 yX2_take yX2_take, Cond.code yX2_take cX2_take 2 none, Cond.methodLink RX2 37 yX5_add, Cond.instanceMethod yX5_add, Cond.selects RX5 yX5_add yX5_add, Cond.code yX5_add cX5_add 3 none, Cond.methodLink RX5 13 yX5_at, Cond.methodLink RX5 17 yX5_put, Cond.instanceMethod yX5_put, Cond.selects RX5 yX5_put yX5_put, Cond.code yX5_put cX5_put 3 none]
def wsX7_lose : List Cond := .code yX7_lose cX7_lose 5 (some .int) :: ((wsX7_lose_r1 ++ (wsX7_lose_r2 ++ wsX7_lose_r3)) ++ wsX70 ++ wsX30 ++ wsX50 ++ wsX20 ++ (vx_atS RX7 114 "java/lang/IllegalStateException" ["java/lang/RuntimeException", "java/lang/Exception"]).filter goodWord ++ (vx_atS RX7 213 "java/lang/IndexOutOfBoundsException" ["java/lang/RuntimeException", "java/lang/Exception"]).filter goodWord ++ (vx_atS RX7 81 "java/lang/IllegalArgumentException" ["java/lang/RuntimeException", "java/lang/Exception"]).filter goodWord)
def wsX7_recover_r1 : List Cond := [Cond.fieldLink RX7 12 "Creditfabric" "grid" "LCreditfabric$Grid;", Cond.fieldLink RX7 35 "Creditfabric" "purse" "LCreditfabric$Credits;", Cond.fieldLink RX7 28 "Creditfabric" "buffers" "LCreditfabric$Buffers;", Cond.methodLink RX7 88 yX3_size, Cond.instanceMethod yX3_size, Cond.selects RX3 yX3_size yX3_size, Cond.initialized RX3, Cond.code yX3_size cX3_size 1 (some .int), Cond.fieldLink RX3 23 "Creditfabric$Grid" "columns" "I", Cond.fieldLink RX3 27 "Creditfabric$Grid" "rows" "I", Cond.methodLink RX7 170 yX0_free, Cond.instanceMethod yX0_free, Cond.selects RX0 yX0_free yX0_free, Cond.initialized RX0, Cond.code yX0_free cX0_free 2 (some .int), Cond.fieldLink RX0 23 "Creditfabric$Buffers" "room" "I", Cond.fieldLink RX0 20 "Creditfabric$Buffers" "sizes" "LCreditfabric$Row;", Cond.methodLink RX0 30 yX5_at, Cond.instanceMethod yX5_at, Cond.selects RX5 yX5_at yX5_at, Cond.initialized RX5, Cond.code yX5_at cX5_at 2 (some .int), Cond.fieldLink RX5 7 "Creditfabric$Row" "numbers" "[I", Cond.methodLink RX7 173 yX2_settle]
def wsX7_recover_r2 : List Cond := [Cond.instanceMethod yX2_settle, Cond.selects RX2 yX2_settle yX2_settle, Cond.initialized RX2, Cond.code yX2_settle cX2_settle 5 (some .int), Cond.fieldLink RX2 20 "Creditfabric$Credits" "coming" "LCreditfabric$Row;", Cond.fieldLink RX2 14 "Creditfabric$Credits" "there" "LCreditfabric$Row;", Cond.methodLink RX2 41 yX2_slotOf, Cond.static yX2_slotOf, Cond.code yX2_slotOf cX2_slotOf 2 (some .int), Cond.methodLink RX2 33 yX5_at, Cond.methodLink RX2 45 yX5_put, Cond.instanceMethod yX5_put, Cond.selects RX5 yX5_put yX5_put, Cond.code yX5_put cX5_put 3 none]
def wsX7_recover : List Cond := .code yX7_recover cX7_recover 5 (some .int) :: ((wsX7_recover_r1 ++ wsX7_recover_r2) ++ wsX70 ++ wsX30 ++ wsX00 ++ wsX50 ++ wsX20)
def wsX7_tick : List Cond := .code yX7_tick cX7_tick 1 (some .int) :: ([.fieldLink RX7 115 "Creditfabric" "now" "I"] ++ wsX70)
def wsX7_packets : List Cond := .code yX7_packets cX7_packets 1 (some .int) :: ([.fieldLink RX7 21 "Creditfabric" "traffic" "LCreditfabric$Packets;"] ++ wsX70 ++ wsX40)
def wsX7_arrived : List Cond := .code yX7_arrived cX7_arrived 1 (some .int) :: ([.fieldLink RX7 21 "Creditfabric" "traffic" "LCreditfabric$Packets;"] ++ wsX70 ++ wsX40)
def wsX7_credits_r1 : List Cond := [Cond.fieldLink RX7 35 "Creditfabric" "purse" "LCreditfabric$Credits;", Cond.methodLink RX7 156 yX7_checkLink, Cond.instanceMethod yX7_checkLink, Cond.selects RX7 yX7_checkLink yX7_checkLink, Cond.initialized RX7, Cond.code yX7_checkLink cX7_checkLink 3 none, Cond.classLink RX7 209 "java/lang/IndexOutOfBoundsException", Cond.initialized "java/lang/IndexOutOfBoundsException", Cond.fieldLink RX7 12 "Creditfabric" "grid" "LCreditfabric$Grid;", Cond.methodLink RX7 92 yX7_checkSwitch, Cond.instanceMethod yX7_checkSwitch, Cond.selects RX7 yX7_checkSwitch yX7_checkSwitch, Cond.code yX7_checkSwitch cX7_checkSwitch 2 none, Cond.methodLink RX7 206 yX3_has, Cond.instanceMethod yX3_has, Cond.selects RX3 yX3_has yX3_has, Cond.initialized RX3, Cond.code yX3_has cX3_has 2 (some .boolean), Cond.methodLink RX3 34 yX3_size, Cond.instanceMethod yX3_size, Cond.selects RX3 yX3_size yX3_size, Cond.code yX3_size cX3_size 1 (some .int), Cond.fieldLink RX3 23 "Creditfabric$Grid" "columns" "I", Cond.fieldLink RX3 27 "Creditfabric$Grid" "rows" "I"]
def wsX7_credits_r2 : List Cond := [Cond.methodLink RX7 214 yX3_behind, Cond.instanceMethod yX3_behind, Cond.selects RX3 yX3_behind yX3_behind, Cond.code yX3_behind cX3_behind 3 (some .int), Cond.fieldLink RX3 14 "Creditfabric$Grid" "columnOf" "LCreditfabric$Row;", Cond.fieldLink RX3 20 "Creditfabric$Grid" "rowOf" "LCreditfabric$Row;", Cond.methodLink RX3 38 yX5_at, Cond.instanceMethod yX5_at, Cond.selects RX5 yX5_at yX5_at, Cond.initialized RX5, Cond.code yX5_at cX5_at 2 (some .int), Cond.fieldLink RX5 7 "Creditfabric$Row" "numbers" "[I", Cond.methodLink RX7 97 yX7_checkLane, Cond.static yX7_checkLane, Cond.code yX7_checkLane cX7_checkLane 1 none, Cond.classLink RX7 77 "java/lang/IllegalArgumentException", Cond.initialized "java/lang/IllegalArgumentException", Cond.methodLink RX7 159 yX7_bufferBehind, Cond.instanceMethod yX7_bufferBehind, Cond.selects RX7 yX7_bufferBehind yX7_bufferBehind, Cond.code yX7_bufferBehind cX7_bufferBehind 4 (some .int), Cond.methodLink RX7 102 yX7_bufferOf, Cond.static yX7_bufferOf, Cond.code yX7_bufferOf cX7_bufferOf 3 (some .int)]
def wsX7_credits_r3 : List Cond := [Cond.methodLink RX7 162 yX2_there, Cond.instanceMethod yX2_there, Cond.selects RX2 yX2_there yX2_there, Cond.initialized RX2, Cond.code yX2_there cX2_there 2 (some .int), Cond.fieldLink RX2 14 "Creditfabric$Credits" "there" "LCreditfabric$Row;", Cond.methodLink RX2 33 yX5_at]
def wsX7_credits : List Cond := .code yX7_credits cX7_credits 4 (some .int) :: ((wsX7_credits_r1 ++ (wsX7_credits_r2 ++ wsX7_credits_r3)) ++ wsX70 ++ wsX30 ++ wsX50 ++ wsX20 ++ (vx_atS RX7 213 "java/lang/IndexOutOfBoundsException" ["java/lang/RuntimeException", "java/lang/Exception"]).filter goodWord ++ (vx_atS RX7 81 "java/lang/IllegalArgumentException" ["java/lang/RuntimeException", "java/lang/Exception"]).filter goodWord)
def wsX7_inBuffer_r1 : List Cond := [Cond.classLink RX7 77 "java/lang/IllegalArgumentException", Cond.initialized "java/lang/IllegalArgumentException", Cond.fieldLink RX7 28 "Creditfabric" "buffers" "LCreditfabric$Buffers;", Cond.methodLink RX7 92 yX7_checkSwitch, Cond.instanceMethod yX7_checkSwitch, Cond.selects RX7 yX7_checkSwitch yX7_checkSwitch, Cond.initialized RX7, Cond.code yX7_checkSwitch cX7_checkSwitch 2 none, Cond.classLink RX7 209 "java/lang/IndexOutOfBoundsException", Cond.initialized "java/lang/IndexOutOfBoundsException", Cond.fieldLink RX7 12 "Creditfabric" "grid" "LCreditfabric$Grid;", Cond.methodLink RX7 206 yX3_has, Cond.instanceMethod yX3_has, Cond.selects RX3 yX3_has yX3_has, Cond.initialized RX3, Cond.code yX3_has cX3_has 2 (some .boolean), Cond.methodLink RX3 34 yX3_size, Cond.instanceMethod yX3_size, Cond.selects RX3 yX3_size yX3_size, Cond.code yX3_size cX3_size 1 (some .int), Cond.fieldLink RX3 23 "Creditfabric$Grid" "columns" "I", Cond.fieldLink RX3 27 "Creditfabric$Grid" "rows" "I", Cond.methodLink RX7 97 yX7_checkLane, Cond.static yX7_checkLane]
def wsX7_inBuffer_r2 : List Cond := [Cond.code yX7_checkLane cX7_checkLane 1 none, Cond.methodLink RX7 102 yX7_bufferOf, Cond.static yX7_bufferOf, Cond.code yX7_bufferOf cX7_bufferOf 3 (some .int), Cond.methodLink RX7 179 yX0_size, Cond.instanceMethod yX0_size, Cond.selects RX0 yX0_size yX0_size, Cond.initialized RX0, Cond.code yX0_size cX0_size 2 (some .int), Cond.fieldLink RX0 20 "Creditfabric$Buffers" "sizes" "LCreditfabric$Row;", Cond.methodLink RX0 30 yX5_at, Cond.instanceMethod yX5_at, Cond.selects RX5 yX5_at yX5_at, Cond.initialized RX5, Cond.code yX5_at cX5_at 2 (some .int), Cond.fieldLink RX5 7 "Creditfabric$Row" "numbers" "[I"]
def wsX7_inBuffer : List Cond := .code yX7_inBuffer cX7_inBuffer 4 (some .int) :: ((wsX7_inBuffer_r1 ++ wsX7_inBuffer_r2) ++ wsX70 ++ wsX30 ++ wsX00 ++ wsX50 ++ (vx_atS RX7 81 "java/lang/IllegalArgumentException" ["java/lang/RuntimeException", "java/lang/Exception"]).filter goodWord ++ (vx_atS RX7 213 "java/lang/IndexOutOfBoundsException" ["java/lang/RuntimeException", "java/lang/Exception"]).filter goodWord)
def wsX7_gap_r1 : List Cond := [Cond.fieldLink RX7 42 "Creditfabric" "senders" "LCreditfabric$Senders;", Cond.methodLink RX7 92 yX7_checkSwitch, Cond.instanceMethod yX7_checkSwitch, Cond.selects RX7 yX7_checkSwitch yX7_checkSwitch, Cond.initialized RX7, Cond.code yX7_checkSwitch cX7_checkSwitch 2 none, Cond.classLink RX7 209 "java/lang/IndexOutOfBoundsException", Cond.initialized "java/lang/IndexOutOfBoundsException", Cond.fieldLink RX7 12 "Creditfabric" "grid" "LCreditfabric$Grid;", Cond.methodLink RX7 206 yX3_has, Cond.instanceMethod yX3_has, Cond.selects RX3 yX3_has yX3_has, Cond.initialized RX3, Cond.code yX3_has cX3_has 2 (some .boolean), Cond.methodLink RX3 34 yX3_size, Cond.instanceMethod yX3_size, Cond.selects RX3 yX3_size yX3_size, Cond.code yX3_size cX3_size 1 (some .int), Cond.fieldLink RX3 23 "Creditfabric$Grid" "columns" "I", Cond.fieldLink RX3 27 "Creditfabric$Grid" "rows" "I", Cond.methodLink RX7 181 yX6_gapOf, Cond.instanceMethod yX6_gapOf, Cond.selects RX6 yX6_gapOf yX6_gapOf, Cond.initialized RX6]
def wsX7_gap_r2 : List Cond := [Cond.code yX6_gapOf cX6_gapOf 2 (some .int), Cond.fieldLink RX6 14 "Creditfabric$Senders" "gaps" "LCreditfabric$Row;", Cond.methodLink RX6 26 yX5_at, Cond.instanceMethod yX5_at, Cond.selects RX5 yX5_at yX5_at, Cond.initialized RX5, Cond.code yX5_at cX5_at 2 (some .int), Cond.fieldLink RX5 7 "Creditfabric$Row" "numbers" "[I"]
def wsX7_gap : List Cond := .code yX7_gap cX7_gap 2 (some .int) :: ((wsX7_gap_r1 ++ wsX7_gap_r2) ++ wsX70 ++ wsX30 ++ wsX60 ++ wsX50 ++ (vx_atS RX7 213 "java/lang/IndexOutOfBoundsException" ["java/lang/RuntimeException", "java/lang/Exception"]).filter goodWord)
def wsX7_checkPacket : List Cond := .code yX7_checkPacket cX7_checkPacket 2 none :: ([.classLink RX7 209 "java/lang/IndexOutOfBoundsException", .initialized "java/lang/IndexOutOfBoundsException", .fieldLink RX7 21 "Creditfabric" "traffic" "LCreditfabric$Packets;"] ++ wsX70 ++ wsX40 ++ (vx_atS RX7 213 "java/lang/IndexOutOfBoundsException" ["java/lang/RuntimeException", "java/lang/Exception"]).filter goodWord)
def wsX7_placeOf : List Cond := .code yX7_placeOf cX7_placeOf 2 (some .int) :: ([.fieldLink RX7 21 "Creditfabric" "traffic" "LCreditfabric$Packets;", .methodLink RX7 184 yX7_checkPacket, .instanceMethod yX7_checkPacket, .selects RX7 yX7_checkPacket yX7_checkPacket, .initialized RX7, .code yX7_checkPacket cX7_checkPacket 2 none, .classLink RX7 209 "java/lang/IndexOutOfBoundsException", .initialized "java/lang/IndexOutOfBoundsException", .methodLink RX7 149 yX5_at, .instanceMethod yX5_at, .selects RX5 yX5_at yX5_at, .initialized RX5, .code yX5_at cX5_at 2 (some .int), .fieldLink RX5 7 "Creditfabric$Row" "numbers" "[I"] ++ wsX70 ++ wsX40 ++ wsX50 ++ (vx_atS RX7 213 "java/lang/IndexOutOfBoundsException" ["java/lang/RuntimeException", "java/lang/Exception"]).filter goodWord)
def wsX7_hops : List Cond := .code yX7_hops cX7_hops 2 (some .int) :: ([.fieldLink RX7 21 "Creditfabric" "traffic" "LCreditfabric$Packets;", .methodLink RX7 184 yX7_checkPacket, .instanceMethod yX7_checkPacket, .selects RX7 yX7_checkPacket yX7_checkPacket, .initialized RX7, .code yX7_checkPacket cX7_checkPacket 2 none, .classLink RX7 209 "java/lang/IndexOutOfBoundsException", .initialized "java/lang/IndexOutOfBoundsException", .methodLink RX7 149 yX5_at, .instanceMethod yX5_at, .selects RX5 yX5_at yX5_at, .initialized RX5, .code yX5_at cX5_at 2 (some .int), .fieldLink RX5 7 "Creditfabric$Row" "numbers" "[I"] ++ wsX70 ++ wsX40 ++ wsX50 ++ (vx_atS RX7 213 "java/lang/IndexOutOfBoundsException" ["java/lang/RuntimeException", "java/lang/Exception"]).filter goodWord)
def wsX7_isMarked : List Cond := .code yX7_isMarked cX7_isMarked 2 (some .boolean) :: ([.fieldLink RX7 21 "Creditfabric" "traffic" "LCreditfabric$Packets;", .methodLink RX7 184 yX7_checkPacket, .instanceMethod yX7_checkPacket, .selects RX7 yX7_checkPacket yX7_checkPacket, .initialized RX7, .code yX7_checkPacket cX7_checkPacket 2 none, .classLink RX7 209 "java/lang/IndexOutOfBoundsException", .initialized "java/lang/IndexOutOfBoundsException", .methodLink RX7 149 yX5_at, .instanceMethod yX5_at, .selects RX5 yX5_at yX5_at, .initialized RX5, .code yX5_at cX5_at 2 (some .int), .fieldLink RX5 7 "Creditfabric$Row" "numbers" "[I"] ++ wsX70 ++ wsX40 ++ wsX50 ++ (vx_atS RX7 213 "java/lang/IndexOutOfBoundsException" ["java/lang/RuntimeException", "java/lang/Exception"]).filter goodWord)
def wsX7_wants_r1 : List Cond := [Cond.fieldLink RX7 21 "Creditfabric" "traffic" "LCreditfabric$Packets;", Cond.methodLink RX7 184 yX7_checkPacket, Cond.instanceMethod yX7_checkPacket, Cond.selects RX7 yX7_checkPacket yX7_checkPacket, Cond.initialized RX7, Cond.code yX7_checkPacket cX7_checkPacket 2 none, Cond.classLink RX7 209 "java/lang/IndexOutOfBoundsException", Cond.initialized "java/lang/IndexOutOfBoundsException", Cond.methodLink RX7 196 yX4_outputOf, Cond.instanceMethod yX4_outputOf, Cond.selects RX4 yX4_outputOf yX4_outputOf, Cond.initialized RX4, Cond.code yX4_outputOf cX4_outputOf 3 (some .int), Cond.fieldLink RX4 29 "Creditfabric$Packets" "places" "LCreditfabric$Row;", Cond.fieldLink RX4 41 "Creditfabric$Packets" "grid" "LCreditfabric$Grid;", Cond.fieldLink RX4 20 "Creditfabric$Packets" "goals" "LCreditfabric$Row;", Cond.fieldLink RX4 26 "Creditfabric$Packets" "modes" "LCreditfabric$Row;", Cond.methodLink RX4 56 yX5_at, Cond.instanceMethod yX5_at, Cond.selects RX5 yX5_at yX5_at, Cond.initialized RX5, Cond.code yX5_at cX5_at 2 (some .int), Cond.fieldLink RX5 7 "Creditfabric$Row" "numbers" "[I", Cond.methodLink RX4 60 yX3_outputTowards]
def wsX7_wants_r2 : List Cond := [Cond.instanceMethod yX3_outputTowards, Cond.selects RX3 yX3_outputTowards yX3_outputTowards, Cond.initialized RX3, Cond.code yX3_outputTowards cX3_outputTowards 6 (some .int), Cond.fieldLink RX3 14 "Creditfabric$Grid" "columnOf" "LCreditfabric$Row;", Cond.fieldLink RX3 20 "Creditfabric$Grid" "rowOf" "LCreditfabric$Row;", Cond.methodLink RX3 38 yX5_at, Cond.methodLink RX3 42 yX3_stepTowards, Cond.static yX3_stepTowards, Cond.code yX3_stepTowards cX3_stepTowards 4 (some .int)]
def wsX7_wants : List Cond := .code yX7_wants cX7_wants 2 (some .int) :: ((wsX7_wants_r1 ++ wsX7_wants_r2) ++ wsX70 ++ wsX40 ++ wsX50 ++ wsX30 ++ (vx_atS RX7 213 "java/lang/IndexOutOfBoundsException" ["java/lang/RuntimeException", "java/lang/Exception"]).filter goodWord)
def wsX7_circle_r1 : List Cond := [Cond.fieldLink RX7 51 "Creditfabric" "circles" "LCreditfabric$Circles;", Cond.methodLink RX7 199 yX1_countWaiting, Cond.instanceMethod yX1_countWaiting, Cond.selects RX1 yX1_countWaiting yX1_countWaiting, Cond.initialized RX1, Cond.code yX1_countWaiting cX1_countWaiting 4 (some .int), Cond.fieldLink RX1 23 "Creditfabric$Circles" "grid" "LCreditfabric$Grid;", Cond.fieldLink RX1 14 "Creditfabric$Circles" "awaited" "LCreditfabric$Row;", Cond.methodLink RX1 35 yX3_size, Cond.instanceMethod yX3_size, Cond.selects RX3 yX3_size yX3_size, Cond.initialized RX3, Cond.code yX3_size cX3_size 1 (some .int), Cond.fieldLink RX3 23 "Creditfabric$Grid" "columns" "I", Cond.fieldLink RX3 27 "Creditfabric$Grid" "rows" "I", Cond.methodLink RX1 41 yX1_awaitedBy, Cond.instanceMethod yX1_awaitedBy, Cond.selects RX1 yX1_awaitedBy yX1_awaitedBy, Cond.code yX1_awaitedBy cX1_awaitedBy 4 (some .int), Cond.fieldLink RX1 31 "Creditfabric$Circles" "buffers" "LCreditfabric$Buffers;", Cond.fieldLink RX1 27 "Creditfabric$Circles" "traffic" "LCreditfabric$Packets;", Cond.methodLink RX1 53 yX0_first, Cond.instanceMethod yX0_first, Cond.selects RX0 yX0_first yX0_first]
def wsX7_circle_r2 : List Cond := [Cond.initialized RX0, Cond.code yX0_first cX0_first 2 (some .int), Cond.fieldLink RX0 20 "Creditfabric$Buffers" "sizes" "LCreditfabric$Row;", Cond.fieldLink RX0 14 "Creditfabric$Buffers" "slots" "LCreditfabric$Row;", Cond.methodLink RX0 30 yX5_at, Cond.instanceMethod yX5_at, Cond.selects RX5 yX5_at yX5_at, Cond.initialized RX5, Cond.code yX5_at cX5_at 2 (some .int), Cond.fieldLink RX5 7 "Creditfabric$Row" "numbers" "[I", Cond.methodLink RX1 63 yX5_at, Cond.methodLink RX1 66 yX4_outputOf, Cond.instanceMethod yX4_outputOf, Cond.selects RX4 yX4_outputOf yX4_outputOf, Cond.initialized RX4, Cond.code yX4_outputOf cX4_outputOf 3 (some .int), Cond.fieldLink RX4 29 "Creditfabric$Packets" "places" "LCreditfabric$Row;", Cond.fieldLink RX4 41 "Creditfabric$Packets" "grid" "LCreditfabric$Grid;", Cond.fieldLink RX4 20 "Creditfabric$Packets" "goals" "LCreditfabric$Row;", Cond.fieldLink RX4 26 "Creditfabric$Packets" "modes" "LCreditfabric$Row;", Cond.methodLink RX4 56 yX5_at, Cond.methodLink RX4 60 yX3_outputTowards, Cond.instanceMethod yX3_outputTowards, Cond.selects RX3 yX3_outputTowards yX3_outputTowards]
def wsX7_circle_r3 : List Cond := [Cond.code yX3_outputTowards cX3_outputTowards 6 (some .int), Cond.fieldLink RX3 14 "Creditfabric$Grid" "columnOf" "LCreditfabric$Row;", Cond.fieldLink RX3 20 "Creditfabric$Grid" "rowOf" "LCreditfabric$Row;", Cond.methodLink RX3 38 yX5_at, Cond.methodLink RX3 42 yX3_stepTowards, Cond.static yX3_stepTowards, Cond.code yX3_stepTowards cX3_stepTowards 4 (some .int), Cond.methodLink RX1 72 yX1_nextBuffer, Cond.instanceMethod yX1_nextBuffer, Cond.selects RX1 yX1_nextBuffer yX1_nextBuffer, Cond.code yX1_nextBuffer cX1_nextBuffer 5 (some .int), Cond.methodLink RX1 108 yX3_behind, Cond.instanceMethod yX3_behind, Cond.selects RX3 yX3_behind yX3_behind, Cond.code yX3_behind cX3_behind 3 (some .int), Cond.static yX7_bufferOf, Cond.initialized RX7, Cond.code yX7_bufferOf cX7_bufferOf 3 (some .int), Cond.methodLink RX1 76 yX0_isFull, Cond.instanceMethod yX0_isFull, Cond.selects RX0 yX0_isFull yX0_isFull, Cond.code yX0_isFull cX0_isFull 2 (some .boolean), Cond.fieldLink RX0 23 "Creditfabric$Buffers" "room" "I", Cond.methodLink RX1 45 yX5_put]
def wsX7_circle_r4 : List Cond := [Cond.instanceMethod yX5_put, Cond.selects RX5 yX5_put yX5_put, Cond.code yX5_put cX5_put 3 none, Cond.methodLink RX1 49 yX1_comesBack, Cond.instanceMethod yX1_comesBack, Cond.selects RX1 yX1_comesBack yX1_comesBack, Cond.code yX1_comesBack cX1_comesBack 4 (some .boolean)]
def wsX7_circle : List Cond := .code yX7_circle cX7_circle 1 (some .int) :: ((wsX7_circle_r1 ++ (wsX7_circle_r2 ++ (wsX7_circle_r3 ++ wsX7_circle_r4))) ++ wsX70 ++ wsX10 ++ wsX30 ++ wsX40 ++ wsX00 ++ wsX50)
def wsX7_mayCircle_r1 : List Cond := [Cond.fieldLink RX7 51 "Creditfabric" "circles" "LCreditfabric$Circles;", Cond.methodLink RX7 202 yX1_hangsTogether, Cond.instanceMethod yX1_hangsTogether, Cond.selects RX1 yX1_hangsTogether yX1_hangsTogether, Cond.initialized RX1, Cond.code yX1_hangsTogether cX1_hangsTogether 3 (some .boolean), Cond.fieldLink RX1 20 "Creditfabric$Circles" "hangings" "LCreditfabric$Row;", Cond.fieldLink RX1 27 "Creditfabric$Circles" "traffic" "LCreditfabric$Packets;", Cond.methodLink RX1 79 yX5_fill, Cond.instanceMethod yX5_fill, Cond.selects RX5 yX5_fill yX5_fill, Cond.initialized RX5, Cond.code yX5_fill cX5_fill 3 none, Cond.fieldLink RX5 7 "Creditfabric$Row" "numbers" "[I", Cond.methodLink RX1 63 yX5_at, Cond.instanceMethod yX5_at, Cond.selects RX5 yX5_at yX5_at, Cond.code yX5_at cX5_at 2 (some .int), Cond.methodLink RX1 86 yX1_hangAlong, Cond.instanceMethod yX1_hangAlong, Cond.selects RX1 yX1_hangAlong yX1_hangAlong, Cond.code yX1_hangAlong cX1_hangAlong 8 none, Cond.fieldLink RX1 23 "Creditfabric$Circles" "grid" "LCreditfabric$Grid;", Cond.static yX7_bufferOf]
def wsX7_mayCircle_r2 : List Cond := [Cond.initialized RX7, Cond.code yX7_bufferOf cX7_bufferOf 3 (some .int), Cond.methodLink RX1 105 yX3_outputTowards, Cond.instanceMethod yX3_outputTowards, Cond.selects RX3 yX3_outputTowards yX3_outputTowards, Cond.initialized RX3, Cond.code yX3_outputTowards cX3_outputTowards 6 (some .int), Cond.fieldLink RX3 14 "Creditfabric$Grid" "columnOf" "LCreditfabric$Row;", Cond.fieldLink RX3 20 "Creditfabric$Grid" "rowOf" "LCreditfabric$Row;", Cond.methodLink RX3 38 yX5_at, Cond.methodLink RX3 42 yX3_stepTowards, Cond.static yX3_stepTowards, Cond.code yX3_stepTowards cX3_stepTowards 4 (some .int), Cond.methodLink RX1 72 yX1_nextBuffer, Cond.instanceMethod yX1_nextBuffer, Cond.selects RX1 yX1_nextBuffer yX1_nextBuffer, Cond.code yX1_nextBuffer cX1_nextBuffer 5 (some .int), Cond.methodLink RX1 108 yX3_behind, Cond.instanceMethod yX3_behind, Cond.selects RX3 yX3_behind yX3_behind, Cond.code yX3_behind cX3_behind 3 (some .int), Cond.fieldLink RX3 23 "Creditfabric$Grid" "columns" "I", Cond.fieldLink RX3 27 "Creditfabric$Grid" "rows" "I", Cond.methodLink RX1 45 yX5_put]
def wsX7_mayCircle_r3 : List Cond := [Cond.instanceMethod yX5_put, Cond.selects RX5 yX5_put yX5_put, Cond.code yX5_put cX5_put 3 none, Cond.methodLink RX1 89 yX1_cutEnds, Cond.instanceMethod yX1_cutEnds, Cond.selects RX1 yX1_cutEnds yX1_cutEnds, Cond.code yX1_cutEnds cX1_cutEnds 5 (some .boolean), Cond.methodLink RX1 35 yX3_size, Cond.instanceMethod yX3_size, Cond.selects RX3 yX3_size yX3_size, Cond.code yX3_size cX3_size 1 (some .int), Cond.methodLink RX1 112 yX1_isEnd, Cond.instanceMethod yX1_isEnd, Cond.selects RX1 yX1_isEnd yX1_isEnd, Cond.code yX1_isEnd cX1_isEnd 6 (some .boolean)]
def wsX7_mayCircle : List Cond := .code yX7_mayCircle cX7_mayCircle 1 (some .boolean) :: ((wsX7_mayCircle_r1 ++ (wsX7_mayCircle_r2 ++ wsX7_mayCircle_r3)) ++ wsX70 ++ wsX10 ++ wsX40 ++ wsX50 ++ wsX30)
def wsX8_begins : List Cond := .code yX8_begins cX8_begins 6 none :: ([.fieldLink RX8 7 "CreditfabricModel" "columns" "I", .fieldLink RX8 13 "CreditfabricModel" "rows" "I", .fieldLink RX8 16 "CreditfabricModel" "room" "I", .fieldLink RX8 97 "CreditfabricModel" "delay" "I", .fieldLink RX8 100 "CreditfabricModel" "tick" "I", .fieldLink RX8 82 "CreditfabricModel" "sent" "I", .fieldLink RX8 103 "CreditfabricModel" "out" "I", .fieldLink RX8 23 "CreditfabricModel" "many" "[I", .fieldLink RX8 26 "CreditfabricModel" "credit" "[I", .fieldLink RX8 29 "CreditfabricModel" "coming" "[I", .fieldLink RX8 32 "CreditfabricModel" "next" "[I", .fieldLink RX8 35 "CreditfabricModel" "gap" "[I", .fieldLink RX8 38 "CreditfabricModel" "last" "[I", .fieldLink RX8 41 "CreditfabricModel" "isPaused" "[Z"] ++ wsX80)
def wsX8_init_r1 : List Cond := [Cond.methodLink RX8 1 objectInit, Cond.instanceMethod objectInit, Cond.code objectInit ⟨#[0xb1]⟩ 1 none, Cond.fieldLink RX8 7 "CreditfabricModel" "columns" "I", Cond.fieldLink RX8 13 "CreditfabricModel" "rows" "I", Cond.fieldLink RX8 16 "CreditfabricModel" "room" "I", Cond.arrayClass .int, Cond.fieldLink RX8 19 "CreditfabricModel" "buffer" "[I", Cond.fieldLink RX8 23 "CreditfabricModel" "many" "[I", Cond.fieldLink RX8 26 "CreditfabricModel" "credit" "[I", Cond.fieldLink RX8 29 "CreditfabricModel" "coming" "[I", Cond.fieldLink RX8 32 "CreditfabricModel" "next" "[I", Cond.fieldLink RX8 35 "CreditfabricModel" "gap" "[I", Cond.fieldLink RX8 38 "CreditfabricModel" "last" "[I", Cond.arrayClass .boolean, Cond.fieldLink RX8 41 "CreditfabricModel" "isPaused" "[Z", Cond.fieldLink RX8 45 "CreditfabricModel" "goal" "[I", Cond.fieldLink RX8 48 "CreditfabricModel" "source" "[I", Cond.fieldLink RX8 51 "CreditfabricModel" "lane" "[I", Cond.fieldLink RX8 54 "CreditfabricModel" "mode" "[I", Cond.fieldLink RX8 57 "CreditfabricModel" "place" "[I", Cond.fieldLink RX8 60 "CreditfabricModel" "hops" "[I", Cond.fieldLink RX8 63 "CreditfabricModel" "isMarked" "[Z", Cond.fieldLink RX8 66 "CreditfabricModel" "chosen" "[I"]
def wsX8_init_r2 : List Cond := [Cond.fieldLink RX8 69 "CreditfabricModel" "hangs" "[Z", Cond.fieldLink RX8 72 "CreditfabricModel" "isGone" "[Z", Cond.methodLink RX8 75 yX8_begins, Cond.instanceMethod yX8_begins, Cond.selects RX8 yX8_begins yX8_begins, Cond.initialized RX8, Cond.code yX8_begins cX8_begins 6 none, Cond.fieldLink RX8 97 "CreditfabricModel" "delay" "I", Cond.fieldLink RX8 100 "CreditfabricModel" "tick" "I", Cond.fieldLink RX8 82 "CreditfabricModel" "sent" "I", Cond.fieldLink RX8 103 "CreditfabricModel" "out" "I"]
def wsX8_init : List Cond := .code yX8_init cX8_init 1 none :: ((wsX8_init_r1 ++ wsX8_init_r2) ++ wsX80)
def wsX8_thrown : List Cond := .code yX8_thrown cX8_thrown 1 (some .int) :: ([.fieldLink RX8 79 "CreditfabricModel" "thrown" "I"] ++ wsX80)
def wsX8_goes : List Cond := .code yX8_goes cX8_goes 4 (some .boolean) :: ([.fieldLink RX8 79 "CreditfabricModel" "thrown" "I"] ++ wsX80)
def wsX8_isWithin : List Cond := .code yX8_isWithin cX8_isWithin 3 (some .boolean) :: ([])
def wsX8_isSwitch : List Cond := .code yX8_isSwitch cX8_isSwitch 2 (some .boolean) :: ([.fieldLink RX8 7 "CreditfabricModel" "columns" "I", .fieldLink RX8 13 "CreditfabricModel" "rows" "I"] ++ wsX80)
def wsX8_isPacket : List Cond := .code yX8_isPacket cX8_isPacket 2 (some .boolean) :: ([.fieldLink RX8 82 "CreditfabricModel" "sent" "I"] ++ wsX80)
def wsX8_bufferOf : List Cond := .code yX8_bufferOf cX8_bufferOf 3 (some .int) :: ([])
def wsX8_linkOf : List Cond := .code yX8_linkOf cX8_linkOf 3 (some .int) :: ([])
def wsX8_neighbour : List Cond := .code yX8_neighbour cX8_neighbour 6 (some .int) :: ([.fieldLink RX8 7 "CreditfabricModel" "columns" "I", .fieldLink RX8 13 "CreditfabricModel" "rows" "I"] ++ wsX80)
def wsX8_isLink : List Cond := .code yX8_isLink cX8_isLink 3 (some .boolean) :: ([.methodLink RX8 85 yX8_isSwitch, .instanceMethod yX8_isSwitch, .selects RX8 yX8_isSwitch yX8_isSwitch, .initialized RX8, .code yX8_isSwitch cX8_isSwitch 2 (some .boolean), .fieldLink RX8 7 "CreditfabricModel" "columns" "I", .fieldLink RX8 13 "CreditfabricModel" "rows" "I", .methodLink RX8 89 yX8_isWithin, .static yX8_isWithin, .code yX8_isWithin cX8_isWithin 3 (some .boolean), .methodLink RX8 93 yX8_neighbour, .instanceMethod yX8_neighbour, .selects RX8 yX8_neighbour yX8_neighbour, .code yX8_neighbour cX8_neighbour 6 (some .int)] ++ wsX80)
def wsX8_begin_r1 : List Cond := [Cond.methodLink RX8 89 yX8_isWithin, Cond.static yX8_isWithin, Cond.initialized RX8, Cond.code yX8_isWithin cX8_isWithin 3 (some .boolean), Cond.methodLink RX8 106 yX8_goes, Cond.instanceMethod yX8_goes, Cond.selects RX8 yX8_goes yX8_goes, Cond.code yX8_goes cX8_goes 4 (some .boolean), Cond.fieldLink RX8 79 "CreditfabricModel" "thrown" "I", Cond.methodLink RX8 75 yX8_begins, Cond.instanceMethod yX8_begins, Cond.selects RX8 yX8_begins yX8_begins, Cond.code yX8_begins cX8_begins 6 none, Cond.fieldLink RX8 7 "CreditfabricModel" "columns" "I", Cond.fieldLink RX8 13 "CreditfabricModel" "rows" "I", Cond.fieldLink RX8 16 "CreditfabricModel" "room" "I", Cond.fieldLink RX8 97 "CreditfabricModel" "delay" "I", Cond.fieldLink RX8 100 "CreditfabricModel" "tick" "I", Cond.fieldLink RX8 82 "CreditfabricModel" "sent" "I", Cond.fieldLink RX8 103 "CreditfabricModel" "out" "I", Cond.fieldLink RX8 23 "CreditfabricModel" "many" "[I", Cond.fieldLink RX8 26 "CreditfabricModel" "credit" "[I", Cond.fieldLink RX8 29 "CreditfabricModel" "coming" "[I", Cond.fieldLink RX8 32 "CreditfabricModel" "next" "[I"]
def wsX8_begin_r2 : List Cond := [Cond.fieldLink RX8 35 "CreditfabricModel" "gap" "[I", Cond.fieldLink RX8 38 "CreditfabricModel" "last" "[I", Cond.fieldLink RX8 41 "CreditfabricModel" "isPaused" "[Z"]
def wsX8_begin : List Cond := .code yX8_begin cX8_begin 5 (some .int) :: ((wsX8_begin_r1 ++ wsX8_begin_r2) ++ wsX80)
def wsX8_puts : List Cond := .code yX8_puts cX8_puts 3 none :: ([.fieldLink RX8 19 "CreditfabricModel" "buffer" "[I", .fieldLink RX8 23 "CreditfabricModel" "many" "[I"] ++ wsX80)
def wsX8_takes : List Cond := .code yX8_takes cX8_takes 4 (some .int) :: ([.fieldLink RX8 19 "CreditfabricModel" "buffer" "[I", .fieldLink RX8 23 "CreditfabricModel" "many" "[I"] ++ wsX80)
def wsX8_send_r1 : List Cond := [Cond.fieldLink RX8 82 "CreditfabricModel" "sent" "I", Cond.fieldLink RX8 23 "CreditfabricModel" "many" "[I", Cond.fieldLink RX8 16 "CreditfabricModel" "room" "I", Cond.fieldLink RX8 38 "CreditfabricModel" "last" "[I", Cond.fieldLink RX8 100 "CreditfabricModel" "tick" "I", Cond.fieldLink RX8 35 "CreditfabricModel" "gap" "[I", Cond.fieldLink RX8 48 "CreditfabricModel" "source" "[I", Cond.fieldLink RX8 45 "CreditfabricModel" "goal" "[I", Cond.fieldLink RX8 51 "CreditfabricModel" "lane" "[I", Cond.fieldLink RX8 54 "CreditfabricModel" "mode" "[I", Cond.fieldLink RX8 57 "CreditfabricModel" "place" "[I", Cond.fieldLink RX8 60 "CreditfabricModel" "hops" "[I", Cond.fieldLink RX8 63 "CreditfabricModel" "isMarked" "[Z", Cond.methodLink RX8 85 yX8_isSwitch, Cond.instanceMethod yX8_isSwitch, Cond.selects RX8 yX8_isSwitch yX8_isSwitch, Cond.initialized RX8, Cond.code yX8_isSwitch cX8_isSwitch 2 (some .boolean), Cond.fieldLink RX8 7 "CreditfabricModel" "columns" "I", Cond.fieldLink RX8 13 "CreditfabricModel" "rows" "I", Cond.methodLink RX8 89 yX8_isWithin, Cond.static yX8_isWithin, Cond.code yX8_isWithin cX8_isWithin 3 (some .boolean), Cond.methodLink RX8 110 yX8_bufferOf]
def wsX8_send_r2 : List Cond := [Cond.static yX8_bufferOf, Cond.code yX8_bufferOf cX8_bufferOf 3 (some .int), Cond.methodLink RX8 106 yX8_goes, Cond.instanceMethod yX8_goes, Cond.selects RX8 yX8_goes yX8_goes, Cond.code yX8_goes cX8_goes 4 (some .boolean), Cond.fieldLink RX8 79 "CreditfabricModel" "thrown" "I", Cond.methodLink RX8 114 yX8_puts, Cond.instanceMethod yX8_puts, Cond.selects RX8 yX8_puts yX8_puts, Cond.code yX8_puts cX8_puts 3 none, Cond.fieldLink RX8 19 "CreditfabricModel" "buffer" "[I"]
def wsX8_send : List Cond := .code yX8_send cX8_send 8 (some .int) :: ((wsX8_send_r1 ++ wsX8_send_r2) ++ wsX80)
def wsX8_wanted : List Cond := .code yX8_wanted cX8_wanted 9 (some .int) :: ([.fieldLink RX8 45 "CreditfabricModel" "goal" "[I", .fieldLink RX8 7 "CreditfabricModel" "columns" "I", .fieldLink RX8 54 "CreditfabricModel" "mode" "[I"] ++ wsX80)
def wsX8_canGo : List Cond := .code yX8_canGo cX8_canGo 4 (some .boolean) :: ([.fieldLink RX8 26 "CreditfabricModel" "credit" "[I", .fieldLink RX8 41 "CreditfabricModel" "isPaused" "[Z", .methodLink RX8 118 yX8_linkOf, .static yX8_linkOf, .initialized RX8, .code yX8_linkOf cX8_linkOf 3 (some .int), .methodLink RX8 93 yX8_neighbour, .instanceMethod yX8_neighbour, .selects RX8 yX8_neighbour yX8_neighbour, .code yX8_neighbour cX8_neighbour 6 (some .int), .fieldLink RX8 7 "CreditfabricModel" "columns" "I", .fieldLink RX8 13 "CreditfabricModel" "rows" "I"] ++ wsX80)
def wsX8_chooses_r1 : List Cond := [Cond.fieldLink RX8 66 "CreditfabricModel" "chosen" "[I", Cond.fieldLink RX8 32 "CreditfabricModel" "next" "[I", Cond.fieldLink RX8 23 "CreditfabricModel" "many" "[I", Cond.fieldLink RX8 19 "CreditfabricModel" "buffer" "[I", Cond.methodLink RX8 121 yX8_wanted, Cond.instanceMethod yX8_wanted, Cond.selects RX8 yX8_wanted yX8_wanted, Cond.initialized RX8, Cond.code yX8_wanted cX8_wanted 9 (some .int), Cond.fieldLink RX8 45 "CreditfabricModel" "goal" "[I", Cond.fieldLink RX8 7 "CreditfabricModel" "columns" "I", Cond.fieldLink RX8 54 "CreditfabricModel" "mode" "[I", Cond.methodLink RX8 124 yX8_canGo, Cond.instanceMethod yX8_canGo, Cond.selects RX8 yX8_canGo yX8_canGo, Cond.code yX8_canGo cX8_canGo 4 (some .boolean), Cond.fieldLink RX8 26 "CreditfabricModel" "credit" "[I", Cond.fieldLink RX8 41 "CreditfabricModel" "isPaused" "[Z", Cond.methodLink RX8 118 yX8_linkOf, Cond.static yX8_linkOf, Cond.code yX8_linkOf cX8_linkOf 3 (some .int), Cond.methodLink RX8 93 yX8_neighbour, Cond.instanceMethod yX8_neighbour, Cond.selects RX8 yX8_neighbour yX8_neighbour]
def wsX8_chooses_r2 : List Cond := [Cond.code yX8_neighbour cX8_neighbour 6 (some .int), Cond.fieldLink RX8 13 "CreditfabricModel" "rows" "I"]
def wsX8_chooses : List Cond := .code yX8_chooses cX8_chooses 8 none :: ((wsX8_chooses_r1 ++ wsX8_chooses_r2) ++ wsX80)
def wsX8_inSwitch : List Cond := .code yX8_inSwitch cX8_inSwitch 4 (some .int) :: ([.fieldLink RX8 23 "CreditfabricModel" "many" "[I"] ++ wsX80)
def wsX8_comeBack : List Cond := .code yX8_comeBack cX8_comeBack 2 none :: ([.fieldLink RX8 26 "CreditfabricModel" "credit" "[I", .fieldLink RX8 29 "CreditfabricModel" "coming" "[I", .fieldLink RX8 100 "CreditfabricModel" "tick" "I"] ++ wsX80)
def wsX8_leaves : List Cond := .code yX8_leaves cX8_leaves 8 none :: ([.fieldLink RX8 66 "CreditfabricModel" "chosen" "[I", .fieldLink RX8 32 "CreditfabricModel" "next" "[I", .fieldLink RX8 29 "CreditfabricModel" "coming" "[I", .fieldLink RX8 100 "CreditfabricModel" "tick" "I", .fieldLink RX8 97 "CreditfabricModel" "delay" "I", .fieldLink RX8 26 "CreditfabricModel" "credit" "[I", .methodLink RX8 127 yX8_takes, .instanceMethod yX8_takes, .selects RX8 yX8_takes yX8_takes, .initialized RX8, .code yX8_takes cX8_takes 4 (some .int), .fieldLink RX8 19 "CreditfabricModel" "buffer" "[I", .fieldLink RX8 23 "CreditfabricModel" "many" "[I", .methodLink RX8 93 yX8_neighbour, .instanceMethod yX8_neighbour, .selects RX8 yX8_neighbour yX8_neighbour, .code yX8_neighbour cX8_neighbour 6 (some .int), .fieldLink RX8 7 "CreditfabricModel" "columns" "I", .fieldLink RX8 13 "CreditfabricModel" "rows" "I", .methodLink RX8 118 yX8_linkOf, .static yX8_linkOf, .code yX8_linkOf cX8_linkOf 3 (some .int)] ++ wsX80)
def wsX8_ticks_r1 : List Cond := [Cond.fieldLink RX8 7 "CreditfabricModel" "columns" "I", Cond.fieldLink RX8 13 "CreditfabricModel" "rows" "I", Cond.fieldLink RX8 66 "CreditfabricModel" "chosen" "[I", Cond.fieldLink RX8 51 "CreditfabricModel" "lane" "[I", Cond.fieldLink RX8 57 "CreditfabricModel" "place" "[I", Cond.fieldLink RX8 60 "CreditfabricModel" "hops" "[I", Cond.fieldLink RX8 48 "CreditfabricModel" "source" "[I", Cond.fieldLink RX8 35 "CreditfabricModel" "gap" "[I", Cond.fieldLink RX8 63 "CreditfabricModel" "isMarked" "[Z", Cond.fieldLink RX8 100 "CreditfabricModel" "tick" "I", Cond.methodLink RX8 131 yX8_comeBack, Cond.instanceMethod yX8_comeBack, Cond.selects RX8 yX8_comeBack yX8_comeBack, Cond.initialized RX8, Cond.code yX8_comeBack cX8_comeBack 2 none, Cond.fieldLink RX8 26 "CreditfabricModel" "credit" "[I", Cond.fieldLink RX8 29 "CreditfabricModel" "coming" "[I", Cond.methodLink RX8 93 yX8_neighbour, Cond.instanceMethod yX8_neighbour, Cond.selects RX8 yX8_neighbour yX8_neighbour, Cond.code yX8_neighbour cX8_neighbour 6 (some .int), Cond.methodLink RX8 134 yX8_chooses, Cond.instanceMethod yX8_chooses, Cond.selects RX8 yX8_chooses yX8_chooses]
def wsX8_ticks_r2 : List Cond := [Cond.code yX8_chooses cX8_chooses 8 none, Cond.fieldLink RX8 32 "CreditfabricModel" "next" "[I", Cond.fieldLink RX8 23 "CreditfabricModel" "many" "[I", Cond.fieldLink RX8 19 "CreditfabricModel" "buffer" "[I", Cond.methodLink RX8 121 yX8_wanted, Cond.instanceMethod yX8_wanted, Cond.selects RX8 yX8_wanted yX8_wanted, Cond.code yX8_wanted cX8_wanted 9 (some .int), Cond.fieldLink RX8 45 "CreditfabricModel" "goal" "[I", Cond.fieldLink RX8 54 "CreditfabricModel" "mode" "[I", Cond.methodLink RX8 124 yX8_canGo, Cond.instanceMethod yX8_canGo, Cond.selects RX8 yX8_canGo yX8_canGo, Cond.code yX8_canGo cX8_canGo 4 (some .boolean), Cond.fieldLink RX8 41 "CreditfabricModel" "isPaused" "[Z", Cond.methodLink RX8 118 yX8_linkOf, Cond.static yX8_linkOf, Cond.code yX8_linkOf cX8_linkOf 3 (some .int), Cond.methodLink RX8 137 yX8_leaves, Cond.instanceMethod yX8_leaves, Cond.selects RX8 yX8_leaves yX8_leaves, Cond.code yX8_leaves cX8_leaves 8 none, Cond.fieldLink RX8 97 "CreditfabricModel" "delay" "I", Cond.methodLink RX8 127 yX8_takes]
def wsX8_ticks_r3 : List Cond := [Cond.instanceMethod yX8_takes, Cond.selects RX8 yX8_takes yX8_takes, Cond.code yX8_takes cX8_takes 4 (some .int), Cond.methodLink RX8 110 yX8_bufferOf, Cond.static yX8_bufferOf, Cond.code yX8_bufferOf cX8_bufferOf 3 (some .int), Cond.methodLink RX8 114 yX8_puts, Cond.instanceMethod yX8_puts, Cond.selects RX8 yX8_puts yX8_puts, Cond.code yX8_puts cX8_puts 3 none, Cond.methodLink RX8 140 yX8_inSwitch, Cond.instanceMethod yX8_inSwitch, Cond.selects RX8 yX8_inSwitch yX8_inSwitch, Cond.code yX8_inSwitch cX8_inSwitch 4 (some .int)]
def wsX8_ticks : List Cond := .code yX8_ticks cX8_ticks 7 (some .int) :: ((wsX8_ticks_r1 ++ (wsX8_ticks_r2 ++ wsX8_ticks_r3)) ++ wsX80)
def wsX8_run_r1 : List Cond := [Cond.fieldLink RX8 103 "CreditfabricModel" "out" "I", Cond.methodLink RX8 89 yX8_isWithin, Cond.static yX8_isWithin, Cond.initialized RX8, Cond.code yX8_isWithin cX8_isWithin 3 (some .boolean), Cond.methodLink RX8 106 yX8_goes, Cond.instanceMethod yX8_goes, Cond.selects RX8 yX8_goes yX8_goes, Cond.code yX8_goes cX8_goes 4 (some .boolean), Cond.fieldLink RX8 79 "CreditfabricModel" "thrown" "I", Cond.methodLink RX8 143 yX8_ticks, Cond.instanceMethod yX8_ticks, Cond.selects RX8 yX8_ticks yX8_ticks, Cond.code yX8_ticks cX8_ticks 7 (some .int), Cond.fieldLink RX8 7 "CreditfabricModel" "columns" "I", Cond.fieldLink RX8 13 "CreditfabricModel" "rows" "I", Cond.fieldLink RX8 66 "CreditfabricModel" "chosen" "[I", Cond.fieldLink RX8 51 "CreditfabricModel" "lane" "[I", Cond.fieldLink RX8 57 "CreditfabricModel" "place" "[I", Cond.fieldLink RX8 60 "CreditfabricModel" "hops" "[I", Cond.fieldLink RX8 48 "CreditfabricModel" "source" "[I", Cond.fieldLink RX8 35 "CreditfabricModel" "gap" "[I", Cond.fieldLink RX8 63 "CreditfabricModel" "isMarked" "[Z", Cond.fieldLink RX8 100 "CreditfabricModel" "tick" "I"]
def wsX8_run_r2 : List Cond := [Cond.methodLink RX8 131 yX8_comeBack, Cond.instanceMethod yX8_comeBack, Cond.selects RX8 yX8_comeBack yX8_comeBack, Cond.code yX8_comeBack cX8_comeBack 2 none, Cond.fieldLink RX8 26 "CreditfabricModel" "credit" "[I", Cond.fieldLink RX8 29 "CreditfabricModel" "coming" "[I", Cond.methodLink RX8 93 yX8_neighbour, Cond.instanceMethod yX8_neighbour, Cond.selects RX8 yX8_neighbour yX8_neighbour, Cond.code yX8_neighbour cX8_neighbour 6 (some .int), Cond.methodLink RX8 134 yX8_chooses, Cond.instanceMethod yX8_chooses, Cond.selects RX8 yX8_chooses yX8_chooses, Cond.code yX8_chooses cX8_chooses 8 none, Cond.fieldLink RX8 32 "CreditfabricModel" "next" "[I", Cond.fieldLink RX8 23 "CreditfabricModel" "many" "[I", Cond.fieldLink RX8 19 "CreditfabricModel" "buffer" "[I", Cond.methodLink RX8 121 yX8_wanted, Cond.instanceMethod yX8_wanted, Cond.selects RX8 yX8_wanted yX8_wanted, Cond.code yX8_wanted cX8_wanted 9 (some .int), Cond.fieldLink RX8 45 "CreditfabricModel" "goal" "[I", Cond.fieldLink RX8 54 "CreditfabricModel" "mode" "[I", Cond.methodLink RX8 124 yX8_canGo]
def wsX8_run_r3 : List Cond := [Cond.instanceMethod yX8_canGo, Cond.selects RX8 yX8_canGo yX8_canGo, Cond.code yX8_canGo cX8_canGo 4 (some .boolean), Cond.fieldLink RX8 41 "CreditfabricModel" "isPaused" "[Z", Cond.methodLink RX8 118 yX8_linkOf, Cond.static yX8_linkOf, Cond.code yX8_linkOf cX8_linkOf 3 (some .int), Cond.methodLink RX8 137 yX8_leaves, Cond.instanceMethod yX8_leaves, Cond.selects RX8 yX8_leaves yX8_leaves, Cond.code yX8_leaves cX8_leaves 8 none, Cond.fieldLink RX8 97 "CreditfabricModel" "delay" "I", Cond.methodLink RX8 127 yX8_takes, Cond.instanceMethod yX8_takes, Cond.selects RX8 yX8_takes yX8_takes, Cond.code yX8_takes cX8_takes 4 (some .int), Cond.methodLink RX8 110 yX8_bufferOf, Cond.static yX8_bufferOf, Cond.code yX8_bufferOf cX8_bufferOf 3 (some .int), Cond.methodLink RX8 114 yX8_puts, Cond.instanceMethod yX8_puts, Cond.selects RX8 yX8_puts yX8_puts, Cond.code yX8_puts cX8_puts 3 none, Cond.methodLink RX8 140 yX8_inSwitch]
def wsX8_run_r4 : List Cond := [Cond.instanceMethod yX8_inSwitch, Cond.selects RX8 yX8_inSwitch yX8_inSwitch, Cond.code yX8_inSwitch cX8_inSwitch 4 (some .int)]
def wsX8_run : List Cond := .code yX8_run cX8_run 4 (some .int) :: ((wsX8_run_r1 ++ (wsX8_run_r2 ++ (wsX8_run_r3 ++ wsX8_run_r4))) ++ wsX80)
def wsX8_pause : List Cond := .code yX8_pause cX8_pause 4 (some .boolean) :: ([.fieldLink RX8 41 "CreditfabricModel" "isPaused" "[Z", .methodLink RX8 85 yX8_isSwitch, .instanceMethod yX8_isSwitch, .selects RX8 yX8_isSwitch yX8_isSwitch, .initialized RX8, .code yX8_isSwitch cX8_isSwitch 2 (some .boolean), .fieldLink RX8 7 "CreditfabricModel" "columns" "I", .fieldLink RX8 13 "CreditfabricModel" "rows" "I", .methodLink RX8 106 yX8_goes, .instanceMethod yX8_goes, .selects RX8 yX8_goes yX8_goes, .code yX8_goes cX8_goes 4 (some .boolean), .fieldLink RX8 79 "CreditfabricModel" "thrown" "I"] ++ wsX80)
def wsX8_lose_r1 : List Cond := [Cond.fieldLink RX8 26 "CreditfabricModel" "credit" "[I", Cond.methodLink RX8 147 yX8_isLink, Cond.instanceMethod yX8_isLink, Cond.selects RX8 yX8_isLink yX8_isLink, Cond.initialized RX8, Cond.code yX8_isLink cX8_isLink 3 (some .boolean), Cond.methodLink RX8 85 yX8_isSwitch, Cond.instanceMethod yX8_isSwitch, Cond.selects RX8 yX8_isSwitch yX8_isSwitch, Cond.code yX8_isSwitch cX8_isSwitch 2 (some .boolean), Cond.fieldLink RX8 7 "CreditfabricModel" "columns" "I", Cond.fieldLink RX8 13 "CreditfabricModel" "rows" "I", Cond.methodLink RX8 89 yX8_isWithin, Cond.static yX8_isWithin, Cond.code yX8_isWithin cX8_isWithin 3 (some .boolean), Cond.methodLink RX8 93 yX8_neighbour, Cond.instanceMethod yX8_neighbour, Cond.selects RX8 yX8_neighbour yX8_neighbour, Cond.code yX8_neighbour cX8_neighbour 6 (some .int), Cond.methodLink RX8 118 yX8_linkOf, Cond.static yX8_linkOf, Cond.code yX8_linkOf cX8_linkOf 3 (some .int), Cond.methodLink RX8 106 yX8_goes, Cond.instanceMethod yX8_goes]
def wsX8_lose_r2 : List Cond := [Cond.selects RX8 yX8_goes yX8_goes, Cond.code yX8_goes cX8_goes 4 (some .boolean), Cond.fieldLink RX8 79 "CreditfabricModel" "thrown" "I"]
def wsX8_lose : List Cond := .code yX8_lose cX8_lose 6 (some .int) :: ((wsX8_lose_r1 ++ wsX8_lose_r2) ++ wsX80)
def wsX8_recover : List Cond := .code yX8_recover cX8_recover 7 (some .int) :: ([.fieldLink RX8 79 "CreditfabricModel" "thrown" "I", .fieldLink RX8 7 "CreditfabricModel" "columns" "I", .fieldLink RX8 13 "CreditfabricModel" "rows" "I", .fieldLink RX8 16 "CreditfabricModel" "room" "I", .fieldLink RX8 23 "CreditfabricModel" "many" "[I", .fieldLink RX8 29 "CreditfabricModel" "coming" "[I", .fieldLink RX8 26 "CreditfabricModel" "credit" "[I", .methodLink RX8 93 yX8_neighbour, .instanceMethod yX8_neighbour, .selects RX8 yX8_neighbour yX8_neighbour, .initialized RX8, .code yX8_neighbour cX8_neighbour 6 (some .int), .methodLink RX8 110 yX8_bufferOf, .static yX8_bufferOf, .code yX8_bufferOf cX8_bufferOf 3 (some .int)] ++ wsX80)
def wsX8_tick : List Cond := .code yX8_tick cX8_tick 1 (some .int) :: ([.fieldLink RX8 79 "CreditfabricModel" "thrown" "I", .fieldLink RX8 100 "CreditfabricModel" "tick" "I"] ++ wsX80)
def wsX8_packets : List Cond := .code yX8_packets cX8_packets 1 (some .int) :: ([.fieldLink RX8 79 "CreditfabricModel" "thrown" "I", .fieldLink RX8 82 "CreditfabricModel" "sent" "I"] ++ wsX80)
def wsX8_arrived : List Cond := .code yX8_arrived cX8_arrived 1 (some .int) :: ([.fieldLink RX8 79 "CreditfabricModel" "thrown" "I", .fieldLink RX8 103 "CreditfabricModel" "out" "I"] ++ wsX80)
def wsX8_credits_r1 : List Cond := [Cond.fieldLink RX8 26 "CreditfabricModel" "credit" "[I", Cond.methodLink RX8 147 yX8_isLink, Cond.instanceMethod yX8_isLink, Cond.selects RX8 yX8_isLink yX8_isLink, Cond.initialized RX8, Cond.code yX8_isLink cX8_isLink 3 (some .boolean), Cond.methodLink RX8 85 yX8_isSwitch, Cond.instanceMethod yX8_isSwitch, Cond.selects RX8 yX8_isSwitch yX8_isSwitch, Cond.code yX8_isSwitch cX8_isSwitch 2 (some .boolean), Cond.fieldLink RX8 7 "CreditfabricModel" "columns" "I", Cond.fieldLink RX8 13 "CreditfabricModel" "rows" "I", Cond.methodLink RX8 89 yX8_isWithin, Cond.static yX8_isWithin, Cond.code yX8_isWithin cX8_isWithin 3 (some .boolean), Cond.methodLink RX8 93 yX8_neighbour, Cond.instanceMethod yX8_neighbour, Cond.selects RX8 yX8_neighbour yX8_neighbour, Cond.code yX8_neighbour cX8_neighbour 6 (some .int), Cond.methodLink RX8 106 yX8_goes, Cond.instanceMethod yX8_goes, Cond.selects RX8 yX8_goes yX8_goes, Cond.code yX8_goes cX8_goes 4 (some .boolean), Cond.fieldLink RX8 79 "CreditfabricModel" "thrown" "I"]
def wsX8_credits_r2 : List Cond := [Cond.methodLink RX8 118 yX8_linkOf, Cond.static yX8_linkOf, Cond.code yX8_linkOf cX8_linkOf 3 (some .int)]
def wsX8_credits : List Cond := .code yX8_credits cX8_credits 4 (some .int) :: ((wsX8_credits_r1 ++ wsX8_credits_r2) ++ wsX80)
def wsX8_inBuffer : List Cond := .code yX8_inBuffer cX8_inBuffer 4 (some .int) :: ([.fieldLink RX8 23 "CreditfabricModel" "many" "[I", .methodLink RX8 85 yX8_isSwitch, .instanceMethod yX8_isSwitch, .selects RX8 yX8_isSwitch yX8_isSwitch, .initialized RX8, .code yX8_isSwitch cX8_isSwitch 2 (some .boolean), .fieldLink RX8 7 "CreditfabricModel" "columns" "I", .fieldLink RX8 13 "CreditfabricModel" "rows" "I", .methodLink RX8 89 yX8_isWithin, .static yX8_isWithin, .code yX8_isWithin cX8_isWithin 3 (some .boolean), .methodLink RX8 106 yX8_goes, .instanceMethod yX8_goes, .selects RX8 yX8_goes yX8_goes, .code yX8_goes cX8_goes 4 (some .boolean), .fieldLink RX8 79 "CreditfabricModel" "thrown" "I", .methodLink RX8 110 yX8_bufferOf, .static yX8_bufferOf, .code yX8_bufferOf cX8_bufferOf 3 (some .int)] ++ wsX80)
def wsX8_gap : List Cond := .code yX8_gap cX8_gap 2 (some .int) :: ([.fieldLink RX8 35 "CreditfabricModel" "gap" "[I", .methodLink RX8 85 yX8_isSwitch, .instanceMethod yX8_isSwitch, .selects RX8 yX8_isSwitch yX8_isSwitch, .initialized RX8, .code yX8_isSwitch cX8_isSwitch 2 (some .boolean), .fieldLink RX8 7 "CreditfabricModel" "columns" "I", .fieldLink RX8 13 "CreditfabricModel" "rows" "I", .methodLink RX8 106 yX8_goes, .instanceMethod yX8_goes, .selects RX8 yX8_goes yX8_goes, .code yX8_goes cX8_goes 4 (some .boolean), .fieldLink RX8 79 "CreditfabricModel" "thrown" "I"] ++ wsX80)
def wsX8_placeOf : List Cond := .code yX8_placeOf cX8_placeOf 2 (some .int) :: ([.fieldLink RX8 57 "CreditfabricModel" "place" "[I", .methodLink RX8 151 yX8_isPacket, .instanceMethod yX8_isPacket, .selects RX8 yX8_isPacket yX8_isPacket, .initialized RX8, .code yX8_isPacket cX8_isPacket 2 (some .boolean), .fieldLink RX8 82 "CreditfabricModel" "sent" "I", .methodLink RX8 106 yX8_goes, .instanceMethod yX8_goes, .selects RX8 yX8_goes yX8_goes, .code yX8_goes cX8_goes 4 (some .boolean), .fieldLink RX8 79 "CreditfabricModel" "thrown" "I"] ++ wsX80)
def wsX8_hops : List Cond := .code yX8_hops cX8_hops 2 (some .int) :: ([.fieldLink RX8 60 "CreditfabricModel" "hops" "[I", .methodLink RX8 151 yX8_isPacket, .instanceMethod yX8_isPacket, .selects RX8 yX8_isPacket yX8_isPacket, .initialized RX8, .code yX8_isPacket cX8_isPacket 2 (some .boolean), .fieldLink RX8 82 "CreditfabricModel" "sent" "I", .methodLink RX8 106 yX8_goes, .instanceMethod yX8_goes, .selects RX8 yX8_goes yX8_goes, .code yX8_goes cX8_goes 4 (some .boolean), .fieldLink RX8 79 "CreditfabricModel" "thrown" "I"] ++ wsX80)
def wsX8_isMarked : List Cond := .code yX8_isMarked cX8_isMarked 2 (some .boolean) :: ([.fieldLink RX8 63 "CreditfabricModel" "isMarked" "[Z", .methodLink RX8 151 yX8_isPacket, .instanceMethod yX8_isPacket, .selects RX8 yX8_isPacket yX8_isPacket, .initialized RX8, .code yX8_isPacket cX8_isPacket 2 (some .boolean), .fieldLink RX8 82 "CreditfabricModel" "sent" "I", .methodLink RX8 106 yX8_goes, .instanceMethod yX8_goes, .selects RX8 yX8_goes yX8_goes, .code yX8_goes cX8_goes 4 (some .boolean), .fieldLink RX8 79 "CreditfabricModel" "thrown" "I"] ++ wsX80)
def wsX8_wants : List Cond := .code yX8_wants cX8_wants 2 (some .int) :: ([.fieldLink RX8 57 "CreditfabricModel" "place" "[I", .methodLink RX8 151 yX8_isPacket, .instanceMethod yX8_isPacket, .selects RX8 yX8_isPacket yX8_isPacket, .initialized RX8, .code yX8_isPacket cX8_isPacket 2 (some .boolean), .fieldLink RX8 82 "CreditfabricModel" "sent" "I", .methodLink RX8 106 yX8_goes, .instanceMethod yX8_goes, .selects RX8 yX8_goes yX8_goes, .code yX8_goes cX8_goes 4 (some .boolean), .fieldLink RX8 79 "CreditfabricModel" "thrown" "I", .methodLink RX8 121 yX8_wanted, .instanceMethod yX8_wanted, .selects RX8 yX8_wanted yX8_wanted, .code yX8_wanted cX8_wanted 9 (some .int), .fieldLink RX8 45 "CreditfabricModel" "goal" "[I", .fieldLink RX8 7 "CreditfabricModel" "columns" "I", .fieldLink RX8 54 "CreditfabricModel" "mode" "[I"] ++ wsX80)
def wsX8_waitsFor : List Cond := .code yX8_waitsFor cX8_waitsFor 5 (some .int) :: ([.fieldLink RX8 23 "CreditfabricModel" "many" "[I", .fieldLink RX8 19 "CreditfabricModel" "buffer" "[I", .fieldLink RX8 16 "CreditfabricModel" "room" "I", .methodLink RX8 121 yX8_wanted, .instanceMethod yX8_wanted, .selects RX8 yX8_wanted yX8_wanted, .initialized RX8, .code yX8_wanted cX8_wanted 9 (some .int), .fieldLink RX8 45 "CreditfabricModel" "goal" "[I", .fieldLink RX8 7 "CreditfabricModel" "columns" "I", .fieldLink RX8 54 "CreditfabricModel" "mode" "[I", .methodLink RX8 93 yX8_neighbour, .instanceMethod yX8_neighbour, .selects RX8 yX8_neighbour yX8_neighbour, .code yX8_neighbour cX8_neighbour 6 (some .int), .fieldLink RX8 13 "CreditfabricModel" "rows" "I", .methodLink RX8 110 yX8_bufferOf, .static yX8_bufferOf, .code yX8_bufferOf cX8_bufferOf 3 (some .int)] ++ wsX80)
def wsX8_circle : List Cond := .code yX8_circle cX8_circle 6 (some .int) :: ([.fieldLink RX8 79 "CreditfabricModel" "thrown" "I", .fieldLink RX8 7 "CreditfabricModel" "columns" "I", .fieldLink RX8 13 "CreditfabricModel" "rows" "I", .methodLink RX8 154 yX8_waitsFor, .instanceMethod yX8_waitsFor, .selects RX8 yX8_waitsFor yX8_waitsFor, .initialized RX8, .code yX8_waitsFor cX8_waitsFor 5 (some .int), .fieldLink RX8 23 "CreditfabricModel" "many" "[I", .fieldLink RX8 19 "CreditfabricModel" "buffer" "[I", .fieldLink RX8 16 "CreditfabricModel" "room" "I", .methodLink RX8 121 yX8_wanted, .instanceMethod yX8_wanted, .selects RX8 yX8_wanted yX8_wanted, .code yX8_wanted cX8_wanted 9 (some .int), .fieldLink RX8 45 "CreditfabricModel" "goal" "[I", .fieldLink RX8 54 "CreditfabricModel" "mode" "[I", .methodLink RX8 93 yX8_neighbour, .instanceMethod yX8_neighbour, .selects RX8 yX8_neighbour yX8_neighbour, .code yX8_neighbour cX8_neighbour 6 (some .int), .methodLink RX8 110 yX8_bufferOf, .static yX8_bufferOf, .code yX8_bufferOf cX8_bufferOf 3 (some .int)] ++ wsX80)
def wsX8_lays : List Cond := .code yX8_lays cX8_lays 7 none :: ([.fieldLink RX8 69 "CreditfabricModel" "hangs" "[Z", .fieldLink RX8 7 "CreditfabricModel" "columns" "I", .fieldLink RX8 13 "CreditfabricModel" "rows" "I", .fieldLink RX8 23 "CreditfabricModel" "many" "[I", .fieldLink RX8 19 "CreditfabricModel" "buffer" "[I", .fieldLink RX8 51 "CreditfabricModel" "lane" "[I", .methodLink RX8 121 yX8_wanted, .instanceMethod yX8_wanted, .selects RX8 yX8_wanted yX8_wanted, .initialized RX8, .code yX8_wanted cX8_wanted 9 (some .int), .fieldLink RX8 45 "CreditfabricModel" "goal" "[I", .fieldLink RX8 54 "CreditfabricModel" "mode" "[I", .methodLink RX8 93 yX8_neighbour, .instanceMethod yX8_neighbour, .selects RX8 yX8_neighbour yX8_neighbour, .code yX8_neighbour cX8_neighbour 6 (some .int), .methodLink RX8 110 yX8_bufferOf, .static yX8_bufferOf, .code yX8_bufferOf cX8_bufferOf 3 (some .int)] ++ wsX80)
def wsX8_mayCircle_r1 : List Cond := [Cond.fieldLink RX8 79 "CreditfabricModel" "thrown" "I", Cond.fieldLink RX8 7 "CreditfabricModel" "columns" "I", Cond.fieldLink RX8 13 "CreditfabricModel" "rows" "I", Cond.fieldLink RX8 72 "CreditfabricModel" "isGone" "[Z", Cond.fieldLink RX8 69 "CreditfabricModel" "hangs" "[Z", Cond.methodLink RX8 157 yX8_lays, Cond.instanceMethod yX8_lays, Cond.selects RX8 yX8_lays yX8_lays, Cond.initialized RX8, Cond.code yX8_lays cX8_lays 7 none, Cond.fieldLink RX8 23 "CreditfabricModel" "many" "[I", Cond.fieldLink RX8 19 "CreditfabricModel" "buffer" "[I", Cond.fieldLink RX8 51 "CreditfabricModel" "lane" "[I", Cond.methodLink RX8 121 yX8_wanted, Cond.instanceMethod yX8_wanted, Cond.selects RX8 yX8_wanted yX8_wanted, Cond.code yX8_wanted cX8_wanted 9 (some .int), Cond.fieldLink RX8 45 "CreditfabricModel" "goal" "[I", Cond.fieldLink RX8 54 "CreditfabricModel" "mode" "[I", Cond.methodLink RX8 93 yX8_neighbour, Cond.instanceMethod yX8_neighbour, Cond.selects RX8 yX8_neighbour yX8_neighbour, Cond.code yX8_neighbour cX8_neighbour 6 (some .int), Cond.methodLink RX8 110 yX8_bufferOf]
def wsX8_mayCircle_r2 : List Cond := [Cond.static yX8_bufferOf, Cond.code yX8_bufferOf cX8_bufferOf 3 (some .int)]
def wsX8_mayCircle : List Cond := .code yX8_mayCircle cX8_mayCircle 7 (some .boolean) :: ((wsX8_mayCircle_r1 ++ wsX8_mayCircle_r2) ++ wsX80)
def wsJ9_max_7cf53 : List Cond := .code yJ9_max_7cf53 cJ9_max_7cf53 2 (some .int) :: ([])
def wsJ9_min_7cf53 : List Cond := .code yJ9_min_7cf53 cJ9_min_7cf53 2 (some .int) :: ([])
def wsL_begin_r1 : List Cond := [Cond.classLink RL 13 "java/lang/IllegalArgumentException", Cond.methodLink RL 7 yX7_begin, Cond.instanceMethod yX7_begin, Cond.selects RX7 yX7_begin yX7_begin, Cond.initialized RX7, Cond.code yX7_begin cX7_begin 5 (some .int), Cond.classLink RX7 77 "java/lang/IllegalArgumentException", Cond.initialized "java/lang/IllegalArgumentException", Cond.fieldLink RX7 12 "Creditfabric" "grid" "LCreditfabric$Grid;", Cond.methodLink RX7 73 yX7_layAnew, Cond.instanceMethod yX7_layAnew, Cond.selects RX7 yX7_layAnew yX7_layAnew, Cond.code yX7_layAnew cX7_layAnew 5 none, Cond.fieldLink RX7 21 "Creditfabric" "traffic" "LCreditfabric$Packets;", Cond.fieldLink RX7 28 "Creditfabric" "buffers" "LCreditfabric$Buffers;", Cond.fieldLink RX7 35 "Creditfabric" "purse" "LCreditfabric$Credits;", Cond.fieldLink RX7 42 "Creditfabric" "senders" "LCreditfabric$Senders;", Cond.fieldLink RX7 60 "Creditfabric" "paused" "LCreditfabric$Row;", Cond.fieldLink RX7 64 "Creditfabric" "turns" "LCreditfabric$Row;", Cond.fieldLink RX7 115 "Creditfabric" "now" "I", Cond.methodLink RX7 223 yX3_lay, Cond.instanceMethod yX3_lay, Cond.selects RX3 yX3_lay yX3_lay, Cond.initialized RX3]
def wsL_begin_r2 : List Cond := [Cond.code yX3_lay cX3_lay 5 none, Cond.fieldLink RX3 23 "Creditfabric$Grid" "columns" "I", Cond.fieldLink RX3 27 "Creditfabric$Grid" "rows" "I", Cond.fieldLink RX3 14 "Creditfabric$Grid" "columnOf" "LCreditfabric$Row;", Cond.fieldLink RX3 20 "Creditfabric$Grid" "rowOf" "LCreditfabric$Row;", Cond.methodLink RX3 30 yX5_put, Cond.instanceMethod yX5_put, Cond.selects RX5 yX5_put yX5_put, Cond.initialized RX5, Cond.code yX5_put cX5_put 3 none, Cond.fieldLink RX5 7 "Creditfabric$Row" "numbers" "[I", Cond.methodLink RX7 226 yX4_clear, Cond.instanceMethod yX4_clear, Cond.selects RX4 yX4_clear yX4_clear, Cond.initialized RX4, Cond.code yX4_clear cX4_clear 1 none, Cond.fieldLink RX4 45 "Creditfabric$Packets" "count" "I", Cond.fieldLink RX4 49 "Creditfabric$Packets" "gone" "I", Cond.methodLink RX7 229 yX0_clear, Cond.instanceMethod yX0_clear, Cond.selects RX0 yX0_clear yX0_clear, Cond.initialized RX0, Cond.code yX0_clear cX0_clear 2 none, Cond.fieldLink RX0 23 "Creditfabric$Buffers" "room" "I"]
def wsL_begin_r3 : List Cond := [Cond.fieldLink RX0 20 "Creditfabric$Buffers" "sizes" "LCreditfabric$Row;", Cond.methodLink RX0 27 yX5_fill, Cond.instanceMethod yX5_fill, Cond.selects RX5 yX5_fill yX5_fill, Cond.code yX5_fill cX5_fill 3 none, Cond.methodLink RX7 231 yX2_fill, Cond.instanceMethod yX2_fill, Cond.selects RX2 yX2_fill yX2_fill, Cond.initialized RX2, Cond.code yX2_fill cX2_fill 3 none, Cond.fieldLink RX2 23 "Creditfabric$Credits" "delay" "I", Cond.fieldLink RX2 14 "Creditfabric$Credits" "there" "LCreditfabric$Row;", Cond.fieldLink RX2 20 "Creditfabric$Credits" "coming" "LCreditfabric$Row;", Cond.fieldLink RX2 30 "Creditfabric$Credits" "comingInAll" "I", Cond.methodLink RX2 27 yX5_fill, Cond.methodLink RX7 234 yX6_clear, Cond.instanceMethod yX6_clear, Cond.selects RX6 yX6_clear yX6_clear, Cond.initialized RX6, Cond.code yX6_clear cX6_clear 1 none, Cond.fieldLink RX6 14 "Creditfabric$Senders" "gaps" "LCreditfabric$Row;", Cond.fieldLink RX6 20 "Creditfabric$Senders" "lastTicks" "LCreditfabric$Row;", Cond.methodLink RX6 23 yX5_fill, Cond.methodLink RX7 235 yX5_fill]
def wsL_begin_r4 : List Cond := [Cond.methodLink RX7 88 yX3_size, Cond.instanceMethod yX3_size, Cond.selects RX3 yX3_size yX3_size, Cond.code yX3_size cX3_size 1 (some .int)]
def wsL_begin : List Cond := .codeWith yL_begin cL_begin 7 (some .int) [(0, 14, 17, 13)] :: ((wsL_begin_r1 ++ (wsL_begin_r2 ++ (wsL_begin_r3 ++ wsL_begin_r4))) ++ wsX70 ++ wsX30 ++ wsX50 ++ wsX40 ++ wsX00 ++ wsX20 ++ wsX60 ++ (vx_atS RX7 81 "java/lang/IllegalArgumentException" ["java/lang/RuntimeException", "java/lang/Exception"]).filter goodWord)
def wsL_send_r1 : List Cond := [Cond.classLink RL 18 "java/lang/IndexOutOfBoundsException", Cond.classLink RL 13 "java/lang/IllegalArgumentException", Cond.classLink RL 20 "java/lang/IllegalStateException", Cond.methodLink RL 15 yX7_send, Cond.instanceMethod yX7_send, Cond.selects RX7 yX7_send yX7_send, Cond.initialized RX7, Cond.code yX7_send cX7_send 7 (some .int), Cond.classLink RX7 77 "java/lang/IllegalArgumentException", Cond.initialized "java/lang/IllegalArgumentException", Cond.classLink RX7 110 "java/lang/IllegalStateException", Cond.initialized "java/lang/IllegalStateException", Cond.fieldLink RX7 28 "Creditfabric" "buffers" "LCreditfabric$Buffers;", Cond.fieldLink RX7 42 "Creditfabric" "senders" "LCreditfabric$Senders;", Cond.fieldLink RX7 115 "Creditfabric" "now" "I", Cond.fieldLink RX7 21 "Creditfabric" "traffic" "LCreditfabric$Packets;", Cond.methodLink RX7 92 yX7_checkSwitch, Cond.instanceMethod yX7_checkSwitch, Cond.selects RX7 yX7_checkSwitch yX7_checkSwitch, Cond.code yX7_checkSwitch cX7_checkSwitch 2 none, Cond.classLink RX7 209 "java/lang/IndexOutOfBoundsException", Cond.initialized "java/lang/IndexOutOfBoundsException", Cond.fieldLink RX7 12 "Creditfabric" "grid" "LCreditfabric$Grid;", Cond.methodLink RX7 206 yX3_has]
def wsL_send_r2 : List Cond := [Cond.instanceMethod yX3_has, Cond.selects RX3 yX3_has yX3_has, Cond.initialized RX3, Cond.code yX3_has cX3_has 2 (some .boolean), Cond.methodLink RX3 34 yX3_size, Cond.instanceMethod yX3_size, Cond.selects RX3 yX3_size yX3_size, Cond.code yX3_size cX3_size 1 (some .int), Cond.fieldLink RX3 23 "Creditfabric$Grid" "columns" "I", Cond.fieldLink RX3 27 "Creditfabric$Grid" "rows" "I", Cond.methodLink RX7 97 yX7_checkLane, Cond.static yX7_checkLane, Cond.code yX7_checkLane cX7_checkLane 1 none, Cond.methodLink RX7 102 yX7_bufferOf, Cond.static yX7_bufferOf, Cond.code yX7_bufferOf cX7_bufferOf 3 (some .int), Cond.methodLink RX7 106 yX0_isFull, Cond.instanceMethod yX0_isFull, Cond.selects RX0 yX0_isFull yX0_isFull, Cond.initialized RX0, Cond.code yX0_isFull cX0_isFull 2 (some .boolean), Cond.fieldLink RX0 20 "Creditfabric$Buffers" "sizes" "LCreditfabric$Row;", Cond.fieldLink RX0 23 "Creditfabric$Buffers" "room" "I", Cond.methodLink RX0 30 yX5_at]
def wsL_send_r3 : List Cond := [Cond.instanceMethod yX5_at, Cond.selects RX5 yX5_at yX5_at, Cond.initialized RX5, Cond.code yX5_at cX5_at 2 (some .int), Cond.fieldLink RX5 7 "Creditfabric$Row" "numbers" "[I", Cond.methodLink RX7 119 yX6_isReady, Cond.instanceMethod yX6_isReady, Cond.selects RX6 yX6_isReady yX6_isReady, Cond.initialized RX6, Cond.code yX6_isReady cX6_isReady 4 (some .boolean), Cond.fieldLink RX6 20 "Creditfabric$Senders" "lastTicks" "LCreditfabric$Row;", Cond.fieldLink RX6 14 "Creditfabric$Senders" "gaps" "LCreditfabric$Row;", Cond.methodLink RX6 26 yX5_at, Cond.methodLink RX7 130 yX4_add, Cond.instanceMethod yX4_add, Cond.selects RX4 yX4_add yX4_add, Cond.initialized RX4, Cond.code yX4_add cX4_add 6 (some .int), Cond.fieldLink RX4 45 "Creditfabric$Packets" "count" "I", Cond.fieldLink RX4 14 "Creditfabric$Packets" "sources" "LCreditfabric$Row;", Cond.fieldLink RX4 20 "Creditfabric$Packets" "goals" "LCreditfabric$Row;", Cond.fieldLink RX4 23 "Creditfabric$Packets" "lanes" "LCreditfabric$Row;", Cond.fieldLink RX4 26 "Creditfabric$Packets" "modes" "LCreditfabric$Row;", Cond.fieldLink RX4 29 "Creditfabric$Packets" "places" "LCreditfabric$Row;"]
def wsL_send_r4 : List Cond := [Cond.fieldLink RX4 32 "Creditfabric$Packets" "inputs" "LCreditfabric$Row;", Cond.fieldLink RX4 35 "Creditfabric$Packets" "hopsGone" "LCreditfabric$Row;", Cond.fieldLink RX4 38 "Creditfabric$Packets" "marks" "LCreditfabric$Row;", Cond.methodLink RX4 52 yX5_put, Cond.instanceMethod yX5_put, Cond.selects RX5 yX5_put yX5_put, Cond.code yX5_put cX5_put 3 none, Cond.methodLink RX7 134 yX0_append, Cond.instanceMethod yX0_append, Cond.selects RX0 yX0_append yX0_append, Cond.code yX0_append cX0_append 3 none, Cond.fieldLink RX0 14 "Creditfabric$Buffers" "slots" "LCreditfabric$Row;", Cond.methodLink RX0 34 yX0_isFull, Cond.methodLink RX0 38 yX5_put, Cond.methodLink RX0 42 yX5_add, Cond.instanceMethod yX5_add, Cond.selects RX5 yX5_add yX5_add, Cond.code yX5_add cX5_add 3 none, Cond.methodLink RX5 13 yX5_at, Cond.methodLink RX5 17 yX5_put, Cond.methodLink RX7 138 yX6_note, Cond.instanceMethod yX6_note, Cond.selects RX6 yX6_note yX6_note, Cond.code yX6_note cX6_note 3 none]
def wsL_send_r5 : List Cond := [Cond.methodLink RX6 30 yX5_put]
def wsL_send : List Cond := .codeWith yL_send cL_send 7 (some .int) [(0, 14, 17, 18), (0, 14, 21, 13), (0, 14, 25, 20)] :: ((wsL_send_r1 ++ (wsL_send_r2 ++ (wsL_send_r3 ++ (wsL_send_r4 ++ wsL_send_r5)))) ++ wsX70 ++ wsX40 ++ wsX30 ++ wsX00 ++ wsX50 ++ wsX60 ++ (vx_atS RX7 81 "java/lang/IllegalArgumentException" ["java/lang/RuntimeException", "java/lang/Exception"]).filter goodWord ++ (vx_atS RX7 114 "java/lang/IllegalStateException" ["java/lang/RuntimeException", "java/lang/Exception"]).filter goodWord ++ (vx_atS RX7 213 "java/lang/IndexOutOfBoundsException" ["java/lang/RuntimeException", "java/lang/Exception"]).filter goodWord)
def wsL_run_r1 : List Cond := [Cond.classLink RL 13 "java/lang/IllegalArgumentException", Cond.methodLink RL 22 yX7_run, Cond.instanceMethod yX7_run, Cond.selects RX7 yX7_run yX7_run, Cond.initialized RX7, Cond.code yX7_run cX7_run 4 (some .int), Cond.classLink RX7 77 "java/lang/IllegalArgumentException", Cond.initialized "java/lang/IllegalArgumentException", Cond.fieldLink RX7 21 "Creditfabric" "traffic" "LCreditfabric$Packets;", Cond.methodLink RX7 146 yX7_runOne, Cond.instanceMethod yX7_runOne, Cond.selects RX7 yX7_runOne yX7_runOne, Cond.code yX7_runOne cX7_runOne 2 none, Cond.fieldLink RX7 35 "Creditfabric" "purse" "LCreditfabric$Credits;", Cond.fieldLink RX7 115 "Creditfabric" "now" "I", Cond.fieldLink RX7 240 "Creditfabric" "chosenCount" "I", Cond.fieldLink RX7 12 "Creditfabric" "grid" "LCreditfabric$Grid;", Cond.fieldLink RX7 70 "Creditfabric" "chosen" "LCreditfabric$Row;", Cond.methodLink RX7 237 yX2_comeBack, Cond.instanceMethod yX2_comeBack, Cond.selects RX2 yX2_comeBack yX2_comeBack, Cond.initialized RX2, Cond.code yX2_comeBack cX2_comeBack 5 none, Cond.fieldLink RX2 30 "Creditfabric$Credits" "comingInAll" "I"]
def wsL_run_r2 : List Cond := [Cond.fieldLink RX2 20 "Creditfabric$Credits" "coming" "LCreditfabric$Row;", Cond.fieldLink RX2 14 "Creditfabric$Credits" "there" "LCreditfabric$Row;", Cond.methodLink RX2 41 yX2_slotOf, Cond.static yX2_slotOf, Cond.code yX2_slotOf cX2_slotOf 2 (some .int), Cond.methodLink RX2 33 yX5_at, Cond.instanceMethod yX5_at, Cond.selects RX5 yX5_at yX5_at, Cond.initialized RX5, Cond.code yX5_at cX5_at 2 (some .int), Cond.fieldLink RX5 7 "Creditfabric$Row" "numbers" "[I", Cond.methodLink RX2 37 yX5_add, Cond.instanceMethod yX5_add, Cond.selects RX5 yX5_add yX5_add, Cond.code yX5_add cX5_add 3 none, Cond.methodLink RX5 13 yX5_at, Cond.methodLink RX5 17 yX5_put, Cond.instanceMethod yX5_put, Cond.selects RX5 yX5_put yX5_put, Cond.code yX5_put cX5_put 3 none, Cond.methodLink RX2 45 yX5_put, Cond.methodLink RX7 88 yX3_size, Cond.instanceMethod yX3_size, Cond.selects RX3 yX3_size yX3_size]
def wsL_run_r3 : List Cond := [Cond.initialized RX3, Cond.code yX3_size cX3_size 1 (some .int), Cond.fieldLink RX3 23 "Creditfabric$Grid" "columns" "I", Cond.fieldLink RX3 27 "Creditfabric$Grid" "rows" "I", Cond.methodLink RX7 243 yX7_chooseAt, Cond.instanceMethod yX7_chooseAt, Cond.selects RX7 yX7_chooseAt yX7_chooseAt, Cond.code yX7_chooseAt cX7_chooseAt 5 none, Cond.fieldLink RX7 67 "Creditfabric" "ready" "LCreditfabric$Row;", Cond.fieldLink RX7 28 "Creditfabric" "buffers" "LCreditfabric$Buffers;", Cond.methodLink RX7 235 yX5_fill, Cond.instanceMethod yX5_fill, Cond.selects RX5 yX5_fill yX5_fill, Cond.code yX5_fill cX5_fill 3 none, Cond.methodLink RX7 252 yX0_first, Cond.instanceMethod yX0_first, Cond.selects RX0 yX0_first yX0_first, Cond.initialized RX0, Cond.code yX0_first cX0_first 2 (some .int), Cond.fieldLink RX0 20 "Creditfabric$Buffers" "sizes" "LCreditfabric$Row;", Cond.fieldLink RX0 14 "Creditfabric$Buffers" "slots" "LCreditfabric$Row;", Cond.methodLink RX0 30 yX5_at, Cond.methodLink RX7 196 yX4_outputOf, Cond.instanceMethod yX4_outputOf]
def wsL_run_r4 : List Cond := [Cond.selects RX4 yX4_outputOf yX4_outputOf, Cond.initialized RX4, Cond.code yX4_outputOf cX4_outputOf 3 (some .int), Cond.fieldLink RX4 29 "Creditfabric$Packets" "places" "LCreditfabric$Row;", Cond.fieldLink RX4 41 "Creditfabric$Packets" "grid" "LCreditfabric$Grid;", Cond.fieldLink RX4 20 "Creditfabric$Packets" "goals" "LCreditfabric$Row;", Cond.fieldLink RX4 26 "Creditfabric$Packets" "modes" "LCreditfabric$Row;", Cond.methodLink RX4 56 yX5_at, Cond.methodLink RX4 60 yX3_outputTowards, Cond.instanceMethod yX3_outputTowards, Cond.selects RX3 yX3_outputTowards yX3_outputTowards, Cond.code yX3_outputTowards cX3_outputTowards 6 (some .int), Cond.fieldLink RX3 14 "Creditfabric$Grid" "columnOf" "LCreditfabric$Row;", Cond.fieldLink RX3 20 "Creditfabric$Grid" "rowOf" "LCreditfabric$Row;", Cond.methodLink RX3 38 yX5_at, Cond.methodLink RX3 42 yX3_stepTowards, Cond.static yX3_stepTowards, Cond.code yX3_stepTowards cX3_stepTowards 4 (some .int), Cond.methodLink RX7 149 yX5_at, Cond.methodLink RX7 258 yX7_canGo, Cond.instanceMethod yX7_canGo, Cond.selects RX7 yX7_canGo yX7_canGo, Cond.code yX7_canGo cX7_canGo 5 (some .boolean), Cond.fieldLink RX7 60 "Creditfabric" "paused" "LCreditfabric$Row;"]
def wsL_run_r5 : List Cond := [Cond.methodLink RX7 214 yX3_behind, Cond.instanceMethod yX3_behind, Cond.selects RX3 yX3_behind yX3_behind, Cond.code yX3_behind cX3_behind 3 (some .int), Cond.methodLink RX7 102 yX7_bufferOf, Cond.static yX7_bufferOf, Cond.code yX7_bufferOf cX7_bufferOf 3 (some .int), Cond.methodLink RX7 162 yX2_there, Cond.instanceMethod yX2_there, Cond.selects RX2 yX2_there yX2_there, Cond.code yX2_there cX2_there 2 (some .int), Cond.methodLink RX7 153 yX5_put, Cond.methodLink RX7 262 yX7_takeTurn, Cond.instanceMethod yX7_takeTurn, Cond.selects RX7 yX7_takeTurn yX7_takeTurn, Cond.code yX7_takeTurn cX7_takeTurn 8 none, Cond.fieldLink RX7 64 "Creditfabric" "turns" "LCreditfabric$Row;", Cond.methodLink RX7 246 yX7_move, Cond.instanceMethod yX7_move, Cond.selects RX7 yX7_move yX7_move, Cond.code yX7_move cX7_move 7 none, Cond.fieldLink RX7 42 "Creditfabric" "senders" "LCreditfabric$Senders;", Cond.methodLink RX7 269 yX0_removeFirst, Cond.instanceMethod yX0_removeFirst]
def wsL_run_r6 : List Cond := [Cond.selects RX0 yX0_removeFirst yX0_removeFirst, Cond.code yX0_removeFirst cX0_removeFirst 4 none, Cond.methodLink RX0 38 yX5_put, Cond.methodLink RX0 42 yX5_add, Cond.methodLink RX7 272 yX2_giveBack, Cond.instanceMethod yX2_giveBack, Cond.selects RX2 yX2_giveBack yX2_giveBack, Cond.code yX2_giveBack cX2_giveBack 3 none, Cond.fieldLink RX2 23 "Creditfabric$Credits" "delay" "I", Cond.methodLink RX7 275 yX4_goOut, Cond.instanceMethod yX4_goOut, Cond.selects RX4 yX4_goOut yX4_goOut, Cond.code yX4_goOut cX4_goOut 2 none, Cond.fieldLink RX4 49 "Creditfabric$Packets" "gone" "I", Cond.methodLink RX4 52 yX5_put, Cond.methodLink RX7 281 yX6_adapt, Cond.instanceMethod yX6_adapt, Cond.selects RX6 yX6_adapt yX6_adapt, Cond.initialized RX6, Cond.code yX6_adapt cX6_adapt 4 none, Cond.fieldLink RX6 14 "Creditfabric$Senders" "gaps" "LCreditfabric$Row;", Cond.methodLink RX6 34 Lib.Math.min.name, Cond.static Lib.Math.min.name, Cond.initialized "java/lang/Math"]
def wsL_run_r7 : List Cond := [Cond.code Lib.Math.min.name Lib.Math.min.code 2 (some .int), Cond.methodLink RX6 40 Lib.Math.max.name, Cond.static Lib.Math.max.name, Cond.code Lib.Math.max.name Lib.Math.max.code 2 (some .int), Cond.methodLink RX6 26 yX5_at, Cond.methodLink RX6 30 yX5_put, Cond.methodLink RX7 167 yX2_take, Cond.instanceMethod yX2_take, Cond.selects RX2 yX2_take yX2_take, Cond.code yX2_take cX2_take 2 none, Cond.methodLink RX7 134 yX0_append, Cond.instanceMethod yX0_append, Cond.selects RX0 yX0_append yX0_append, Cond.code yX0_append cX0_append 3 none, Cond.methodLink RX0 34 yX0_isFull, Cond.instanceMethod yX0_isFull, Cond.selects RX0 yX0_isFull yX0_isFull, Cond.code yX0_isFull cX0_isFull 2 (some .boolean), Cond.fieldLink RX0 23 "Creditfabric$Buffers" "room" "I", Cond.methodLink RX7 285 yX4_goOver, Cond.instanceMethod yX4_goOver, Cond.selects RX4 yX4_goOver yX4_goOver, Cond.code yX4_goOver cX4_goOver 4 none, Cond.fieldLink RX4 32 "Creditfabric$Packets" "inputs" "LCreditfabric$Row;"]
def wsL_run_r8 : List Cond := [Cond.fieldLink RX4 35 "Creditfabric$Packets" "hopsGone" "LCreditfabric$Row;", Cond.methodLink RX4 66 yX5_add, Cond.methodLink RX7 249 yX7_markInCrowd, Cond.instanceMethod yX7_markInCrowd, Cond.selects RX7 yX7_markInCrowd yX7_markInCrowd, Cond.code yX7_markInCrowd cX7_markInCrowd 3 none, Cond.methodLink RX7 288 yX0_load, Cond.instanceMethod yX0_load, Cond.selects RX0 yX0_load yX0_load, Cond.code yX0_load cX0_load 4 (some .int)]
def wsL_run : List Cond := .codeWith yL_run cL_run 4 (some .int) [(0, 9, 12, 13)] :: ((wsL_run_r1 ++ (wsL_run_r2 ++ (wsL_run_r3 ++ (wsL_run_r4 ++ (wsL_run_r5 ++ (wsL_run_r6 ++ (wsL_run_r7 ++ wsL_run_r8))))))) ++ wsX70 ++ wsX40 ++ wsX20 ++ wsX50 ++ wsX30 ++ wsX00 ++ wsX60 ++ (vx_atS RX7 81 "java/lang/IllegalArgumentException" ["java/lang/RuntimeException", "java/lang/Exception"]).filter goodWord)
def wsL_pause_r1 : List Cond := [Cond.classLink RL 18 "java/lang/IndexOutOfBoundsException", Cond.methodLink RL 26 yX7_pause, Cond.instanceMethod yX7_pause, Cond.selects RX7 yX7_pause yX7_pause, Cond.initialized RX7, Cond.code yX7_pause cX7_pause 4 (some .boolean), Cond.fieldLink RX7 60 "Creditfabric" "paused" "LCreditfabric$Row;", Cond.methodLink RX7 92 yX7_checkSwitch, Cond.instanceMethod yX7_checkSwitch, Cond.selects RX7 yX7_checkSwitch yX7_checkSwitch, Cond.code yX7_checkSwitch cX7_checkSwitch 2 none, Cond.classLink RX7 209 "java/lang/IndexOutOfBoundsException", Cond.initialized "java/lang/IndexOutOfBoundsException", Cond.fieldLink RX7 12 "Creditfabric" "grid" "LCreditfabric$Grid;", Cond.methodLink RX7 206 yX3_has, Cond.instanceMethod yX3_has, Cond.selects RX3 yX3_has yX3_has, Cond.initialized RX3, Cond.code yX3_has cX3_has 2 (some .boolean), Cond.methodLink RX3 34 yX3_size, Cond.instanceMethod yX3_size, Cond.selects RX3 yX3_size yX3_size, Cond.code yX3_size cX3_size 1 (some .int), Cond.fieldLink RX3 23 "Creditfabric$Grid" "columns" "I"]
def wsL_pause_r2 : List Cond := [Cond.fieldLink RX3 27 "Creditfabric$Grid" "rows" "I", Cond.methodLink RX7 149 yX5_at, Cond.instanceMethod yX5_at, Cond.selects RX5 yX5_at yX5_at, Cond.initialized RX5, Cond.code yX5_at cX5_at 2 (some .int), Cond.fieldLink RX5 7 "Creditfabric$Row" "numbers" "[I", Cond.methodLink RX7 153 yX5_put, Cond.instanceMethod yX5_put, Cond.selects RX5 yX5_put yX5_put, Cond.code yX5_put cX5_put 3 none]
def wsL_pause : List Cond := .codeWith yL_pause cL_pause 5 (some .int) [(0, 17, 20, 18)] :: ((wsL_pause_r1 ++ wsL_pause_r2) ++ wsX70 ++ wsX30 ++ wsX50 ++ (vx_atS RX7 213 "java/lang/IndexOutOfBoundsException" ["java/lang/RuntimeException", "java/lang/Exception"]).filter goodWord)
def wsL_lose_r1 : List Cond := [Cond.classLink RL 18 "java/lang/IndexOutOfBoundsException", Cond.classLink RL 13 "java/lang/IllegalArgumentException", Cond.classLink RL 20 "java/lang/IllegalStateException", Cond.methodLink RL 30 yX7_lose, Cond.instanceMethod yX7_lose, Cond.selects RX7 yX7_lose yX7_lose, Cond.initialized RX7, Cond.code yX7_lose cX7_lose 5 (some .int), Cond.classLink RX7 110 "java/lang/IllegalStateException", Cond.initialized "java/lang/IllegalStateException", Cond.fieldLink RX7 35 "Creditfabric" "purse" "LCreditfabric$Credits;", Cond.methodLink RX7 156 yX7_checkLink, Cond.instanceMethod yX7_checkLink, Cond.selects RX7 yX7_checkLink yX7_checkLink, Cond.code yX7_checkLink cX7_checkLink 3 none, Cond.classLink RX7 209 "java/lang/IndexOutOfBoundsException", Cond.initialized "java/lang/IndexOutOfBoundsException", Cond.fieldLink RX7 12 "Creditfabric" "grid" "LCreditfabric$Grid;", Cond.methodLink RX7 92 yX7_checkSwitch, Cond.instanceMethod yX7_checkSwitch, Cond.selects RX7 yX7_checkSwitch yX7_checkSwitch, Cond.code yX7_checkSwitch cX7_checkSwitch 2 none, Cond.methodLink RX7 206 yX3_has, Cond.instanceMethod yX3_has]
def wsL_lose_r2 : List Cond := [Cond.selects RX3 yX3_has yX3_has, Cond.initialized RX3, Cond.code yX3_has cX3_has 2 (some .boolean), Cond.methodLink RX3 34 yX3_size, Cond.instanceMethod yX3_size, Cond.selects RX3 yX3_size yX3_size, Cond.code yX3_size cX3_size 1 (some .int), Cond.fieldLink RX3 23 "Creditfabric$Grid" "columns" "I", Cond.fieldLink RX3 27 "Creditfabric$Grid" "rows" "I", Cond.methodLink RX7 214 yX3_behind, Cond.instanceMethod yX3_behind, Cond.selects RX3 yX3_behind yX3_behind, Cond.code yX3_behind cX3_behind 3 (some .int), Cond.fieldLink RX3 14 "Creditfabric$Grid" "columnOf" "LCreditfabric$Row;", Cond.fieldLink RX3 20 "Creditfabric$Grid" "rowOf" "LCreditfabric$Row;", Cond.methodLink RX3 38 yX5_at, Cond.instanceMethod yX5_at, Cond.selects RX5 yX5_at yX5_at, Cond.initialized RX5, Cond.code yX5_at cX5_at 2 (some .int), Cond.fieldLink RX5 7 "Creditfabric$Row" "numbers" "[I", Cond.methodLink RX7 97 yX7_checkLane, Cond.static yX7_checkLane, Cond.code yX7_checkLane cX7_checkLane 1 none]
def wsL_lose_r3 : List Cond := [Cond.classLink RX7 77 "java/lang/IllegalArgumentException", Cond.initialized "java/lang/IllegalArgumentException", Cond.methodLink RX7 159 yX7_bufferBehind, Cond.instanceMethod yX7_bufferBehind, Cond.selects RX7 yX7_bufferBehind yX7_bufferBehind, Cond.code yX7_bufferBehind cX7_bufferBehind 4 (some .int), Cond.methodLink RX7 102 yX7_bufferOf, Cond.static yX7_bufferOf, Cond.code yX7_bufferOf cX7_bufferOf 3 (some .int), Cond.methodLink RX7 162 yX2_there, Cond.instanceMethod yX2_there, Cond.selects RX2 yX2_there yX2_there, Cond.initialized RX2, Cond.code yX2_there cX2_there 2 (some .int), Cond.fieldLink RX2 14 "Creditfabric$Credits" "there" "LCreditfabric$Row;", Cond.methodLink RX2 33 yX5_at, Cond.methodLink RX7 167 yX2_take, Cond.instanceMethod yX2_take, Cond.selects RX2 yX2_take yX2_take, Cond.code yX2_take cX2_take 2 none, Cond.methodLink RX2 37 yX5_add, Cond.instanceMethod yX5_add, Cond.selects RX5 yX5_add yX5_add, Cond.code yX5_add cX5_add 3 none]
def wsL_lose_r4 : List Cond := [Cond.methodLink RX5 13 yX5_at, Cond.methodLink RX5 17 yX5_put, Cond.instanceMethod yX5_put, Cond.selects RX5 yX5_put yX5_put, Cond.code yX5_put cX5_put 3 none]
def wsL_lose : List Cond := .codeWith yL_lose cL_lose 6 (some .int) [(0, 12, 15, 18), (0, 12, 19, 13), (0, 12, 23, 20)] :: ((wsL_lose_r1 ++ (wsL_lose_r2 ++ (wsL_lose_r3 ++ wsL_lose_r4))) ++ wsX70 ++ wsX30 ++ wsX50 ++ wsX20 ++ (vx_atS RX7 114 "java/lang/IllegalStateException" ["java/lang/RuntimeException", "java/lang/Exception"]).filter goodWord ++ (vx_atS RX7 213 "java/lang/IndexOutOfBoundsException" ["java/lang/RuntimeException", "java/lang/Exception"]).filter goodWord ++ (vx_atS RX7 81 "java/lang/IllegalArgumentException" ["java/lang/RuntimeException", "java/lang/Exception"]).filter goodWord)
def wsL_credits_r1 : List Cond := [Cond.classLink RL 18 "java/lang/IndexOutOfBoundsException", Cond.classLink RL 13 "java/lang/IllegalArgumentException", Cond.methodLink RL 34 yX7_credits, Cond.instanceMethod yX7_credits, Cond.selects RX7 yX7_credits yX7_credits, Cond.initialized RX7, Cond.code yX7_credits cX7_credits 4 (some .int), Cond.fieldLink RX7 35 "Creditfabric" "purse" "LCreditfabric$Credits;", Cond.methodLink RX7 156 yX7_checkLink, Cond.instanceMethod yX7_checkLink, Cond.selects RX7 yX7_checkLink yX7_checkLink, Cond.code yX7_checkLink cX7_checkLink 3 none, Cond.classLink RX7 209 "java/lang/IndexOutOfBoundsException", Cond.initialized "java/lang/IndexOutOfBoundsException", Cond.fieldLink RX7 12 "Creditfabric" "grid" "LCreditfabric$Grid;", Cond.methodLink RX7 92 yX7_checkSwitch, Cond.instanceMethod yX7_checkSwitch, Cond.selects RX7 yX7_checkSwitch yX7_checkSwitch, Cond.code yX7_checkSwitch cX7_checkSwitch 2 none, Cond.methodLink RX7 206 yX3_has, Cond.instanceMethod yX3_has, Cond.selects RX3 yX3_has yX3_has, Cond.initialized RX3, Cond.code yX3_has cX3_has 2 (some .boolean)]
def wsL_credits_r2 : List Cond := [Cond.methodLink RX3 34 yX3_size, Cond.instanceMethod yX3_size, Cond.selects RX3 yX3_size yX3_size, Cond.code yX3_size cX3_size 1 (some .int), Cond.fieldLink RX3 23 "Creditfabric$Grid" "columns" "I", Cond.fieldLink RX3 27 "Creditfabric$Grid" "rows" "I", Cond.methodLink RX7 214 yX3_behind, Cond.instanceMethod yX3_behind, Cond.selects RX3 yX3_behind yX3_behind, Cond.code yX3_behind cX3_behind 3 (some .int), Cond.fieldLink RX3 14 "Creditfabric$Grid" "columnOf" "LCreditfabric$Row;", Cond.fieldLink RX3 20 "Creditfabric$Grid" "rowOf" "LCreditfabric$Row;", Cond.methodLink RX3 38 yX5_at, Cond.instanceMethod yX5_at, Cond.selects RX5 yX5_at yX5_at, Cond.initialized RX5, Cond.code yX5_at cX5_at 2 (some .int), Cond.fieldLink RX5 7 "Creditfabric$Row" "numbers" "[I", Cond.methodLink RX7 97 yX7_checkLane, Cond.static yX7_checkLane, Cond.code yX7_checkLane cX7_checkLane 1 none, Cond.classLink RX7 77 "java/lang/IllegalArgumentException", Cond.initialized "java/lang/IllegalArgumentException", Cond.methodLink RX7 159 yX7_bufferBehind]
def wsL_credits_r3 : List Cond := [Cond.instanceMethod yX7_bufferBehind, Cond.selects RX7 yX7_bufferBehind yX7_bufferBehind, Cond.code yX7_bufferBehind cX7_bufferBehind 4 (some .int), Cond.methodLink RX7 102 yX7_bufferOf, Cond.static yX7_bufferOf, Cond.code yX7_bufferOf cX7_bufferOf 3 (some .int), Cond.methodLink RX7 162 yX2_there, Cond.instanceMethod yX2_there, Cond.selects RX2 yX2_there yX2_there, Cond.initialized RX2, Cond.code yX2_there cX2_there 2 (some .int), Cond.fieldLink RX2 14 "Creditfabric$Credits" "there" "LCreditfabric$Row;", Cond.methodLink RX2 33 yX5_at]
def wsL_credits : List Cond := .codeWith yL_credits cL_credits 6 (some .int) [(0, 12, 15, 18), (0, 12, 19, 13)] :: ((wsL_credits_r1 ++ (wsL_credits_r2 ++ wsL_credits_r3)) ++ wsX70 ++ wsX30 ++ wsX50 ++ wsX20 ++ (vx_atS RX7 213 "java/lang/IndexOutOfBoundsException" ["java/lang/RuntimeException", "java/lang/Exception"]).filter goodWord ++ (vx_atS RX7 81 "java/lang/IllegalArgumentException" ["java/lang/RuntimeException", "java/lang/Exception"]).filter goodWord)
def wsL_inBuffer_r1 : List Cond := [Cond.classLink RL 18 "java/lang/IndexOutOfBoundsException", Cond.classLink RL 13 "java/lang/IllegalArgumentException", Cond.methodLink RL 37 yX7_inBuffer, Cond.instanceMethod yX7_inBuffer, Cond.selects RX7 yX7_inBuffer yX7_inBuffer, Cond.initialized RX7, Cond.code yX7_inBuffer cX7_inBuffer 4 (some .int), Cond.classLink RX7 77 "java/lang/IllegalArgumentException", Cond.initialized "java/lang/IllegalArgumentException", Cond.fieldLink RX7 28 "Creditfabric" "buffers" "LCreditfabric$Buffers;", Cond.methodLink RX7 92 yX7_checkSwitch, Cond.instanceMethod yX7_checkSwitch, Cond.selects RX7 yX7_checkSwitch yX7_checkSwitch, Cond.code yX7_checkSwitch cX7_checkSwitch 2 none, Cond.classLink RX7 209 "java/lang/IndexOutOfBoundsException", Cond.initialized "java/lang/IndexOutOfBoundsException", Cond.fieldLink RX7 12 "Creditfabric" "grid" "LCreditfabric$Grid;", Cond.methodLink RX7 206 yX3_has, Cond.instanceMethod yX3_has, Cond.selects RX3 yX3_has yX3_has, Cond.initialized RX3, Cond.code yX3_has cX3_has 2 (some .boolean), Cond.methodLink RX3 34 yX3_size, Cond.instanceMethod yX3_size]
def wsL_inBuffer_r2 : List Cond := [Cond.selects RX3 yX3_size yX3_size, Cond.code yX3_size cX3_size 1 (some .int), Cond.fieldLink RX3 23 "Creditfabric$Grid" "columns" "I", Cond.fieldLink RX3 27 "Creditfabric$Grid" "rows" "I", Cond.methodLink RX7 97 yX7_checkLane, Cond.static yX7_checkLane, Cond.code yX7_checkLane cX7_checkLane 1 none, Cond.methodLink RX7 102 yX7_bufferOf, Cond.static yX7_bufferOf, Cond.code yX7_bufferOf cX7_bufferOf 3 (some .int), Cond.methodLink RX7 179 yX0_size, Cond.instanceMethod yX0_size, Cond.selects RX0 yX0_size yX0_size, Cond.initialized RX0, Cond.code yX0_size cX0_size 2 (some .int), Cond.fieldLink RX0 20 "Creditfabric$Buffers" "sizes" "LCreditfabric$Row;", Cond.methodLink RX0 30 yX5_at, Cond.instanceMethod yX5_at, Cond.selects RX5 yX5_at yX5_at, Cond.initialized RX5, Cond.code yX5_at cX5_at 2 (some .int), Cond.fieldLink RX5 7 "Creditfabric$Row" "numbers" "[I"]
def wsL_inBuffer : List Cond := .codeWith yL_inBuffer cL_inBuffer 6 (some .int) [(0, 12, 15, 18), (0, 12, 19, 13)] :: ((wsL_inBuffer_r1 ++ wsL_inBuffer_r2) ++ wsX70 ++ wsX30 ++ wsX00 ++ wsX50 ++ (vx_atS RX7 81 "java/lang/IllegalArgumentException" ["java/lang/RuntimeException", "java/lang/Exception"]).filter goodWord ++ (vx_atS RX7 213 "java/lang/IndexOutOfBoundsException" ["java/lang/RuntimeException", "java/lang/Exception"]).filter goodWord)
def wsL_gap_r1 : List Cond := [Cond.classLink RL 18 "java/lang/IndexOutOfBoundsException", Cond.methodLink RL 40 yX7_gap, Cond.instanceMethod yX7_gap, Cond.selects RX7 yX7_gap yX7_gap, Cond.initialized RX7, Cond.code yX7_gap cX7_gap 2 (some .int), Cond.fieldLink RX7 42 "Creditfabric" "senders" "LCreditfabric$Senders;", Cond.methodLink RX7 92 yX7_checkSwitch, Cond.instanceMethod yX7_checkSwitch, Cond.selects RX7 yX7_checkSwitch yX7_checkSwitch, Cond.code yX7_checkSwitch cX7_checkSwitch 2 none, Cond.classLink RX7 209 "java/lang/IndexOutOfBoundsException", Cond.initialized "java/lang/IndexOutOfBoundsException", Cond.fieldLink RX7 12 "Creditfabric" "grid" "LCreditfabric$Grid;", Cond.methodLink RX7 206 yX3_has, Cond.instanceMethod yX3_has, Cond.selects RX3 yX3_has yX3_has, Cond.initialized RX3, Cond.code yX3_has cX3_has 2 (some .boolean), Cond.methodLink RX3 34 yX3_size, Cond.instanceMethod yX3_size, Cond.selects RX3 yX3_size yX3_size, Cond.code yX3_size cX3_size 1 (some .int), Cond.fieldLink RX3 23 "Creditfabric$Grid" "columns" "I"]
def wsL_gap_r2 : List Cond := [Cond.fieldLink RX3 27 "Creditfabric$Grid" "rows" "I", Cond.methodLink RX7 181 yX6_gapOf, Cond.instanceMethod yX6_gapOf, Cond.selects RX6 yX6_gapOf yX6_gapOf, Cond.initialized RX6, Cond.code yX6_gapOf cX6_gapOf 2 (some .int), Cond.fieldLink RX6 14 "Creditfabric$Senders" "gaps" "LCreditfabric$Row;", Cond.methodLink RX6 26 yX5_at, Cond.instanceMethod yX5_at, Cond.selects RX5 yX5_at yX5_at, Cond.initialized RX5, Cond.code yX5_at cX5_at 2 (some .int), Cond.fieldLink RX5 7 "Creditfabric$Row" "numbers" "[I"]
def wsL_gap : List Cond := .codeWith yL_gap cL_gap 4 (some .int) [(0, 9, 12, 18)] :: ((wsL_gap_r1 ++ wsL_gap_r2) ++ wsX70 ++ wsX30 ++ wsX60 ++ wsX50 ++ (vx_atS RX7 213 "java/lang/IndexOutOfBoundsException" ["java/lang/RuntimeException", "java/lang/Exception"]).filter goodWord)
def wsL_placeOf : List Cond := .codeWith yL_placeOf cL_placeOf 4 (some .int) [(0, 9, 12, 18)] :: ([.classLink RL 18 "java/lang/IndexOutOfBoundsException", .methodLink RL 43 yX7_placeOf, .instanceMethod yX7_placeOf, .selects RX7 yX7_placeOf yX7_placeOf, .initialized RX7, .code yX7_placeOf cX7_placeOf 2 (some .int), .fieldLink RX7 21 "Creditfabric" "traffic" "LCreditfabric$Packets;", .methodLink RX7 184 yX7_checkPacket, .instanceMethod yX7_checkPacket, .selects RX7 yX7_checkPacket yX7_checkPacket, .code yX7_checkPacket cX7_checkPacket 2 none, .classLink RX7 209 "java/lang/IndexOutOfBoundsException", .initialized "java/lang/IndexOutOfBoundsException", .methodLink RX7 149 yX5_at, .instanceMethod yX5_at, .selects RX5 yX5_at yX5_at, .initialized RX5, .code yX5_at cX5_at 2 (some .int), .fieldLink RX5 7 "Creditfabric$Row" "numbers" "[I"] ++ wsX70 ++ wsX40 ++ wsX50 ++ (vx_atS RX7 213 "java/lang/IndexOutOfBoundsException" ["java/lang/RuntimeException", "java/lang/Exception"]).filter goodWord)
def wsL_hops : List Cond := .codeWith yL_hops cL_hops 4 (some .int) [(0, 9, 12, 18)] :: ([.classLink RL 18 "java/lang/IndexOutOfBoundsException", .methodLink RL 46 yX7_hops, .instanceMethod yX7_hops, .selects RX7 yX7_hops yX7_hops, .initialized RX7, .code yX7_hops cX7_hops 2 (some .int), .fieldLink RX7 21 "Creditfabric" "traffic" "LCreditfabric$Packets;", .methodLink RX7 184 yX7_checkPacket, .instanceMethod yX7_checkPacket, .selects RX7 yX7_checkPacket yX7_checkPacket, .code yX7_checkPacket cX7_checkPacket 2 none, .classLink RX7 209 "java/lang/IndexOutOfBoundsException", .initialized "java/lang/IndexOutOfBoundsException", .methodLink RX7 149 yX5_at, .instanceMethod yX5_at, .selects RX5 yX5_at yX5_at, .initialized RX5, .code yX5_at cX5_at 2 (some .int), .fieldLink RX5 7 "Creditfabric$Row" "numbers" "[I"] ++ wsX70 ++ wsX40 ++ wsX50 ++ (vx_atS RX7 213 "java/lang/IndexOutOfBoundsException" ["java/lang/RuntimeException", "java/lang/Exception"]).filter goodWord)
def wsL_isMarked : List Cond := .codeWith yL_isMarked cL_isMarked 4 (some .int) [(0, 16, 19, 18)] :: ([.classLink RL 18 "java/lang/IndexOutOfBoundsException", .methodLink RL 49 yX7_isMarked, .instanceMethod yX7_isMarked, .selects RX7 yX7_isMarked yX7_isMarked, .initialized RX7, .code yX7_isMarked cX7_isMarked 2 (some .boolean), .fieldLink RX7 21 "Creditfabric" "traffic" "LCreditfabric$Packets;", .methodLink RX7 184 yX7_checkPacket, .instanceMethod yX7_checkPacket, .selects RX7 yX7_checkPacket yX7_checkPacket, .code yX7_checkPacket cX7_checkPacket 2 none, .classLink RX7 209 "java/lang/IndexOutOfBoundsException", .initialized "java/lang/IndexOutOfBoundsException", .methodLink RX7 149 yX5_at, .instanceMethod yX5_at, .selects RX5 yX5_at yX5_at, .initialized RX5, .code yX5_at cX5_at 2 (some .int), .fieldLink RX5 7 "Creditfabric$Row" "numbers" "[I"] ++ wsX70 ++ wsX40 ++ wsX50 ++ (vx_atS RX7 213 "java/lang/IndexOutOfBoundsException" ["java/lang/RuntimeException", "java/lang/Exception"]).filter goodWord)
def wsL_wants_r1 : List Cond := [Cond.classLink RL 18 "java/lang/IndexOutOfBoundsException", Cond.methodLink RL 53 yX7_wants, Cond.instanceMethod yX7_wants, Cond.selects RX7 yX7_wants yX7_wants, Cond.initialized RX7, Cond.code yX7_wants cX7_wants 2 (some .int), Cond.fieldLink RX7 21 "Creditfabric" "traffic" "LCreditfabric$Packets;", Cond.methodLink RX7 184 yX7_checkPacket, Cond.instanceMethod yX7_checkPacket, Cond.selects RX7 yX7_checkPacket yX7_checkPacket, Cond.code yX7_checkPacket cX7_checkPacket 2 none, Cond.classLink RX7 209 "java/lang/IndexOutOfBoundsException", Cond.initialized "java/lang/IndexOutOfBoundsException", Cond.methodLink RX7 196 yX4_outputOf, Cond.instanceMethod yX4_outputOf, Cond.selects RX4 yX4_outputOf yX4_outputOf, Cond.initialized RX4, Cond.code yX4_outputOf cX4_outputOf 3 (some .int), Cond.fieldLink RX4 29 "Creditfabric$Packets" "places" "LCreditfabric$Row;", Cond.fieldLink RX4 41 "Creditfabric$Packets" "grid" "LCreditfabric$Grid;", Cond.fieldLink RX4 20 "Creditfabric$Packets" "goals" "LCreditfabric$Row;", Cond.fieldLink RX4 26 "Creditfabric$Packets" "modes" "LCreditfabric$Row;", Cond.methodLink RX4 56 yX5_at, Cond.instanceMethod yX5_at]
def wsL_wants_r2 : List Cond := [Cond.selects RX5 yX5_at yX5_at, Cond.initialized RX5, Cond.code yX5_at cX5_at 2 (some .int), Cond.fieldLink RX5 7 "Creditfabric$Row" "numbers" "[I", Cond.methodLink RX4 60 yX3_outputTowards, Cond.instanceMethod yX3_outputTowards, Cond.selects RX3 yX3_outputTowards yX3_outputTowards, Cond.initialized RX3, Cond.code yX3_outputTowards cX3_outputTowards 6 (some .int), Cond.fieldLink RX3 14 "Creditfabric$Grid" "columnOf" "LCreditfabric$Row;", Cond.fieldLink RX3 20 "Creditfabric$Grid" "rowOf" "LCreditfabric$Row;", Cond.methodLink RX3 38 yX5_at, Cond.methodLink RX3 42 yX3_stepTowards, Cond.static yX3_stepTowards, Cond.code yX3_stepTowards cX3_stepTowards 4 (some .int)]
def wsL_wants : List Cond := .codeWith yL_wants cL_wants 4 (some .int) [(0, 9, 12, 18)] :: ((wsL_wants_r1 ++ wsL_wants_r2) ++ wsX70 ++ wsX40 ++ wsX50 ++ wsX30 ++ (vx_atS RX7 213 "java/lang/IndexOutOfBoundsException" ["java/lang/RuntimeException", "java/lang/Exception"]).filter goodWord)
def wsL_law0_r1 : List Cond := [Cond.classLink RL 8 RX7, Cond.instantiable RX7 12, Cond.initialized RX7, Cond.classLink RL 57 RX8, Cond.instantiable RX8 26, Cond.initialized RX8, Cond.arrayClass .long, Cond.methodLink RL 56 yX7_init, Cond.instanceMethod yX7_init, Cond.code yX7_init cX7_init 1 none, Cond.methodLink RX7 3 objectInit, Cond.instanceMethod objectInit, Cond.code objectInit ⟨#[0xb1]⟩ 1 none, Cond.classLink RX7 9 RX3, Cond.instantiable RX3 4, Cond.initialized RX3, Cond.fieldLink RX7 12 "Creditfabric" "grid" "LCreditfabric$Grid;", Cond.classLink RX7 16 RX4, Cond.instantiable RX4 11, Cond.initialized RX4, Cond.fieldLink RX7 21 "Creditfabric" "traffic" "LCreditfabric$Packets;", Cond.classLink RX7 25 RX0, Cond.instantiable RX0 3, Cond.initialized RX0]
def wsL_law0_r2 : List Cond := [Cond.fieldLink RX7 28 "Creditfabric" "buffers" "LCreditfabric$Buffers;", Cond.classLink RX7 32 RX2, Cond.instantiable RX2 4, Cond.initialized RX2, Cond.fieldLink RX7 35 "Creditfabric" "purse" "LCreditfabric$Credits;", Cond.classLink RX7 39 RX6, Cond.instantiable RX6 2, Cond.initialized RX6, Cond.fieldLink RX7 42 "Creditfabric" "senders" "LCreditfabric$Senders;", Cond.classLink RX7 46 RX1, Cond.instantiable RX1 5, Cond.initialized RX1, Cond.fieldLink RX7 51 "Creditfabric" "circles" "LCreditfabric$Circles;", Cond.classLink RX7 55 RX5, Cond.instantiable RX5 1, Cond.initialized RX5, Cond.fieldLink RX7 60 "Creditfabric" "paused" "LCreditfabric$Row;", Cond.fieldLink RX7 64 "Creditfabric" "turns" "LCreditfabric$Row;", Cond.fieldLink RX7 67 "Creditfabric" "ready" "LCreditfabric$Row;", Cond.fieldLink RX7 70 "Creditfabric" "chosen" "LCreditfabric$Row;", Cond.instanceMethod yX3_init, Cond.code yX3_init cX3_init 1 none, Cond.methodLink RX3 3 objectInit, Cond.classLink RX3 9 RX5]
def wsL_law0_r3 : List Cond := [Cond.fieldLink RX3 14 "Creditfabric$Grid" "columnOf" "LCreditfabric$Row;", Cond.fieldLink RX3 20 "Creditfabric$Grid" "rowOf" "LCreditfabric$Row;", Cond.methodLink RX3 11 yX5_init, Cond.instanceMethod yX5_init, Cond.code yX5_init cX5_init 2 none, Cond.methodLink RX5 1 objectInit, Cond.arrayClass .int, Cond.fieldLink RX5 7 "Creditfabric$Row" "numbers" "[I", Cond.methodLink RX7 18 yX4_init, Cond.instanceMethod yX4_init, Cond.code yX4_init cX4_init 2 none, Cond.methodLink RX4 3 objectInit, Cond.classLink RX4 9 RX5, Cond.fieldLink RX4 14 "Creditfabric$Packets" "sources" "LCreditfabric$Row;", Cond.fieldLink RX4 20 "Creditfabric$Packets" "goals" "LCreditfabric$Row;", Cond.fieldLink RX4 23 "Creditfabric$Packets" "lanes" "LCreditfabric$Row;", Cond.fieldLink RX4 26 "Creditfabric$Packets" "modes" "LCreditfabric$Row;", Cond.fieldLink RX4 29 "Creditfabric$Packets" "places" "LCreditfabric$Row;", Cond.fieldLink RX4 32 "Creditfabric$Packets" "inputs" "LCreditfabric$Row;", Cond.fieldLink RX4 35 "Creditfabric$Packets" "hopsGone" "LCreditfabric$Row;", Cond.fieldLink RX4 38 "Creditfabric$Packets" "marks" "LCreditfabric$Row;", Cond.fieldLink RX4 41 "Creditfabric$Packets" "grid" "LCreditfabric$Grid;", Cond.methodLink RX4 11 yX5_init, Cond.instanceMethod yX0_init]
def wsL_law0_r4 : List Cond := [Cond.code yX0_init cX0_init 1 none, Cond.methodLink RX0 3 objectInit, Cond.classLink RX0 9 RX5, Cond.fieldLink RX0 14 "Creditfabric$Buffers" "slots" "LCreditfabric$Row;", Cond.fieldLink RX0 20 "Creditfabric$Buffers" "sizes" "LCreditfabric$Row;", Cond.methodLink RX0 11 yX5_init, Cond.instanceMethod yX2_init, Cond.code yX2_init cX2_init 1 none, Cond.methodLink RX2 3 objectInit, Cond.classLink RX2 9 RX5, Cond.fieldLink RX2 14 "Creditfabric$Credits" "there" "LCreditfabric$Row;", Cond.fieldLink RX2 20 "Creditfabric$Credits" "coming" "LCreditfabric$Row;", Cond.methodLink RX2 11 yX5_init, Cond.instanceMethod yX6_init, Cond.code yX6_init cX6_init 1 none, Cond.methodLink RX6 3 objectInit, Cond.classLink RX6 9 RX5, Cond.fieldLink RX6 14 "Creditfabric$Senders" "gaps" "LCreditfabric$Row;", Cond.fieldLink RX6 20 "Creditfabric$Senders" "lastTicks" "LCreditfabric$Row;", Cond.methodLink RX6 11 yX5_init, Cond.methodLink RX7 48 yX1_init, Cond.instanceMethod yX1_init, Cond.code yX1_init cX1_init 4 none, Cond.methodLink RX1 3 objectInit]
def wsL_law0_r5 : List Cond := [Cond.classLink RX1 9 RX5, Cond.fieldLink RX1 14 "Creditfabric$Circles" "awaited" "LCreditfabric$Row;", Cond.fieldLink RX1 20 "Creditfabric$Circles" "hangings" "LCreditfabric$Row;", Cond.fieldLink RX1 23 "Creditfabric$Circles" "grid" "LCreditfabric$Grid;", Cond.fieldLink RX1 27 "Creditfabric$Circles" "traffic" "LCreditfabric$Packets;", Cond.fieldLink RX1 31 "Creditfabric$Circles" "buffers" "LCreditfabric$Buffers;", Cond.methodLink RX1 11 yX5_init, Cond.methodLink RX7 57 yX5_init, Cond.methodLink RX7 73 yX7_layAnew, Cond.instanceMethod yX7_layAnew, Cond.selects RX7 yX7_layAnew yX7_layAnew, Cond.code yX7_layAnew cX7_layAnew 5 none, Cond.fieldLink RX7 115 "Creditfabric" "now" "I", Cond.methodLink RX7 223 yX3_lay, Cond.instanceMethod yX3_lay, Cond.selects RX3 yX3_lay yX3_lay, Cond.code yX3_lay cX3_lay 5 none, Cond.fieldLink RX3 23 "Creditfabric$Grid" "columns" "I", Cond.fieldLink RX3 27 "Creditfabric$Grid" "rows" "I", Cond.methodLink RX3 30 yX5_put, Cond.instanceMethod yX5_put, Cond.selects RX5 yX5_put yX5_put, Cond.code yX5_put cX5_put 3 none, Cond.methodLink RX7 226 yX4_clear]
def wsL_law0_r6 : List Cond := [Cond.instanceMethod yX4_clear, Cond.selects RX4 yX4_clear yX4_clear, Cond.code yX4_clear cX4_clear 1 none, Cond.fieldLink RX4 45 "Creditfabric$Packets" "count" "I", Cond.fieldLink RX4 49 "Creditfabric$Packets" "gone" "I", Cond.methodLink RX7 229 yX0_clear, Cond.instanceMethod yX0_clear, Cond.selects RX0 yX0_clear yX0_clear, Cond.code yX0_clear cX0_clear 2 none, Cond.fieldLink RX0 23 "Creditfabric$Buffers" "room" "I", Cond.methodLink RX0 27 yX5_fill, Cond.instanceMethod yX5_fill, Cond.selects RX5 yX5_fill yX5_fill, Cond.code yX5_fill cX5_fill 3 none, Cond.methodLink RX7 231 yX2_fill, Cond.instanceMethod yX2_fill, Cond.selects RX2 yX2_fill yX2_fill, Cond.code yX2_fill cX2_fill 3 none, Cond.fieldLink RX2 23 "Creditfabric$Credits" "delay" "I", Cond.fieldLink RX2 30 "Creditfabric$Credits" "comingInAll" "I", Cond.methodLink RX2 27 yX5_fill, Cond.methodLink RX7 234 yX6_clear, Cond.instanceMethod yX6_clear, Cond.selects RX6 yX6_clear yX6_clear]
def wsL_law0_r7 : List Cond := [Cond.code yX6_clear cX6_clear 1 none, Cond.methodLink RX6 23 yX5_fill, Cond.methodLink RX7 235 yX5_fill, Cond.methodLink RL 59 yX8_init, Cond.instanceMethod yX8_init, Cond.code yX8_init cX8_init 1 none, Cond.methodLink RX8 1 objectInit, Cond.fieldLink RX8 7 "CreditfabricModel" "columns" "I", Cond.fieldLink RX8 13 "CreditfabricModel" "rows" "I", Cond.fieldLink RX8 16 "CreditfabricModel" "room" "I", Cond.fieldLink RX8 19 "CreditfabricModel" "buffer" "[I", Cond.fieldLink RX8 23 "CreditfabricModel" "many" "[I", Cond.fieldLink RX8 26 "CreditfabricModel" "credit" "[I", Cond.fieldLink RX8 29 "CreditfabricModel" "coming" "[I", Cond.fieldLink RX8 32 "CreditfabricModel" "next" "[I", Cond.fieldLink RX8 35 "CreditfabricModel" "gap" "[I", Cond.fieldLink RX8 38 "CreditfabricModel" "last" "[I", Cond.arrayClass .boolean, Cond.fieldLink RX8 41 "CreditfabricModel" "isPaused" "[Z", Cond.fieldLink RX8 45 "CreditfabricModel" "goal" "[I", Cond.fieldLink RX8 48 "CreditfabricModel" "source" "[I", Cond.fieldLink RX8 51 "CreditfabricModel" "lane" "[I", Cond.fieldLink RX8 54 "CreditfabricModel" "mode" "[I", Cond.fieldLink RX8 57 "CreditfabricModel" "place" "[I"]
def wsL_law0_r8 : List Cond := [Cond.fieldLink RX8 60 "CreditfabricModel" "hops" "[I", Cond.fieldLink RX8 63 "CreditfabricModel" "isMarked" "[Z", Cond.fieldLink RX8 66 "CreditfabricModel" "chosen" "[I", Cond.fieldLink RX8 69 "CreditfabricModel" "hangs" "[Z", Cond.fieldLink RX8 72 "CreditfabricModel" "isGone" "[Z", Cond.methodLink RX8 75 yX8_begins, Cond.instanceMethod yX8_begins, Cond.selects RX8 yX8_begins yX8_begins, Cond.code yX8_begins cX8_begins 6 none, Cond.fieldLink RX8 97 "CreditfabricModel" "delay" "I", Cond.fieldLink RX8 100 "CreditfabricModel" "tick" "I", Cond.fieldLink RX8 82 "CreditfabricModel" "sent" "I", Cond.fieldLink RX8 103 "CreditfabricModel" "out" "I", Cond.methodLink RL 60 yL_begin, Cond.static yL_begin, Cond.initialized RL, Cond.codeWith yL_begin cL_begin 7 (some .int) [(0, 14, 17, 13)], Cond.classLink RL 13 "java/lang/IllegalArgumentException", Cond.methodLink RL 7 yX7_begin, Cond.instanceMethod yX7_begin, Cond.selects RX7 yX7_begin yX7_begin, Cond.code yX7_begin cX7_begin 5 (some .int), Cond.classLink RX7 77 "java/lang/IllegalArgumentException", Cond.initialized "java/lang/IllegalArgumentException"]
def wsL_law0_r9 : List Cond := [Cond.methodLink RX7 88 yX3_size, Cond.instanceMethod yX3_size, Cond.selects RX3 yX3_size yX3_size, Cond.code yX3_size cX3_size 1 (some .int), Cond.methodLink RL 65 yX8_begin, Cond.instanceMethod yX8_begin, Cond.selects RX8 yX8_begin yX8_begin, Cond.code yX8_begin cX8_begin 5 (some .int), Cond.methodLink RX8 89 yX8_isWithin, Cond.static yX8_isWithin, Cond.code yX8_isWithin cX8_isWithin 3 (some .boolean), Cond.methodLink RX8 106 yX8_goes, Cond.instanceMethod yX8_goes, Cond.selects RX8 yX8_goes yX8_goes, Cond.code yX8_goes cX8_goes 4 (some .boolean), Cond.fieldLink RX8 79 "CreditfabricModel" "thrown" "I", Cond.methodLink RL 66 yX8_thrown, Cond.instanceMethod yX8_thrown, Cond.selects RX8 yX8_thrown yX8_thrown, Cond.code yX8_thrown cX8_thrown 1 (some .int), Cond.methodLink RL 70 yL_send, Cond.static yL_send, Cond.codeWith yL_send cL_send 7 (some .int) [(0, 14, 17, 18), (0, 14, 21, 13), (0, 14, 25, 20)], Cond.classLink RL 18 "java/lang/IndexOutOfBoundsException"]
def wsL_law0_r10 : List Cond := [Cond.classLink RL 20 "java/lang/IllegalStateException", Cond.methodLink RL 15 yX7_send, Cond.instanceMethod yX7_send, Cond.selects RX7 yX7_send yX7_send, Cond.code yX7_send cX7_send 7 (some .int), Cond.classLink RX7 110 "java/lang/IllegalStateException", Cond.initialized "java/lang/IllegalStateException", Cond.methodLink RX7 92 yX7_checkSwitch, Cond.instanceMethod yX7_checkSwitch, Cond.selects RX7 yX7_checkSwitch yX7_checkSwitch, Cond.code yX7_checkSwitch cX7_checkSwitch 2 none, Cond.classLink RX7 209 "java/lang/IndexOutOfBoundsException", Cond.initialized "java/lang/IndexOutOfBoundsException", Cond.methodLink RX7 206 yX3_has, Cond.instanceMethod yX3_has, Cond.selects RX3 yX3_has yX3_has, Cond.code yX3_has cX3_has 2 (some .boolean), Cond.methodLink RX3 34 yX3_size, Cond.methodLink RX7 97 yX7_checkLane, Cond.static yX7_checkLane, Cond.code yX7_checkLane cX7_checkLane 1 none, Cond.methodLink RX7 102 yX7_bufferOf, Cond.static yX7_bufferOf, Cond.code yX7_bufferOf cX7_bufferOf 3 (some .int)]
def wsL_law0_r11 : List Cond := [Cond.methodLink RX7 106 yX0_isFull, Cond.instanceMethod yX0_isFull, Cond.selects RX0 yX0_isFull yX0_isFull, Cond.code yX0_isFull cX0_isFull 2 (some .boolean), Cond.methodLink RX0 30 yX5_at, Cond.instanceMethod yX5_at, Cond.selects RX5 yX5_at yX5_at, Cond.code yX5_at cX5_at 2 (some .int), Cond.methodLink RX7 119 yX6_isReady, Cond.instanceMethod yX6_isReady, Cond.selects RX6 yX6_isReady yX6_isReady, Cond.code yX6_isReady cX6_isReady 4 (some .boolean), Cond.methodLink RX6 26 yX5_at, Cond.methodLink RX7 130 yX4_add, Cond.instanceMethod yX4_add, Cond.selects RX4 yX4_add yX4_add, Cond.code yX4_add cX4_add 6 (some .int), Cond.methodLink RX4 52 yX5_put, Cond.methodLink RX7 134 yX0_append, Cond.instanceMethod yX0_append, Cond.selects RX0 yX0_append yX0_append, Cond.code yX0_append cX0_append 3 none, Cond.methodLink RX0 34 yX0_isFull, Cond.methodLink RX0 38 yX5_put]
def wsL_law0_r12 : List Cond := [Cond.methodLink RX0 42 yX5_add, Cond.instanceMethod yX5_add, Cond.selects RX5 yX5_add yX5_add, Cond.code yX5_add cX5_add 3 none, Cond.methodLink RX5 13 yX5_at, Cond.methodLink RX5 17 yX5_put, Cond.methodLink RX7 138 yX6_note, Cond.instanceMethod yX6_note, Cond.selects RX6 yX6_note yX6_note, Cond.code yX6_note cX6_note 3 none, Cond.methodLink RX6 30 yX5_put, Cond.methodLink RL 72 yX8_send, Cond.instanceMethod yX8_send, Cond.selects RX8 yX8_send yX8_send, Cond.code yX8_send cX8_send 8 (some .int), Cond.methodLink RX8 85 yX8_isSwitch, Cond.instanceMethod yX8_isSwitch, Cond.selects RX8 yX8_isSwitch yX8_isSwitch, Cond.code yX8_isSwitch cX8_isSwitch 2 (some .boolean), Cond.methodLink RX8 110 yX8_bufferOf, Cond.static yX8_bufferOf, Cond.code yX8_bufferOf cX8_bufferOf 3 (some .int), Cond.methodLink RX8 114 yX8_puts, Cond.instanceMethod yX8_puts]
def wsL_law0_r13 : List Cond := [Cond.selects RX8 yX8_puts yX8_puts, Cond.code yX8_puts cX8_puts 3 none, Cond.methodLink RL 73 yL_run, Cond.static yL_run, Cond.codeWith yL_run cL_run 4 (some .int) [(0, 9, 12, 13)], Cond.methodLink RL 22 yX7_run, Cond.instanceMethod yX7_run, Cond.selects RX7 yX7_run yX7_run, Cond.code yX7_run cX7_run 4 (some .int), Cond.methodLink RX7 146 yX7_runOne, Cond.instanceMethod yX7_runOne, Cond.selects RX7 yX7_runOne yX7_runOne, Cond.code yX7_runOne cX7_runOne 2 none, Cond.fieldLink RX7 240 "Creditfabric" "chosenCount" "I", Cond.methodLink RX7 237 yX2_comeBack, Cond.instanceMethod yX2_comeBack, Cond.selects RX2 yX2_comeBack yX2_comeBack, Cond.code yX2_comeBack cX2_comeBack 5 none, Cond.methodLink RX2 41 yX2_slotOf, Cond.static yX2_slotOf, Cond.code yX2_slotOf cX2_slotOf 2 (some .int), Cond.methodLink RX2 33 yX5_at, Cond.methodLink RX2 37 yX5_add, Cond.methodLink RX2 45 yX5_put]
def wsL_law0_r14 : List Cond := [Cond.methodLink RX7 243 yX7_chooseAt, Cond.instanceMethod yX7_chooseAt, Cond.selects RX7 yX7_chooseAt yX7_chooseAt, Cond.code yX7_chooseAt cX7_chooseAt 5 none, Cond.methodLink RX7 252 yX0_first, Cond.instanceMethod yX0_first, Cond.selects RX0 yX0_first yX0_first, Cond.code yX0_first cX0_first 2 (some .int), Cond.methodLink RX7 196 yX4_outputOf, Cond.instanceMethod yX4_outputOf, Cond.selects RX4 yX4_outputOf yX4_outputOf, Cond.code yX4_outputOf cX4_outputOf 3 (some .int), Cond.methodLink RX4 56 yX5_at, Cond.methodLink RX4 60 yX3_outputTowards, Cond.instanceMethod yX3_outputTowards, Cond.selects RX3 yX3_outputTowards yX3_outputTowards, Cond.code yX3_outputTowards cX3_outputTowards 6 (some .int), Cond.methodLink RX3 38 yX5_at, Cond.methodLink RX3 42 yX3_stepTowards, Cond.static yX3_stepTowards, Cond.code yX3_stepTowards cX3_stepTowards 4 (some .int), Cond.methodLink RX7 149 yX5_at, Cond.methodLink RX7 258 yX7_canGo, Cond.instanceMethod yX7_canGo]
def wsL_law0_r15 : List Cond := [Cond.selects RX7 yX7_canGo yX7_canGo, Cond.code yX7_canGo cX7_canGo 5 (some .boolean), Cond.methodLink RX7 214 yX3_behind, Cond.instanceMethod yX3_behind, Cond.selects RX3 yX3_behind yX3_behind, Cond.code yX3_behind cX3_behind 3 (some .int), Cond.methodLink RX7 162 yX2_there, Cond.instanceMethod yX2_there, Cond.selects RX2 yX2_there yX2_there, Cond.code yX2_there cX2_there 2 (some .int), Cond.methodLink RX7 153 yX5_put, Cond.methodLink RX7 262 yX7_takeTurn, Cond.instanceMethod yX7_takeTurn, Cond.selects RX7 yX7_takeTurn yX7_takeTurn, Cond.code yX7_takeTurn cX7_takeTurn 8 none, Cond.methodLink RX7 246 yX7_move, Cond.instanceMethod yX7_move, Cond.selects RX7 yX7_move yX7_move, Cond.code yX7_move cX7_move 7 none, Cond.methodLink RX7 269 yX0_removeFirst, Cond.instanceMethod yX0_removeFirst, Cond.selects RX0 yX0_removeFirst yX0_removeFirst, Cond.code yX0_removeFirst cX0_removeFirst 4 none, Cond.methodLink RX7 272 yX2_giveBack]
def wsL_law0_r16 : List Cond := [Cond.instanceMethod yX2_giveBack, Cond.selects RX2 yX2_giveBack yX2_giveBack, Cond.code yX2_giveBack cX2_giveBack 3 none, Cond.methodLink RX7 275 yX4_goOut, Cond.instanceMethod yX4_goOut, Cond.selects RX4 yX4_goOut yX4_goOut, Cond.code yX4_goOut cX4_goOut 2 none, Cond.methodLink RX7 281 yX6_adapt, Cond.instanceMethod yX6_adapt, Cond.selects RX6 yX6_adapt yX6_adapt, Cond.code yX6_adapt cX6_adapt 4 none, Cond.methodLink RX6 34 Lib.Math.min.name, Cond.static Lib.Math.min.name, Cond.initialized "java/lang/Math", Cond.code Lib.Math.min.name Lib.Math.min.code 2 (some .int), Cond.methodLink RX6 40 Lib.Math.max.name, Cond.static Lib.Math.max.name, Cond.code Lib.Math.max.name Lib.Math.max.code 2 (some .int), Cond.methodLink RX7 167 yX2_take, Cond.instanceMethod yX2_take, Cond.selects RX2 yX2_take yX2_take, Cond.code yX2_take cX2_take 2 none, Cond.methodLink RX7 285 yX4_goOver, Cond.instanceMethod yX4_goOver]
def wsL_law0_r17 : List Cond := [Cond.selects RX4 yX4_goOver yX4_goOver, Cond.code yX4_goOver cX4_goOver 4 none, Cond.methodLink RX4 66 yX5_add, Cond.methodLink RX7 249 yX7_markInCrowd, Cond.instanceMethod yX7_markInCrowd, Cond.selects RX7 yX7_markInCrowd yX7_markInCrowd, Cond.code yX7_markInCrowd cX7_markInCrowd 3 none, Cond.methodLink RX7 288 yX0_load, Cond.instanceMethod yX0_load, Cond.selects RX0 yX0_load yX0_load, Cond.code yX0_load cX0_load 4 (some .int), Cond.methodLink RL 76 yX8_run, Cond.instanceMethod yX8_run, Cond.selects RX8 yX8_run yX8_run, Cond.code yX8_run cX8_run 4 (some .int), Cond.methodLink RX8 143 yX8_ticks, Cond.instanceMethod yX8_ticks, Cond.selects RX8 yX8_ticks yX8_ticks, Cond.code yX8_ticks cX8_ticks 7 (some .int), Cond.methodLink RX8 131 yX8_comeBack, Cond.instanceMethod yX8_comeBack, Cond.selects RX8 yX8_comeBack yX8_comeBack, Cond.code yX8_comeBack cX8_comeBack 2 none, Cond.methodLink RX8 93 yX8_neighbour]
def wsL_law0_r18 : List Cond := [Cond.instanceMethod yX8_neighbour, Cond.selects RX8 yX8_neighbour yX8_neighbour, Cond.code yX8_neighbour cX8_neighbour 6 (some .int), Cond.methodLink RX8 134 yX8_chooses, Cond.instanceMethod yX8_chooses, Cond.selects RX8 yX8_chooses yX8_chooses, Cond.code yX8_chooses cX8_chooses 8 none, Cond.methodLink RX8 121 yX8_wanted, Cond.instanceMethod yX8_wanted, Cond.selects RX8 yX8_wanted yX8_wanted, Cond.code yX8_wanted cX8_wanted 9 (some .int), Cond.methodLink RX8 124 yX8_canGo, Cond.instanceMethod yX8_canGo, Cond.selects RX8 yX8_canGo yX8_canGo, Cond.code yX8_canGo cX8_canGo 4 (some .boolean), Cond.methodLink RX8 118 yX8_linkOf, Cond.static yX8_linkOf, Cond.code yX8_linkOf cX8_linkOf 3 (some .int), Cond.methodLink RX8 137 yX8_leaves, Cond.instanceMethod yX8_leaves, Cond.selects RX8 yX8_leaves yX8_leaves, Cond.code yX8_leaves cX8_leaves 8 none, Cond.methodLink RX8 127 yX8_takes, Cond.instanceMethod yX8_takes]
def wsL_law0_r19 : List Cond := [Cond.selects RX8 yX8_takes yX8_takes, Cond.code yX8_takes cX8_takes 4 (some .int), Cond.methodLink RX8 140 yX8_inSwitch, Cond.instanceMethod yX8_inSwitch, Cond.selects RX8 yX8_inSwitch yX8_inSwitch, Cond.code yX8_inSwitch cX8_inSwitch 4 (some .int), Cond.methodLink RL 77 yL_pause, Cond.static yL_pause, Cond.codeWith yL_pause cL_pause 5 (some .int) [(0, 17, 20, 18)], Cond.methodLink RL 26 yX7_pause, Cond.instanceMethod yX7_pause, Cond.selects RX7 yX7_pause yX7_pause, Cond.code yX7_pause cX7_pause 4 (some .boolean), Cond.methodLink RL 80 yX8_pause, Cond.instanceMethod yX8_pause, Cond.selects RX8 yX8_pause yX8_pause, Cond.code yX8_pause cX8_pause 4 (some .boolean), Cond.methodLink RL 81 yL_lose, Cond.static yL_lose, Cond.codeWith yL_lose cL_lose 6 (some .int) [(0, 12, 15, 18), (0, 12, 19, 13), (0, 12, 23, 20)], Cond.methodLink RL 30 yX7_lose, Cond.instanceMethod yX7_lose, Cond.selects RX7 yX7_lose yX7_lose, Cond.code yX7_lose cX7_lose 5 (some .int)]
def wsL_law0_r20 : List Cond := [Cond.methodLink RX7 156 yX7_checkLink, Cond.instanceMethod yX7_checkLink, Cond.selects RX7 yX7_checkLink yX7_checkLink, Cond.code yX7_checkLink cX7_checkLink 3 none, Cond.methodLink RX7 159 yX7_bufferBehind, Cond.instanceMethod yX7_bufferBehind, Cond.selects RX7 yX7_bufferBehind yX7_bufferBehind, Cond.code yX7_bufferBehind cX7_bufferBehind 4 (some .int), Cond.methodLink RL 84 yX8_lose, Cond.instanceMethod yX8_lose, Cond.selects RX8 yX8_lose yX8_lose, Cond.code yX8_lose cX8_lose 6 (some .int), Cond.methodLink RX8 147 yX8_isLink, Cond.instanceMethod yX8_isLink, Cond.selects RX8 yX8_isLink yX8_isLink, Cond.code yX8_isLink cX8_isLink 3 (some .boolean), Cond.methodLink RL 85 yX7_recover, Cond.instanceMethod yX7_recover, Cond.selects RX7 yX7_recover yX7_recover, Cond.code yX7_recover cX7_recover 5 (some .int), Cond.methodLink RX7 170 yX0_free, Cond.instanceMethod yX0_free, Cond.selects RX0 yX0_free yX0_free, Cond.code yX0_free cX0_free 2 (some .int)]
def wsL_law0_r21 : List Cond := [Cond.methodLink RX7 173 yX2_settle, Cond.instanceMethod yX2_settle, Cond.selects RX2 yX2_settle yX2_settle, Cond.code yX2_settle cX2_settle 5 (some .int), Cond.methodLink RL 88 yX8_recover, Cond.instanceMethod yX8_recover, Cond.selects RX8 yX8_recover yX8_recover, Cond.code yX8_recover cX8_recover 7 (some .int), Cond.methodLink RL 89 yX7_tick, Cond.instanceMethod yX7_tick, Cond.selects RX7 yX7_tick yX7_tick, Cond.code yX7_tick cX7_tick 1 (some .int), Cond.methodLink RL 92 yX8_tick, Cond.instanceMethod yX8_tick, Cond.selects RX8 yX8_tick yX8_tick, Cond.code yX8_tick cX8_tick 1 (some .int), Cond.methodLink RL 93 yX7_packets, Cond.instanceMethod yX7_packets, Cond.selects RX7 yX7_packets yX7_packets, Cond.code yX7_packets cX7_packets 1 (some .int), Cond.methodLink RL 96 yX8_packets, Cond.instanceMethod yX8_packets, Cond.selects RX8 yX8_packets yX8_packets, Cond.code yX8_packets cX8_packets 1 (some .int)]
def wsL_law0_r22 : List Cond := [Cond.methodLink RL 97 yX7_arrived, Cond.instanceMethod yX7_arrived, Cond.selects RX7 yX7_arrived yX7_arrived, Cond.code yX7_arrived cX7_arrived 1 (some .int), Cond.methodLink RL 100 yX8_arrived, Cond.instanceMethod yX8_arrived, Cond.selects RX8 yX8_arrived yX8_arrived, Cond.code yX8_arrived cX8_arrived 1 (some .int), Cond.methodLink RL 101 yL_credits, Cond.static yL_credits, Cond.codeWith yL_credits cL_credits 6 (some .int) [(0, 12, 15, 18), (0, 12, 19, 13)], Cond.methodLink RL 34 yX7_credits, Cond.instanceMethod yX7_credits, Cond.selects RX7 yX7_credits yX7_credits, Cond.code yX7_credits cX7_credits 4 (some .int), Cond.methodLink RL 103 yX8_credits, Cond.instanceMethod yX8_credits, Cond.selects RX8 yX8_credits yX8_credits, Cond.code yX8_credits cX8_credits 4 (some .int), Cond.methodLink RL 104 yL_inBuffer, Cond.static yL_inBuffer, Cond.codeWith yL_inBuffer cL_inBuffer 6 (some .int) [(0, 12, 15, 18), (0, 12, 19, 13)], Cond.methodLink RL 37 yX7_inBuffer, Cond.instanceMethod yX7_inBuffer]
def wsL_law0_r23 : List Cond := [Cond.selects RX7 yX7_inBuffer yX7_inBuffer, Cond.code yX7_inBuffer cX7_inBuffer 4 (some .int), Cond.methodLink RX7 179 yX0_size, Cond.instanceMethod yX0_size, Cond.selects RX0 yX0_size yX0_size, Cond.code yX0_size cX0_size 2 (some .int), Cond.methodLink RL 106 yX8_inBuffer, Cond.instanceMethod yX8_inBuffer, Cond.selects RX8 yX8_inBuffer yX8_inBuffer, Cond.code yX8_inBuffer cX8_inBuffer 4 (some .int), Cond.methodLink RL 107 yL_gap, Cond.static yL_gap, Cond.codeWith yL_gap cL_gap 4 (some .int) [(0, 9, 12, 18)], Cond.methodLink RL 40 yX7_gap, Cond.instanceMethod yX7_gap, Cond.selects RX7 yX7_gap yX7_gap, Cond.code yX7_gap cX7_gap 2 (some .int), Cond.methodLink RX7 181 yX6_gapOf, Cond.instanceMethod yX6_gapOf, Cond.selects RX6 yX6_gapOf yX6_gapOf, Cond.code yX6_gapOf cX6_gapOf 2 (some .int), Cond.methodLink RL 109 yX8_gap, Cond.instanceMethod yX8_gap, Cond.selects RX8 yX8_gap yX8_gap]
def wsL_law0_r24 : List Cond := [Cond.code yX8_gap cX8_gap 2 (some .int), Cond.methodLink RL 110 yL_placeOf, Cond.static yL_placeOf, Cond.codeWith yL_placeOf cL_placeOf 4 (some .int) [(0, 9, 12, 18)], Cond.methodLink RL 43 yX7_placeOf, Cond.instanceMethod yX7_placeOf, Cond.selects RX7 yX7_placeOf yX7_placeOf, Cond.code yX7_placeOf cX7_placeOf 2 (some .int), Cond.methodLink RX7 184 yX7_checkPacket, Cond.instanceMethod yX7_checkPacket, Cond.selects RX7 yX7_checkPacket yX7_checkPacket, Cond.code yX7_checkPacket cX7_checkPacket 2 none, Cond.methodLink RL 112 yX8_placeOf, Cond.instanceMethod yX8_placeOf, Cond.selects RX8 yX8_placeOf yX8_placeOf, Cond.code yX8_placeOf cX8_placeOf 2 (some .int), Cond.methodLink RX8 151 yX8_isPacket, Cond.instanceMethod yX8_isPacket, Cond.selects RX8 yX8_isPacket yX8_isPacket, Cond.code yX8_isPacket cX8_isPacket 2 (some .boolean), Cond.methodLink RL 113 yL_hops, Cond.static yL_hops, Cond.codeWith yL_hops cL_hops 4 (some .int) [(0, 9, 12, 18)], Cond.methodLink RL 46 yX7_hops]
def wsL_law0_r25 : List Cond := [Cond.instanceMethod yX7_hops, Cond.selects RX7 yX7_hops yX7_hops, Cond.code yX7_hops cX7_hops 2 (some .int), Cond.methodLink RL 115 yX8_hops, Cond.instanceMethod yX8_hops, Cond.selects RX8 yX8_hops yX8_hops, Cond.code yX8_hops cX8_hops 2 (some .int), Cond.methodLink RL 116 yL_isMarked, Cond.static yL_isMarked, Cond.codeWith yL_isMarked cL_isMarked 4 (some .int) [(0, 16, 19, 18)], Cond.methodLink RL 49 yX7_isMarked, Cond.instanceMethod yX7_isMarked, Cond.selects RX7 yX7_isMarked yX7_isMarked, Cond.code yX7_isMarked cX7_isMarked 2 (some .boolean), Cond.methodLink RL 118 yX8_isMarked, Cond.instanceMethod yX8_isMarked, Cond.selects RX8 yX8_isMarked yX8_isMarked, Cond.code yX8_isMarked cX8_isMarked 2 (some .boolean), Cond.methodLink RL 119 yL_wants, Cond.static yL_wants, Cond.codeWith yL_wants cL_wants 4 (some .int) [(0, 9, 12, 18)], Cond.methodLink RL 53 yX7_wants, Cond.instanceMethod yX7_wants, Cond.selects RX7 yX7_wants yX7_wants]
def wsL_law0_r26 : List Cond := [Cond.code yX7_wants cX7_wants 2 (some .int), Cond.methodLink RL 121 yX8_wants, Cond.instanceMethod yX8_wants, Cond.selects RX8 yX8_wants yX8_wants, Cond.code yX8_wants cX8_wants 2 (some .int), Cond.methodLink RL 122 yX7_circle, Cond.instanceMethod yX7_circle, Cond.selects RX7 yX7_circle yX7_circle, Cond.code yX7_circle cX7_circle 1 (some .int), Cond.methodLink RX7 199 yX1_countWaiting, Cond.instanceMethod yX1_countWaiting, Cond.selects RX1 yX1_countWaiting yX1_countWaiting, Cond.code yX1_countWaiting cX1_countWaiting 4 (some .int), Cond.methodLink RX1 35 yX3_size, Cond.methodLink RX1 41 yX1_awaitedBy, Cond.instanceMethod yX1_awaitedBy, Cond.selects RX1 yX1_awaitedBy yX1_awaitedBy, Cond.code yX1_awaitedBy cX1_awaitedBy 4 (some .int), Cond.methodLink RX1 53 yX0_first, Cond.methodLink RX1 63 yX5_at, Cond.methodLink RX1 66 yX4_outputOf, Cond.methodLink RX1 72 yX1_nextBuffer, Cond.instanceMethod yX1_nextBuffer, Cond.selects RX1 yX1_nextBuffer yX1_nextBuffer]
def wsL_law0_r27 : List Cond := [Cond.code yX1_nextBuffer cX1_nextBuffer 5 (some .int), Cond.methodLink RX1 108 yX3_behind, Cond.methodLink RX1 76 yX0_isFull, Cond.methodLink RX1 45 yX5_put, Cond.methodLink RX1 49 yX1_comesBack, Cond.instanceMethod yX1_comesBack, Cond.selects RX1 yX1_comesBack yX1_comesBack, Cond.code yX1_comesBack cX1_comesBack 4 (some .boolean), Cond.methodLink RL 125 yX8_circle, Cond.instanceMethod yX8_circle, Cond.selects RX8 yX8_circle yX8_circle, Cond.code yX8_circle cX8_circle 6 (some .int), Cond.methodLink RX8 154 yX8_waitsFor, Cond.instanceMethod yX8_waitsFor, Cond.selects RX8 yX8_waitsFor yX8_waitsFor, Cond.code yX8_waitsFor cX8_waitsFor 5 (some .int), Cond.methodLink RL 126 yX7_mayCircle, Cond.instanceMethod yX7_mayCircle, Cond.selects RX7 yX7_mayCircle yX7_mayCircle, Cond.code yX7_mayCircle cX7_mayCircle 1 (some .boolean), Cond.methodLink RX7 202 yX1_hangsTogether, Cond.instanceMethod yX1_hangsTogether, Cond.selects RX1 yX1_hangsTogether yX1_hangsTogether, Cond.code yX1_hangsTogether cX1_hangsTogether 3 (some .boolean)]
def wsL_law0_r28 : List Cond := [Cond.methodLink RX1 79 yX5_fill, Cond.methodLink RX1 86 yX1_hangAlong, Cond.instanceMethod yX1_hangAlong, Cond.selects RX1 yX1_hangAlong yX1_hangAlong, Cond.code yX1_hangAlong cX1_hangAlong 8 none, Cond.methodLink RX1 105 yX3_outputTowards, Cond.methodLink RX1 89 yX1_cutEnds, Cond.instanceMethod yX1_cutEnds, Cond.selects RX1 yX1_cutEnds yX1_cutEnds, Cond.code yX1_cutEnds cX1_cutEnds 5 (some .boolean), Cond.methodLink RX1 112 yX1_isEnd, Cond.instanceMethod yX1_isEnd, Cond.selects RX1 yX1_isEnd yX1_isEnd, Cond.code yX1_isEnd cX1_isEnd 6 (some .boolean), Cond.methodLink RL 130 yX8_mayCircle, Cond.instanceMethod yX8_mayCircle, Cond.selects RX8 yX8_mayCircle yX8_mayCircle, Cond.code yX8_mayCircle cX8_mayCircle 7 (some .boolean), Cond.methodLink RX8 157 yX8_lays, Cond.instanceMethod yX8_lays, Cond.selects RX8 yX8_lays yX8_lays, Cond.code yX8_lays cX8_lays 7 none]
def wsL_law0 : List Cond := (wsL_law0_r1 ++ (wsL_law0_r2 ++ (wsL_law0_r3 ++ (wsL_law0_r4 ++ (wsL_law0_r5 ++ (wsL_law0_r6 ++ (wsL_law0_r7 ++ (wsL_law0_r8 ++ (wsL_law0_r9 ++ (wsL_law0_r10 ++ (wsL_law0_r11 ++ (wsL_law0_r12 ++ (wsL_law0_r13 ++ (wsL_law0_r14 ++ (wsL_law0_r15 ++ (wsL_law0_r16 ++ (wsL_law0_r17 ++ (wsL_law0_r18 ++ (wsL_law0_r19 ++ (wsL_law0_r20 ++ (wsL_law0_r21 ++ (wsL_law0_r22 ++ (wsL_law0_r23 ++ (wsL_law0_r24 ++ (wsL_law0_r25 ++ (wsL_law0_r26 ++ (wsL_law0_r27 ++ wsL_law0_r28))))))))))))))))))))))))))) ++ wsX70 ++ wsX80 ++ wsX30 ++ wsX40 ++ wsX00 ++ wsX20 ++ wsX60 ++ wsX10 ++ wsX50 ++ ([] : List Cond)
def wsL_law : List Cond := wsL_law0 ++ (vx_atS RX7 81 "java/lang/IllegalArgumentException" ["java/lang/RuntimeException", "java/lang/Exception"]).filter goodWord ++ (vx_atS RX7 114 "java/lang/IllegalStateException" ["java/lang/RuntimeException", "java/lang/Exception"]).filter goodWord ++ (vx_atS RX7 213 "java/lang/IndexOutOfBoundsException" ["java/lang/RuntimeException", "java/lang/Exception"]).filter goodWord
abbrev vwCl : List vw_C := [(RX0, TX0, 3), (RX1, TX1, 5), (RX2, TX2, 4), (RX3, TX3, 4), (RX4, TX4, 11), (RX5, TX5, 1), (RX6, TX6, 2), (RX7, TX7, 12), (RX8, TX8, 26)]
